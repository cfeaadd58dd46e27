def fX8_countOf_28 (n : Nat) (σ : St) (k4 : (Int32 × Int32 × Int32) → Option (Int32)) (a : Int32 × Int32 × Int32 × Int32) : Option (Int32) := k4 (a.1, a.2.2.1 + a.2.2.2, a.2.1 + 1)
set_option maxHeartbeats 4000000 in
set_option maxRecDepth 100000 in
theorem bX8_countOf_28 {p : Program} {l : Launch} {e : Env} {s : State} {m : MethodId} {args : Array Value} {below : List Frame} {meth : Method} {c : Code} {A : Nat → Prop} {dC : Nat → ClassId} {dI : Nat → Nat → Nat} {cI cJ cZ : ClassId} {ad : Nat → Nat} {r : Int32} {n : Nat} {σ : St} (C0 : cx p s m args meth c cX8_countOf 4 RX8 (some .int)) (hK : va_K (dC, dI) vwCl (kT cI cJ cZ) s) (hX : xT s) (hA : ∀ q : Nat, s.heap.size ≤ q → A q) (k4 : (Int32 × Int32 × Int32) → Option (Int32)) (ih4 : ∀ (a : Int32 × Int32 × Int32), k4 a = some r → ∀ (H : Heap) (locs : List Loc) (ls : Array Slot), va_P (dC, dI) vwCl (vX8 cI cJ cZ ad σ) H → va_D A (vX8 cI cJ cZ ad σ) → va_S A s.heap H locs → lv_has ls 4 [(0, .ref (ad 0)), (1, .int a.1), (2, .int a.2.1), (3, .int a.2.2)] → W p l e ({ frames := 0, cells := 0, slots := 0, locals := 0 } : Room) s m args below meth c H locs 0 0 (MQ below (qI (dC, dI) (kT cI cJ cZ) (vX8 cI cJ cZ ad σ) A r) args s 0 0 A) (F0 m 4 ls [])) : ∀ (a : Int32 × Int32 × Int32 × Int32), fX8_countOf_28 n σ k4 a = some r → ∀ (H : Heap) (locs : List Loc) (ls : Array Slot), va_P (dC, dI) vwCl (vX8 cI cJ cZ ad σ) H → va_D A (vX8 cI cJ cZ ad σ) → va_S A s.heap H locs → lv_has ls 4 [(0, .ref (ad 0)), (1, .int a.1), (3, .int a.2.1)] → W p l e ({ frames := 0, cells := 0, slots := 0, locals := 0 } : Room) s m args below meth c H locs 0 0 (MQ below (qI (dC, dI) (kT cI cJ cZ) (vX8 cI cJ cZ ad σ) A r) args s 0 0 A) (F0 m 28 ls [.int a.2.2.2, .int a.2.2.1]) := by
  obtain ⟨hx, hb, hml, hown, hT, hr, hlocks⟩ := id C0
  intro a hd H locs ls hP hD hS hl
  unfold fX8_countOf_28 at hd
  refine lv_iadd hx hb dX8_countOf_28 ?_
  refine lv_istore_n (lv' := [(2, .int (a.2.2.1 + a.2.2.2)), (0, .ref (ad 0)), (1, .int a.1), (3, .int a.2.1)]) hx hb dX8_countOf_29 rfl hl (by decide) rfl (fun ls hl => ?_)
  refine lv_iinc (v := a.2.1 + 1) (lv' := [(3, .int (a.2.1 + 1)), (2, .int (a.2.2.1 + a.2.2.2)), (0, .ref (ad 0)), (1, .int a.1)]) hx hb dX8_countOf_30 hl (k := 3) rfl rfl (by decide) rfl (fun ls hl => ?_)
  refine lv_goto (tgt := 4) hx hb dX8_countOf_33 (by decide) ?_
  exact ih4 _ hd _ _ _ hP hD hS (lv_sub hl [2, 3, 1, 0] rfl)
def fX8_countOf_4 (n : Nat) (σ : St) (k4 : (Int32 × Int32 × Int32) → Option (Int32)) (a : Int32 × Int32 × Int32) : Option (Int32) := if (σ.1 3) ≤ a.2.2 then (some a.2.1) else (ix a.2.2 300 (if ((σ.2.1 2) a.2.2.toNatClampNeg) = a.1 then (fX8_countOf_28 n σ k4 (a.1, a.2.2, a.2.1, (1 : Int32))) else (fX8_countOf_28 n σ k4 (a.1, a.2.2, a.2.1, (0 : Int32)))))
set_option maxHeartbeats 4000000 in
set_option maxRecDepth 100000 in
theorem bX8_countOf_4 {p : Program} {l : Launch} {e : Env} {s : State} {m : MethodId} {args : Array Value} {below : List Frame} {meth : Method} {c : Code} {A : Nat → Prop} {dC : Nat → ClassId} {dI : Nat → Nat → Nat} {cI cJ cZ : ClassId} {ad : Nat → Nat} {r : Int32} {n : Nat} {σ : St} (C0 : cx p s m args meth c cX8_countOf 4 RX8 (some .int)) (hK : va_K (dC, dI) vwCl (kT cI cJ cZ) s) (hX : xT s) (hA : ∀ q : Nat, s.heap.size ≤ q → A q) (k4 : (Int32 × Int32 × Int32) → Option (Int32)) (ih4 : ∀ (a : Int32 × Int32 × Int32), k4 a = some r → ∀ (H : Heap) (locs : List Loc) (ls : Array Slot), va_P (dC, dI) vwCl (vX8 cI cJ cZ ad σ) H → va_D A (vX8 cI cJ cZ ad σ) → va_S A s.heap H locs → lv_has ls 4 [(0, .ref (ad 0)), (1, .int a.1), (2, .int a.2.1), (3, .int a.2.2)] → W p l e ({ frames := 0, cells := 0, slots := 0, locals := 0 } : Room) s m args below meth c H locs 0 0 (MQ below (qI (dC, dI) (kT cI cJ cZ) (vX8 cI cJ cZ ad σ) A r) args s 0 0 A) (F0 m 4 ls [])) : ∀ (a : Int32 × Int32 × Int32), fX8_countOf_4 n σ k4 a = some r → ∀ (H : Heap) (locs : List Loc) (ls : Array Slot), va_P (dC, dI) vwCl (vX8 cI cJ cZ ad σ) H → va_D A (vX8 cI cJ cZ ad σ) → va_S A s.heap H locs → lv_has ls 4 [(0, .ref (ad 0)), (1, .int a.1), (2, .int a.2.1), (3, .int a.2.2)] → W p l e ({ frames := 0, cells := 0, slots := 0, locals := 0 } : Room) s m args below meth c H locs 0 0 (MQ below (qI (dC, dI) (kT cI cJ cZ) (vX8 cI cJ cZ ad σ) A r) args s 0 0 A) (F0 m 4 ls []) := by
  obtain ⟨hx, hb, hml, hown, hT, hr, hlocks⟩ := id C0
  intro a hd H locs ls hP hD hS hl
  unfold fX8_countOf_4 at hd
  refine lv_iload_n hx hb dX8_countOf_4 rfl (lv_at hl 3 rfl) ?_
  refine lv_aload_n hx hb dX8_countOf_5 rfl (lv_at hl 0 rfl) ?_
  refine gX8_0_4 C0 hK hP wm_12_4 rfl dX8_countOf_6 ?_
  refine lv_icmp_ge (tgt := 36) hx hb dX8_countOf_9 (by decide) (fun c_1 => ?_) (fun c_1 => ?_)
  · replace hd := i_t hd c_1
    refine lv_iload_n hx hb dX8_countOf_36 rfl (lv_at hl 2 rfl) ?_
    obtain rfl := Option.some.inj hd
    exact my_iret C0 hK hP hD hS dX8_countOf_37
  · replace hd := i_e hd c_1
    refine lv_iload_n hx hb dX8_countOf_12 rfl (lv_at hl 2 rfl) ?_
    refine lv_aload_n hx hb dX8_countOf_13 rfl (lv_at hl 0 rfl) ?_
    refine gX8_0_8 C0 hK hP wm_6_9 dX8_countOf_14 ?_
    refine lv_iload_n hx hb dX8_countOf_17 rfl (lv_at hl 3 rfl) ?_
    obtain ⟨g_2, hd⟩ := ix_some hd
    refine lX8_5 C0 hK hP rfl g_2 dX8_countOf_18 ?_
    refine lv_iload_n hx hb dX8_countOf_19 rfl (lv_at hl 1 rfl) ?_
    refine lv_icmp_ne (tgt := 27) hx hb dX8_countOf_20 (by decide) (fun c_3 => ?_) (fun c_3 => ?_)
    · replace hd := i_e hd c_3
      refine lv_iconst (v := 0) hx hb dX8_countOf_27 (by decide) ?_
      exact bX8_countOf_28 C0 hK hX hA k4 ih4 _ hd _ _ _ hP hD hS (lv_sub hl [0, 1, 3] rfl)
    · replace hd := i_t hd c_3
      refine lv_iconst (v := 1) hx hb dX8_countOf_23 (by decide) ?_
      refine lv_goto (tgt := 28) hx hb dX8_countOf_24 (by decide) ?_
      exact bX8_countOf_28 C0 hK hX hA k4 ih4 _ hd _ _ _ hP hD hS (lv_sub hl [0, 1, 3] rfl)
set_option maxHeartbeats 4000000 in
set_option maxRecDepth 100000 in
theorem oX8_countOf_4 {p : Program} {l : Launch} {e : Env} {s : State} {m : MethodId} {args : Array Value} {below : List Frame} {meth : Method} {c : Code} {A : Nat → Prop} {dC : Nat → ClassId} {dI : Nat → Nat → Nat} {cI cJ cZ : ClassId} {ad : Nat → Nat} {r : Int32} {n : Nat} {σ : St} (C0 : cx p s m args meth c cX8_countOf 4 RX8 (some .int)) (hK : va_K (dC, dI) vwCl (kT cI cJ cZ) s) (hX : xT s) (hA : ∀ q : Nat, s.heap.size ≤ q → A q)  : ∀ nn : Nat, ∀ (a : Int32 × Int32 × Int32), loopF (fX8_countOf_4 n σ ) nn a = some r → ∀ (H : Heap) (locs : List Loc) (ls : Array Slot), va_P (dC, dI) vwCl (vX8 cI cJ cZ ad σ) H → va_D A (vX8 cI cJ cZ ad σ) → va_S A s.heap H locs → lv_has ls 4 [(0, .ref (ad 0)), (1, .int a.1), (2, .int a.2.1), (3, .int a.2.2)] → W p l e ({ frames := 0, cells := 0, slots := 0, locals := 0 } : Room) s m args below meth c H locs 0 0 (MQ below (qI (dC, dI) (kT cI cJ cZ) (vX8 cI cJ cZ ad σ) A r) args s 0 0 A) (F0 m 4 ls []) := by
  intro nn
  induction nn with
  | zero => intro a hd; cases hd
  | succ nn ih => intro a hd; exact bX8_countOf_4 C0 hK hX hA  _ ih a hd
def fX8_countOf (n : Nat) (σ : St) (p1 : Int32) : Option (Int32) := loopF (fX8_countOf_4 n σ ) n (p1, (0 : Int32), (0 : Int32))
set_option maxHeartbeats 4000000 in
set_option maxRecDepth 100000 in
theorem mX8_countOf (l : Launch) (dC : Nat → ClassId) (dI : Nat → Nat → Nat) (cI cJ cZ : ClassId) (ad : Nat → Nat) (n : Nat) (σ : St) (p1 : Int32) {r : Int32} (hd : fX8_countOf n σ p1 = some r) (sz : Nat)  : Met l yX8_countOf (wS yX8_countOf cX8_countOf 4 (some .int)) { frames := 0, cells := 0, slots := 0, locals := 0 } (pC (dC, dI) (kT cI cJ cZ) xT (vX8 cI cJ cZ ad σ) sz [.ref (ad 0), .int p1]) (qI (dC, dI) (kT cI cJ cZ) (vX8 cI cJ cZ ad σ) (va_A (vX8 cI cJ cZ ad σ) sz) r) 0 0 (va_A (vX8 cI cJ cZ ad σ) sz) := by
  refine my_ent (fun A => qI (dC, dI) (kT cI cJ cZ) (vX8 cI cJ cZ ad σ) A r) (by decide) (Nat.le_of_ble_eq_true rfl) ?_
  intro p e s m below meth c A hAe hnm C0 hK hX hP hD hA hS ls hl
  obtain ⟨hx, hb, hml, hown, hT, hr, hlocks⟩ := id C0
  unfold fX8_countOf at hd
  have hl : lv_has ls 4 [(0, .ref (ad 0)), (1, .int p1)] := hl
  refine lv_iconst (v := 0) hx hb dX8_countOf_0 (by decide) ?_
  refine lv_istore_n (lv' := [(2, .int (0 : Int32)), (0, .ref (ad 0)), (1, .int p1)]) hx hb dX8_countOf_1 rfl hl (by decide) rfl (fun ls hl => ?_)
  refine lv_iconst (v := 0) hx hb dX8_countOf_2 (by decide) ?_
  refine lv_istore_n (lv' := [(3, .int (0 : Int32)), (2, .int (0 : Int32)), (0, .ref (ad 0)), (1, .int p1)]) hx hb dX8_countOf_3 rfl hl (by decide) rfl (fun ls hl => ?_)
  exact oX8_countOf_4 C0 hK hX hA  _ _ hd _ _ _ hP hD hS (lv_sub hl [2, 3, 1, 0] rfl)
def fX8_first_2 (n : Nat) (σ : St) (k2 : (Int32 × Int32) → Option (Int32)) (a : Int32 × Int32) : Option (Int32) := if (σ.1 3) ≤ a.2 then (some a.2) else (ix a.2 300 (if ((σ.2.1 2) a.2.toNatClampNeg) = a.1 then (some a.2) else (k2 (a.1, a.2 + 1))))
set_option maxHeartbeats 4000000 in
set_option maxRecDepth 100000 in
theorem bX8_first_2 {p : Program} {l : Launch} {e : Env} {s : State} {m : MethodId} {args : Array Value} {below : List Frame} {meth : Method} {c : Code} {A : Nat → Prop} {dC : Nat → ClassId} {dI : Nat → Nat → Nat} {cI cJ cZ : ClassId} {ad : Nat → Nat} {r : Int32} {n : Nat} {σ : St} (C0 : cx p s m args meth c cX8_first 3 RX8 (some .int)) (hK : va_K (dC, dI) vwCl (kT cI cJ cZ) s) (hX : xT s) (hA : ∀ q : Nat, s.heap.size ≤ q → A q) (k2 : (Int32 × Int32) → Option (Int32)) (ih2 : ∀ (a : Int32 × Int32), k2 a = some r → ∀ (H : Heap) (locs : List Loc) (ls : Array Slot), va_P (dC, dI) vwCl (vX8 cI cJ cZ ad σ) H → va_D A (vX8 cI cJ cZ ad σ) → va_S A s.heap H locs → lv_has ls 3 [(0, .ref (ad 0)), (1, .int a.1), (2, .int a.2)] → W p l e ({ frames := 0, cells := 0, slots := 0, locals := 0 } : Room) s m args below meth c H locs 0 0 (MQ below (qI (dC, dI) (kT cI cJ cZ) (vX8 cI cJ cZ ad σ) A r) args s 0 0 A) (F0 m 2 ls [])) : ∀ (a : Int32 × Int32), fX8_first_2 n σ k2 a = some r → ∀ (H : Heap) (locs : List Loc) (ls : Array Slot), va_P (dC, dI) vwCl (vX8 cI cJ cZ ad σ) H → va_D A (vX8 cI cJ cZ ad σ) → va_S A s.heap H locs → lv_has ls 3 [(0, .ref (ad 0)), (1, .int a.1), (2, .int a.2)] → W p l e ({ frames := 0, cells := 0, slots := 0, locals := 0 } : Room) s m args below meth c H locs 0 0 (MQ below (qI (dC, dI) (kT cI cJ cZ) (vX8 cI cJ cZ ad σ) A r) args s 0 0 A) (F0 m 2 ls []) := by
  obtain ⟨hx, hb, hml, hown, hT, hr, hlocks⟩ := id C0
  intro a hd H locs ls hP hD hS hl
  unfold fX8_first_2 at hd
  refine lv_iload_n hx hb dX8_first_2 rfl (lv_at hl 2 rfl) ?_
  refine lv_aload_n hx hb dX8_first_3 rfl (lv_at hl 0 rfl) ?_
  refine gX8_0_4 C0 hK hP wm_12_4 rfl dX8_first_4 ?_
  refine lv_icmp_ge (tgt := 26) hx hb dX8_first_7 (by decide) (fun c_1 => ?_) (fun c_1 => ?_)
  · replace hd := i_t hd c_1
    refine lv_iload_n hx hb dX8_first_26 rfl (lv_at hl 2 rfl) ?_
    obtain rfl := Option.some.inj hd
    exact my_iret C0 hK hP hD hS dX8_first_27
  · replace hd := i_e hd c_1
    refine lv_aload_n hx hb dX8_first_10 rfl (lv_at hl 0 rfl) ?_
    refine gX8_0_8 C0 hK hP wm_6_9 dX8_first_11 ?_
    refine lv_iload_n hx hb dX8_first_14 rfl (lv_at hl 2 rfl) ?_
    obtain ⟨g_2, hd⟩ := ix_some hd
    refine lX8_5 C0 hK hP rfl g_2 dX8_first_15 ?_
    refine lv_iload_n hx hb dX8_first_16 rfl (lv_at hl 1 rfl) ?_
    refine lv_icmp_eq (tgt := 26) hx hb dX8_first_17 (by decide) (fun c_3 => ?_) (fun c_3 => ?_)
    · replace hd := i_t hd c_3
      refine lv_iload_n hx hb dX8_first_26 rfl (lv_at hl 2 rfl) ?_
      obtain rfl := Option.some.inj hd
      exact my_iret C0 hK hP hD hS dX8_first_27
    · replace hd := i_e hd c_3
      refine lv_iinc (v := a.2 + 1) (lv' := [(2, .int (a.2 + 1)), (0, .ref (ad 0)), (1, .int a.1)]) hx hb dX8_first_20 hl (k := 2) rfl rfl (by decide) rfl (fun ls hl => ?_)
      refine lv_goto (tgt := 2) hx hb dX8_first_23 (by decide) ?_
      exact ih2 _ hd _ _ _ hP hD hS (lv_sub hl [1, 2, 0] rfl)
set_option maxHeartbeats 4000000 in
set_option maxRecDepth 100000 in
theorem oX8_first_2 {p : Program} {l : Launch} {e : Env} {s : State} {m : MethodId} {args : Array Value} {below : List Frame} {meth : Method} {c : Code} {A : Nat → Prop} {dC : Nat → ClassId} {dI : Nat → Nat → Nat} {cI cJ cZ : ClassId} {ad : Nat → Nat} {r : Int32} {n : Nat} {σ : St} (C0 : cx p s m args meth c cX8_first 3 RX8 (some .int)) (hK : va_K (dC, dI) vwCl (kT cI cJ cZ) s) (hX : xT s) (hA : ∀ q : Nat, s.heap.size ≤ q → A q)  : ∀ nn : Nat, ∀ (a : Int32 × Int32), loopF (fX8_first_2 n σ ) nn a = some r → ∀ (H : Heap) (locs : List Loc) (ls : Array Slot), va_P (dC, dI) vwCl (vX8 cI cJ cZ ad σ) H → va_D A (vX8 cI cJ cZ ad σ) → va_S A s.heap H locs → lv_has ls 3 [(0, .ref (ad 0)), (1, .int a.1), (2, .int a.2)] → W p l e ({ frames := 0, cells := 0, slots := 0, locals := 0 } : Room) s m args below meth c H locs 0 0 (MQ below (qI (dC, dI) (kT cI cJ cZ) (vX8 cI cJ cZ ad σ) A r) args s 0 0 A) (F0 m 2 ls []) := by
  intro nn
  induction nn with
  | zero => intro a hd; cases hd
  | succ nn ih => intro a hd; exact bX8_first_2 C0 hK hX hA  _ ih a hd
def fX8_first (n : Nat) (σ : St) (p1 : Int32) : Option (Int32) := loopF (fX8_first_2 n σ ) n (p1, (0 : Int32))
set_option maxHeartbeats 4000000 in
set_option maxRecDepth 100000 in
theorem mX8_first (l : Launch) (dC : Nat → ClassId) (dI : Nat → Nat → Nat) (cI cJ cZ : ClassId) (ad : Nat → Nat) (n : Nat) (σ : St) (p1 : Int32) {r : Int32} (hd : fX8_first n σ p1 = some r) (sz : Nat)  : Met l yX8_first (wS yX8_first cX8_first 3 (some .int)) { frames := 0, cells := 0, slots := 0, locals := 0 } (pC (dC, dI) (kT cI cJ cZ) xT (vX8 cI cJ cZ ad σ) sz [.ref (ad 0), .int p1]) (qI (dC, dI) (kT cI cJ cZ) (vX8 cI cJ cZ ad σ) (va_A (vX8 cI cJ cZ ad σ) sz) r) 0 0 (va_A (vX8 cI cJ cZ ad σ) sz) := by
  refine my_ent (fun A => qI (dC, dI) (kT cI cJ cZ) (vX8 cI cJ cZ ad σ) A r) (by decide) (Nat.le_of_ble_eq_true rfl) ?_
  intro p e s m below meth c A hAe hnm C0 hK hX hP hD hA hS ls hl
  obtain ⟨hx, hb, hml, hown, hT, hr, hlocks⟩ := id C0
  unfold fX8_first at hd
  have hl : lv_has ls 3 [(0, .ref (ad 0)), (1, .int p1)] := hl
  refine lv_iconst (v := 0) hx hb dX8_first_0 (by decide) ?_
  refine lv_istore_n (lv' := [(2, .int (0 : Int32)), (0, .ref (ad 0)), (1, .int p1)]) hx hb dX8_first_1 rfl hl (by decide) rfl (fun ls hl => ?_)
  exact oX8_first_2 C0 hK hX hA  _ _ hd _ _ _ hP hD hS (lv_sub hl [1, 2, 0] rfl)
def fX8_keptFor_7 (n : Nat) (σ : St) (k7 : (Int64 × Int32) → Option (Int32)) (a : Int64 × Int32) : Option (Int32) := if a.2 < 0 then (some a.2) else (ix a.2 8 (if ((σ.2.2 5) a.2.toNatClampNeg) = a.1 then (some a.2) else (k7 (a.1, a.2 + (-1)))))
set_option maxHeartbeats 4000000 in
set_option maxRecDepth 100000 in
theorem bX8_keptFor_7 {p : Program} {l : Launch} {e : Env} {s : State} {m : MethodId} {args : Array Value} {below : List Frame} {meth : Method} {c : Code} {A : Nat → Prop} {dC : Nat → ClassId} {dI : Nat → Nat → Nat} {cI cJ cZ : ClassId} {ad : Nat → Nat} {r : Int32} {n : Nat} {σ : St} (C0 : cx p s m args meth c cX8_keptFor 4 RX8 (some .int)) (hK : va_K (dC, dI) vwCl (kT cI cJ cZ) s) (hX : xT s) (hA : ∀ q : Nat, s.heap.size ≤ q → A q) (k7 : (Int64 × Int32) → Option (Int32)) (ih7 : ∀ (a : Int64 × Int32), k7 a = some r → ∀ (H : Heap) (locs : List Loc) (ls : Array Slot), va_P (dC, dI) vwCl (vX8 cI cJ cZ ad σ) H → va_D A (vX8 cI cJ cZ ad σ) → va_S A s.heap H locs → lv_has ls 4 [(0, .ref (ad 0)), (1, .long a.1), (3, .int a.2)] → W p l e ({ frames := 0, cells := 0, slots := 0, locals := 0 } : Room) s m args below meth c H locs 0 0 (MQ below (qI (dC, dI) (kT cI cJ cZ) (vX8 cI cJ cZ ad σ) A r) args s 0 0 A) (F0 m 7 ls [])) : ∀ (a : Int64 × Int32), fX8_keptFor_7 n σ k7 a = some r → ∀ (H : Heap) (locs : List Loc) (ls : Array Slot), va_P (dC, dI) vwCl (vX8 cI cJ cZ ad σ) H → va_D A (vX8 cI cJ cZ ad σ) → va_S A s.heap H locs → lv_has ls 4 [(0, .ref (ad 0)), (1, .long a.1), (3, .int a.2)] → W p l e ({ frames := 0, cells := 0, slots := 0, locals := 0 } : Room) s m args below meth c H locs 0 0 (MQ below (qI (dC, dI) (kT cI cJ cZ) (vX8 cI cJ cZ ad σ) A r) args s 0 0 A) (F0 m 7 ls []) := by
  obtain ⟨hx, hb, hml, hown, hT, hr, hlocks⟩ := id C0
  intro a hd H locs ls hP hD hS hl
  unfold fX8_keptFor_7 at hd
  refine lv_iload_n hx hb dX8_keptFor_7 rfl (lv_at hl 2 rfl) ?_
  refine lv_if_lt (tgt := 28) hx hb dX8_keptFor_8 (by decide) (fun c_1 => ?_) (fun c_1 => ?_)
  · replace hd := i_t hd c_1
    refine lv_iload_n hx hb dX8_keptFor_28 rfl (lv_at hl 2 rfl) ?_
    obtain rfl := Option.some.inj hd
    exact my_iret C0 hK hP hD hS dX8_keptFor_29
  · replace hd := i_e hd c_1
    refine lv_aload_n hx hb dX8_keptFor_11 rfl (lv_at hl 0 rfl) ?_
    refine gX8_0_27 C0 hK hP wm_7_0 dX8_keptFor_12 ?_
    refine lv_iload_n hx hb dX8_keptFor_15 rfl (lv_at hl 2 rfl) ?_
    obtain ⟨g_2, hd⟩ := ix_some hd
    refine lX8_20 C0 hK hP rfl g_2 dX8_keptFor_16 ?_
    refine lv_lload_n hx hb dX8_keptFor_17 rfl (lv_at hl 1 rfl) ?_
    refine lc_eq (tgt := 28) hx hb dX8_keptFor_18 dX8_keptFor_19 (by decide) (fun c_3 => ?_) (fun c_3 => ?_)
    · replace hd := i_t hd c_3
      refine lv_iload_n hx hb dX8_keptFor_28 rfl (lv_at hl 2 rfl) ?_
      obtain rfl := Option.some.inj hd
      exact my_iret C0 hK hP hD hS dX8_keptFor_29
    · replace hd := i_e hd c_3
      refine lv_iinc (v := a.2 + (-1)) (lv' := [(3, .int (a.2 + (-1))), (0, .ref (ad 0)), (1, .long a.1)]) hx hb dX8_keptFor_22 hl (k := 2) rfl rfl (by decide) rfl (fun ls hl => ?_)
      refine lv_goto (tgt := 7) hx hb dX8_keptFor_25 (by decide) ?_
      exact ih7 _ hd _ _ _ hP hD hS (lv_sub hl [1, 2, 0] rfl)
set_option maxHeartbeats 4000000 in
set_option maxRecDepth 100000 in
theorem oX8_keptFor_7 {p : Program} {l : Launch} {e : Env} {s : State} {m : MethodId} {args : Array Value} {below : List Frame} {meth : Method} {c : Code} {A : Nat → Prop} {dC : Nat → ClassId} {dI : Nat → Nat → Nat} {cI cJ cZ : ClassId} {ad : Nat → Nat} {r : Int32} {n : Nat} {σ : St} (C0 : cx p s m args meth c cX8_keptFor 4 RX8 (some .int)) (hK : va_K (dC, dI) vwCl (kT cI cJ cZ) s) (hX : xT s) (hA : ∀ q : Nat, s.heap.size ≤ q → A q)  : ∀ nn : Nat, ∀ (a : Int64 × Int32), loopF (fX8_keptFor_7 n σ ) nn a = some r → ∀ (H : Heap) (locs : List Loc) (ls : Array Slot), va_P (dC, dI) vwCl (vX8 cI cJ cZ ad σ) H → va_D A (vX8 cI cJ cZ ad σ) → va_S A s.heap H locs → lv_has ls 4 [(0, .ref (ad 0)), (1, .long a.1), (3, .int a.2)] → W p l e ({ frames := 0, cells := 0, slots := 0, locals := 0 } : Room) s m args below meth c H locs 0 0 (MQ below (qI (dC, dI) (kT cI cJ cZ) (vX8 cI cJ cZ ad σ) A r) args s 0 0 A) (F0 m 7 ls []) := by
  intro nn
  induction nn with
  | zero => intro a hd; cases hd
  | succ nn ih => intro a hd; exact bX8_keptFor_7 C0 hK hX hA  _ ih a hd
def fX8_keptFor (n : Nat) (σ : St) (p1 : Int64) : Option (Int32) := loopF (fX8_keptFor_7 n σ ) n (p1, (σ.1 8) - (1 : Int32))
set_option maxHeartbeats 4000000 in
set_option maxRecDepth 100000 in
theorem mX8_keptFor (l : Launch) (dC : Nat → ClassId) (dI : Nat → Nat → Nat) (cI cJ cZ : ClassId) (ad : Nat → Nat) (n : Nat) (σ : St) (p1 : Int64) {r : Int32} (hd : fX8_keptFor n σ p1 = some r) (sz : Nat)  : Met l yX8_keptFor (wS yX8_keptFor cX8_keptFor 4 (some .int)) { frames := 0, cells := 0, slots := 0, locals := 0 } (pC (dC, dI) (kT cI cJ cZ) xT (vX8 cI cJ cZ ad σ) sz [.ref (ad 0), .long p1]) (qI (dC, dI) (kT cI cJ cZ) (vX8 cI cJ cZ ad σ) (va_A (vX8 cI cJ cZ ad σ) sz) r) 0 0 (va_A (vX8 cI cJ cZ ad σ) sz) := by
  refine my_ent (fun A => qI (dC, dI) (kT cI cJ cZ) (vX8 cI cJ cZ ad σ) A r) (by decide) (Nat.le_of_ble_eq_true rfl) ?_
  intro p e s m below meth c A hAe hnm C0 hK hX hP hD hA hS ls hl
  obtain ⟨hx, hb, hml, hown, hT, hr, hlocks⟩ := id C0
  unfold fX8_keptFor at hd
  have hl : lv_has ls 4 [(0, .ref (ad 0)), (1, .long p1)] := hl
  refine lv_aload_n hx hb dX8_keptFor_0 rfl (lv_at hl 0 rfl) ?_
  refine gX8_0_30 C0 hK hP wm_12_13 rfl dX8_keptFor_1 ?_
  refine lv_iconst (v := 1) hx hb dX8_keptFor_4 (by decide) ?_
  refine lv_isub hx hb dX8_keptFor_5 ?_
  refine lv_istore_n (lv' := [(3, .int ((σ.1 8) - (1 : Int32))), (0, .ref (ad 0)), (1, .long p1)]) hx hb dX8_keptFor_6 rfl hl (by decide) rfl (fun ls hl => ?_)
  exact oX8_keptFor_7 C0 hK hX hA  _ _ hd _ _ _ hP hD hS (lv_sub hl [1, 2, 0] rfl)
def fX8_placeInQueue_7 (n : Nat) (σ : St) (k7 : (Int32 × Int32) → Option (Int32)) (a : Int32 × Int32) : Option (Int32) := if a.2 < 0 then (some a.2) else (ix a.2 300 (if ((σ.2.1 6) a.2.toNatClampNeg) = a.1 then (some a.2) else (k7 (a.1, a.2 + (-1)))))
set_option maxHeartbeats 4000000 in
set_option maxRecDepth 100000 in
theorem bX8_placeInQueue_7 {p : Program} {l : Launch} {e : Env} {s : State} {m : MethodId} {args : Array Value} {below : List Frame} {meth : Method} {c : Code} {A : Nat → Prop} {dC : Nat → ClassId} {dI : Nat → Nat → Nat} {cI cJ cZ : ClassId} {ad : Nat → Nat} {r : Int32} {n : Nat} {σ : St} (C0 : cx p s m args meth c cX8_placeInQueue 3 RX8 (some .int)) (hK : va_K (dC, dI) vwCl (kT cI cJ cZ) s) (hX : xT s) (hA : ∀ q : Nat, s.heap.size ≤ q → A q) (k7 : (Int32 × Int32) → Option (Int32)) (ih7 : ∀ (a : Int32 × Int32), k7 a = some r → ∀ (H : Heap) (locs : List Loc) (ls : Array Slot), va_P (dC, dI) vwCl (vX8 cI cJ cZ ad σ) H → va_D A (vX8 cI cJ cZ ad σ) → va_S A s.heap H locs → lv_has ls 3 [(0, .ref (ad 0)), (1, .int a.1), (2, .int a.2)] → W p l e ({ frames := 0, cells := 0, slots := 0, locals := 0 } : Room) s m args below meth c H locs 0 0 (MQ below (qI (dC, dI) (kT cI cJ cZ) (vX8 cI cJ cZ ad σ) A r) args s 0 0 A) (F0 m 7 ls [])) : ∀ (a : Int32 × Int32), fX8_placeInQueue_7 n σ k7 a = some r → ∀ (H : Heap) (locs : List Loc) (ls : Array Slot), va_P (dC, dI) vwCl (vX8 cI cJ cZ ad σ) H → va_D A (vX8 cI cJ cZ ad σ) → va_S A s.heap H locs → lv_has ls 3 [(0, .ref (ad 0)), (1, .int a.1), (2, .int a.2)] → W p l e ({ frames := 0, cells := 0, slots := 0, locals := 0 } : Room) s m args below meth c H locs 0 0 (MQ below (qI (dC, dI) (kT cI cJ cZ) (vX8 cI cJ cZ ad σ) A r) args s 0 0 A) (F0 m 7 ls []) := by
  obtain ⟨hx, hb, hml, hown, hT, hr, hlocks⟩ := id C0
  intro a hd H locs ls hP hD hS hl
  unfold fX8_placeInQueue_7 at hd
  refine lv_iload_n hx hb dX8_placeInQueue_7 rfl (lv_at hl 2 rfl) ?_
  refine lv_if_lt (tgt := 27) hx hb dX8_placeInQueue_8 (by decide) (fun c_1 => ?_) (fun c_1 => ?_)
  · replace hd := i_t hd c_1
    refine lv_iload_n hx hb dX8_placeInQueue_27 rfl (lv_at hl 2 rfl) ?_
    obtain rfl := Option.some.inj hd
    exact my_iret C0 hK hP hD hS dX8_placeInQueue_28
  · replace hd := i_e hd c_1
    refine lv_aload_n hx hb dX8_placeInQueue_11 rfl (lv_at hl 0 rfl) ?_
    refine gX8_0_13 C0 hK hP wm_6_14 dX8_placeInQueue_12 ?_
    refine lv_iload_n hx hb dX8_placeInQueue_15 rfl (lv_at hl 2 rfl) ?_
    obtain ⟨g_2, hd⟩ := ix_some hd
    refine lX8_10 C0 hK hP rfl g_2 dX8_placeInQueue_16 ?_
    refine lv_iload_n hx hb dX8_placeInQueue_17 rfl (lv_at hl 1 rfl) ?_
    refine lv_icmp_eq (tgt := 27) hx hb dX8_placeInQueue_18 (by decide) (fun c_3 => ?_) (fun c_3 => ?_)
    · replace hd := i_t hd c_3
      refine lv_iload_n hx hb dX8_placeInQueue_27 rfl (lv_at hl 2 rfl) ?_
      obtain rfl := Option.some.inj hd
      exact my_iret C0 hK hP hD hS dX8_placeInQueue_28
    · replace hd := i_e hd c_3
      refine lv_iinc (v := a.2 + (-1)) (lv' := [(2, .int (a.2 + (-1))), (0, .ref (ad 0)), (1, .int a.1)]) hx hb dX8_placeInQueue_21 hl (k := 2) rfl rfl (by decide) rfl (fun ls hl => ?_)
      refine lv_goto (tgt := 7) hx hb dX8_placeInQueue_24 (by decide) ?_
      exact ih7 _ hd _ _ _ hP hD hS (lv_sub hl [1, 2, 0] rfl)
set_option maxHeartbeats 4000000 in
set_option maxRecDepth 100000 in
theorem oX8_placeInQueue_7 {p : Program} {l : Launch} {e : Env} {s : State} {m : MethodId} {args : Array Value} {below : List Frame} {meth : Method} {c : Code} {A : Nat → Prop} {dC : Nat → ClassId} {dI : Nat → Nat → Nat} {cI cJ cZ : ClassId} {ad : Nat → Nat} {r : Int32} {n : Nat} {σ : St} (C0 : cx p s m args meth c cX8_placeInQueue 3 RX8 (some .int)) (hK : va_K (dC, dI) vwCl (kT cI cJ cZ) s) (hX : xT s) (hA : ∀ q : Nat, s.heap.size ≤ q → A q)  : ∀ nn : Nat, ∀ (a : Int32 × Int32), loopF (fX8_placeInQueue_7 n σ ) nn a = some r → ∀ (H : Heap) (locs : List Loc) (ls : Array Slot), va_P (dC, dI) vwCl (vX8 cI cJ cZ ad σ) H → va_D A (vX8 cI cJ cZ ad σ) → va_S A s.heap H locs → lv_has ls 3 [(0, .ref (ad 0)), (1, .int a.1), (2, .int a.2)] → W p l e ({ frames := 0, cells := 0, slots := 0, locals := 0 } : Room) s m args below meth c H locs 0 0 (MQ below (qI (dC, dI) (kT cI cJ cZ) (vX8 cI cJ cZ ad σ) A r) args s 0 0 A) (F0 m 7 ls []) := by
  intro nn
  induction nn with
  | zero => intro a hd; cases hd
  | succ nn ih => intro a hd; exact bX8_placeInQueue_7 C0 hK hX hA  _ ih a hd
def fX8_placeInQueue (n : Nat) (σ : St) (p1 : Int32) : Option (Int32) := loopF (fX8_placeInQueue_7 n σ ) n (p1, (σ.1 4) - (1 : Int32))
set_option maxHeartbeats 4000000 in
set_option maxRecDepth 100000 in
theorem mX8_placeInQueue (l : Launch) (dC : Nat → ClassId) (dI : Nat → Nat → Nat) (cI cJ cZ : ClassId) (ad : Nat → Nat) (n : Nat) (σ : St) (p1 : Int32) {r : Int32} (hd : fX8_placeInQueue n σ p1 = some r) (sz : Nat)  : Met l yX8_placeInQueue (wS yX8_placeInQueue cX8_placeInQueue 3 (some .int)) { frames := 0, cells := 0, slots := 0, locals := 0 } (pC (dC, dI) (kT cI cJ cZ) xT (vX8 cI cJ cZ ad σ) sz [.ref (ad 0), .int p1]) (qI (dC, dI) (kT cI cJ cZ) (vX8 cI cJ cZ ad σ) (va_A (vX8 cI cJ cZ ad σ) sz) r) 0 0 (va_A (vX8 cI cJ cZ ad σ) sz) := by
  refine my_ent (fun A => qI (dC, dI) (kT cI cJ cZ) (vX8 cI cJ cZ ad σ) A r) (by decide) (Nat.le_of_ble_eq_true rfl) ?_
  intro p e s m below meth c A hAe hnm C0 hK hX hP hD hA hS ls hl
  obtain ⟨hx, hb, hml, hown, hT, hr, hlocks⟩ := id C0
  unfold fX8_placeInQueue at hd
  have hl : lv_has ls 3 [(0, .ref (ad 0)), (1, .int p1)] := hl
  refine lv_aload_n hx hb dX8_placeInQueue_0 rfl (lv_at hl 0 rfl) ?_
  refine gX8_0_14 C0 hK hP wm_11_20 rfl dX8_placeInQueue_1 ?_
  refine lv_iconst (v := 1) hx hb dX8_placeInQueue_4 (by decide) ?_
  refine lv_isub hx hb dX8_placeInQueue_5 ?_
  refine lv_istore_n (lv' := [(2, .int ((σ.1 4) - (1 : Int32))), (0, .ref (ad 0)), (1, .int p1)]) hx hb dX8_placeInQueue_6 rfl hl (by decide) rfl (fun ls hl => ?_)
  exact oX8_placeInQueue_7 C0 hK hX hA  _ _ hd _ _ _ hP hD hS (lv_sub hl [1, 2, 0] rfl)
def fX8_leave_12 (n : Nat) (k12 : (St × Int32) → Option (St)) (a : St × Int32) : Option (St) := if (a.1.1 4) ≤ (a.2 + (1 : Int32)) then (some (sI a.1 4 ((a.1.1 4) - (1 : Int32)))) else (ix (a.2 + (1 : Int32)) 300 (ix a.2 300 (k12 (sA a.1 6 (upd (a.1.2.1 6) a.2.toNatClampNeg ((a.1.2.1 6) (a.2 + (1 : Int32)).toNatClampNeg)), a.2 + 1))))
set_option maxHeartbeats 4000000 in
set_option maxRecDepth 100000 in
theorem bX8_leave_12 {p : Program} {l : Launch} {e : Env} {s : State} {m : MethodId} {args : Array Value} {below : List Frame} {meth : Method} {c : Code} {A : Nat → Prop} {dC : Nat → ClassId} {dI : Nat → Nat → Nat} {cI cJ cZ : ClassId} {ad : Nat → Nat} {r : St} {n : Nat} (C0 : cx p s m args meth c cX8_leave 4 RX8 none) (hK : va_K (dC, dI) vwCl (kT cI cJ cZ) s) (hX : xT s) (hA : ∀ q : Nat, s.heap.size ≤ q → A q) (k12 : (St × Int32) → Option (St)) (ih12 : ∀ (a : St × Int32), k12 a = some r → ∀ (H : Heap) (locs : List Loc) (ls : Array Slot), va_P (dC, dI) vwCl (vX8 cI cJ cZ ad a.1) H → va_D A (vX8 cI cJ cZ ad a.1) → va_S A s.heap H locs → lv_has ls 4 [(0, .ref (ad 0)), (3, .int a.2)] → W p l e ({ frames := 1, cells := 0, slots := 0, locals := 22 } : Room) s m args below meth c H locs 0 0 (MQ below (qV (dC, dI) (kT cI cJ cZ) (vX8 cI cJ cZ ad r) A) args s 0 0 A) (F0 m 12 ls [])) : ∀ (a : St × Int32), fX8_leave_12 n k12 a = some r → ∀ (H : Heap) (locs : List Loc) (ls : Array Slot), va_P (dC, dI) vwCl (vX8 cI cJ cZ ad a.1) H → va_D A (vX8 cI cJ cZ ad a.1) → va_S A s.heap H locs → lv_has ls 4 [(0, .ref (ad 0)), (3, .int a.2)] → W p l e ({ frames := 1, cells := 0, slots := 0, locals := 22 } : Room) s m args below meth c H locs 0 0 (MQ below (qV (dC, dI) (kT cI cJ cZ) (vX8 cI cJ cZ ad r) A) args s 0 0 A) (F0 m 12 ls []) := by
  obtain ⟨hx, hb, hml, hown, hT, hr, hlocks⟩ := id C0
  intro a hd H locs ls hP hD hS hl
  unfold fX8_leave_12 at hd
  refine lv_iload_n hx hb dX8_leave_12 rfl (lv_at hl 1 rfl) ?_
  refine lv_iconst (v := 1) hx hb dX8_leave_13 (by decide) ?_
  refine lv_iadd hx hb dX8_leave_14 ?_
  refine lv_aload_n hx hb dX8_leave_15 rfl (lv_at hl 0 rfl) ?_
  refine gX8_0_14 C0 hK hP wm_11_20 rfl dX8_leave_16 ?_
  refine lv_icmp_ge (tgt := 42) hx hb dX8_leave_19 (by decide) (fun c_4 => ?_) (fun c_4 => ?_)
  · replace hd := i_t hd c_4
    refine lv_aload_n hx hb dX8_leave_42 rfl (lv_at hl 0 rfl) ?_
    refine lv_dup hx hb dX8_leave_43 rfl ?_
    refine gX8_0_14 C0 hK hP wm_11_20 rfl dX8_leave_44 ?_
    refine lv_iconst (v := 1) hx hb dX8_leave_47 (by decide) ?_
    refine lv_isub hx hb dX8_leave_48 ?_
    refine pX8_0_14 C0 hK hP hD hS wm_11_20 dX8_leave_49 (fun H locs hP hD hS => ?_)
    obtain rfl := Option.some.inj hd
    exact my_vret C0 hK hP hD hS dX8_leave_52
  · replace hd := i_e hd c_4
    refine lv_aload_n hx hb dX8_leave_22 rfl (lv_at hl 0 rfl) ?_
    refine gX8_0_13 C0 hK hP wm_6_14 dX8_leave_23 ?_
    refine lv_iload_n hx hb dX8_leave_26 rfl (lv_at hl 1 rfl) ?_
    refine lv_aload_n hx hb dX8_leave_27 rfl (lv_at hl 0 rfl) ?_
    refine gX8_0_13 C0 hK hP wm_6_14 dX8_leave_28 ?_
    refine lv_iload_n hx hb dX8_leave_31 rfl (lv_at hl 1 rfl) ?_
    refine lv_iconst (v := 1) hx hb dX8_leave_32 (by decide) ?_
    refine lv_iadd hx hb dX8_leave_33 ?_
    obtain ⟨g_5, hd⟩ := ix_some hd
    refine lX8_10 C0 hK hP rfl g_5 dX8_leave_34 ?_
    obtain ⟨g_6, hd⟩ := ix_some hd
    refine aX8_10 C0 hK hP hD hS rfl g_6 dX8_leave_35 (fun H locs hP hD hS => ?_)
    refine lv_iinc (v := a.2 + 1) (lv' := [(3, .int (a.2 + 1)), (0, .ref (ad 0))]) hx hb dX8_leave_36 hl (k := 1) rfl rfl (by decide) rfl (fun ls hl => ?_)
    refine lv_goto (tgt := 12) hx hb dX8_leave_39 (by decide) ?_
    exact ih12 _ hd _ _ _ hP hD hS (lv_sub hl [1, 0] rfl)
set_option maxHeartbeats 4000000 in
set_option maxRecDepth 100000 in
theorem oX8_leave_12 {p : Program} {l : Launch} {e : Env} {s : State} {m : MethodId} {args : Array Value} {below : List Frame} {meth : Method} {c : Code} {A : Nat → Prop} {dC : Nat → ClassId} {dI : Nat → Nat → Nat} {cI cJ cZ : ClassId} {ad : Nat → Nat} {r : St} {n : Nat} (C0 : cx p s m args meth c cX8_leave 4 RX8 none) (hK : va_K (dC, dI) vwCl (kT cI cJ cZ) s) (hX : xT s) (hA : ∀ q : Nat, s.heap.size ≤ q → A q)  : ∀ nn : Nat, ∀ (a : St × Int32), loopF (fX8_leave_12 n ) nn a = some r → ∀ (H : Heap) (locs : List Loc) (ls : Array Slot), va_P (dC, dI) vwCl (vX8 cI cJ cZ ad a.1) H → va_D A (vX8 cI cJ cZ ad a.1) → va_S A s.heap H locs → lv_has ls 4 [(0, .ref (ad 0)), (3, .int a.2)] → W p l e ({ frames := 1, cells := 0, slots := 0, locals := 22 } : Room) s m args below meth c H locs 0 0 (MQ below (qV (dC, dI) (kT cI cJ cZ) (vX8 cI cJ cZ ad r) A) args s 0 0 A) (F0 m 12 ls []) := by
  intro nn
  induction nn with
  | zero => intro a hd; cases hd
  | succ nn ih => intro a hd; exact bX8_leave_12 C0 hK hX hA  _ ih a hd
def fX8_leave (n : Nat) (σ : St) (p1 : Int32) : Option (St) := (fX8_placeInQueue n σ p1).bind (fun u_1 => if u_1 < 0 then (some σ) else (loopF (fX8_leave_12 n ) n (σ, u_1)))
set_option maxHeartbeats 4000000 in
set_option maxRecDepth 100000 in
theorem mX8_leave (l : Launch) (dC : Nat → ClassId) (dI : Nat → Nat → Nat) (cI cJ cZ : ClassId) (ad : Nat → Nat) (n : Nat) (σ : St) (p1 : Int32) {r : St} (hd : fX8_leave n σ p1 = some r) (sz : Nat)  : Met l yX8_leave (wS yX8_leave cX8_leave 4 none) { frames := 1, cells := 0, slots := 0, locals := 22 } (pC (dC, dI) (kT cI cJ cZ) xT (vX8 cI cJ cZ ad σ) sz [.ref (ad 0), .int p1]) (qV (dC, dI) (kT cI cJ cZ) (vX8 cI cJ cZ ad r) (va_A (vX8 cI cJ cZ ad σ) sz)) 0 0 (va_A (vX8 cI cJ cZ ad σ) sz) := by
  refine my_ent (fun A => qV (dC, dI) (kT cI cJ cZ) (vX8 cI cJ cZ ad r) A) (by decide) (Nat.le_of_ble_eq_true rfl) ?_
  intro p e s m below meth c A hAe hnm C0 hK hX hP hD hA hS ls hl
  obtain ⟨hx, hb, hml, hown, hT, hr, hlocks⟩ := id C0
  unfold fX8_leave at hd
  have hl : lv_has ls 4 [(0, .ref (ad 0)), (1, .int p1)] := hl
  refine lv_aload_n hx hb dX8_leave_0 rfl (lv_at hl 0 rfl) ?_
  refine lv_iload_n hx hb dX8_leave_1 rfl (lv_at hl 1 rfl) ?_
  obtain ⟨u_1, hc_2, hd⟩ := bd hd
  refine cw_i (rest := []) C0 (mX8_placeInQueue l dC dI cI cJ cZ ad n σ p1 hc_2 _) gv_X8_111 yd_X8_placeInQueue ⟨rfl, rfl, Nat.le_of_ble_eq_true rfl, Nat.le_of_ble_eq_true rfl, Nat.zero_le _, Nat.zero_le _⟩ xT_b xT_w hK hP hD hS hA hl.1 rfl (Nat.le_of_ble_eq_true rfl) dX8_leave_2 8 0 rfl rfl (fun H locs hP hD hS => ?_)
  refine lv_istore_n (lv' := [(2, .int u_1), (0, .ref (ad 0)), (1, .int p1)]) hx hb dX8_leave_5 rfl hl (by decide) rfl (fun ls hl => ?_)
  refine lv_iload_n hx hb dX8_leave_6 rfl (lv_at hl 0 rfl) ?_
  refine lv_if_lt (tgt := 52) hx hb dX8_leave_7 (by decide) (fun c_3 => ?_) (fun c_3 => ?_)
  · replace hd := i_t hd c_3
    obtain rfl := Option.some.inj hd
    exact my_vret C0 hK hP hD hS dX8_leave_52
  · replace hd := i_e hd c_3
    refine lv_iload_n hx hb dX8_leave_10 rfl (lv_at hl 0 rfl) ?_
    refine lv_istore_n (lv' := [(3, .int u_1), (2, .int u_1), (0, .ref (ad 0)), (1, .int p1)]) hx hb dX8_leave_11 rfl hl (by decide) rfl (fun ls hl => ?_)
    exact oX8_leave_12 C0 hK hX hA  _ _ hd _ _ _ hP hD hS (lv_sub hl [2, 0] rfl)
def fX8_settle (n : Nat) (σ : St) (p1 : Int32) (p2 : Int32) (p3 : Int64) : Option (St) := ix p1 300 (ix p1 300 (ix p1 300 ((fX8_leave n (sL (sA (sA σ 2 (upd (σ.2.1 2) p1.toNatClampNeg (2 : Int32))) 3 (upd (σ.2.1 3) p1.toNatClampNeg p2)) 2 (vp_updL (σ.2.2 2) p1.toNatClampNeg p3)) p1).bind (fun u_4 => some u_4))))
set_option maxHeartbeats 4000000 in
set_option maxRecDepth 100000 in
theorem mX8_settle (l : Launch) (dC : Nat → ClassId) (dI : Nat → Nat → Nat) (cI cJ cZ : ClassId) (ad : Nat → Nat) (n : Nat) (σ : St) (p1 : Int32) (p2 : Int32) (p3 : Int64) {r : St} (hd : fX8_settle n σ p1 p2 p3 = some r) (sz : Nat)  : Met l yX8_settle (wS yX8_settle cX8_settle 5 none) { frames := 2, cells := 0, slots := 0, locals := 45 } (pC (dC, dI) (kT cI cJ cZ) xT (vX8 cI cJ cZ ad σ) sz [.ref (ad 0), .int p1, .int p2, .long p3]) (qV (dC, dI) (kT cI cJ cZ) (vX8 cI cJ cZ ad r) (va_A (vX8 cI cJ cZ ad σ) sz)) 0 0 (va_A (vX8 cI cJ cZ ad σ) sz) := by
  refine my_ent (fun A => qV (dC, dI) (kT cI cJ cZ) (vX8 cI cJ cZ ad r) A) (by decide) (Nat.le_of_ble_eq_true rfl) ?_
  intro p e s m below meth c A hAe hnm C0 hK hX hP hD hA hS ls hl
  obtain ⟨hx, hb, hml, hown, hT, hr, hlocks⟩ := id C0
  unfold fX8_settle at hd
  have hl : lv_has ls 5 [(0, .ref (ad 0)), (1, .int p1), (2, .int p2), (3, .long p3)] := hl
  refine lv_aload_n hx hb dX8_settle_0 rfl (lv_at hl 0 rfl) ?_
  refine gX8_0_8 C0 hK hP wm_6_9 dX8_settle_1 ?_
  refine lv_iload_n hx hb dX8_settle_4 rfl (lv_at hl 1 rfl) ?_
  refine lv_iconst (v := 2) hx hb dX8_settle_5 (by decide) ?_
  obtain ⟨g_1, hd⟩ := ix_some hd
  refine aX8_5 C0 hK hP hD hS rfl g_1 dX8_settle_6 (fun H locs hP hD hS => ?_)
  refine lv_aload_n hx hb dX8_settle_7 rfl (lv_at hl 0 rfl) ?_
  refine gX8_0_9 C0 hK hP wm_6_10 dX8_settle_8 ?_
  refine lv_iload_n hx hb dX8_settle_11 rfl (lv_at hl 1 rfl) ?_
  refine lv_iload_n hx hb dX8_settle_12 rfl (lv_at hl 2 rfl) ?_
  obtain ⟨g_2, hd⟩ := ix_some hd
  refine aX8_6 C0 hK hP hD hS (sA_n (by decide)) g_2 dX8_settle_13 (fun H locs hP hD hS => ?_)
  refine lv_aload_n hx hb dX8_settle_14 rfl (lv_at hl 0 rfl) ?_
  refine gX8_0_10 C0 hK hP wm_6_11 dX8_settle_15 ?_
  refine lv_iload_n hx hb dX8_settle_18 rfl (lv_at hl 1 rfl) ?_
  refine lv_lload_n hx hb dX8_settle_19 rfl (lv_at hl 3 rfl) ?_
  obtain ⟨g_3, hd⟩ := ix_some hd
  refine aX8_7 C0 hK hP hD hS ((sA_L).trans (sA_L)) g_3 dX8_settle_20 (fun H locs hP hD hS => ?_)
  refine lv_aload_n hx hb dX8_settle_21 rfl (lv_at hl 0 rfl) ?_
  refine lv_iload_n hx hb dX8_settle_22 rfl (lv_at hl 1 rfl) ?_
  obtain ⟨u_4, hc_5, hd⟩ := bd hd
  refine cw_v (rest := []) C0 (mX8_leave l dC dI cI cJ cZ ad n (sL (sA (sA σ 2 (upd (σ.2.1 2) p1.toNatClampNeg (2 : Int32))) 3 (upd (σ.2.1 3) p1.toNatClampNeg p2)) 2 (vp_updL (σ.2.2 2) p1.toNatClampNeg p3)) p1 hc_5 _) gv_X8_104 yd_X8_leave ⟨rfl, rfl, Nat.le_of_ble_eq_true rfl, Nat.le_of_ble_eq_true rfl, Nat.zero_le _, Nat.zero_le _⟩ xT_b xT_w hK hP hD hS hA hl.1 rfl (Nat.le_of_ble_eq_true rfl) dX8_settle_23 8 0 rfl rfl (fun H locs hP hD hS => ?_)
  obtain rfl := Option.some.inj hd
  exact my_vret C0 hK hP hD hS dX8_settle_26
def fX8_nextOut_106 (n : Nat) (σ : St) (k6 : (Int32 × Int32 × Int32) → Option (Int32)) (a : Int32 × Int32 × Int32 × Int32) : Option (Int32) := k6 (a.1, a.2.2.1 &&& a.2.2.2, a.2.1 + 1)
set_option maxHeartbeats 4000000 in
set_option maxRecDepth 100000 in
theorem bX8_nextOut_106 {p : Program} {l : Launch} {e : Env} {s : State} {m : MethodId} {args : Array Value} {below : List Frame} {meth : Method} {c : Code} {A : Nat → Prop} {dC : Nat → ClassId} {dI : Nat → Nat → Nat} {cI cJ cZ : ClassId} {ad : Nat → Nat} {r : Int32} {n : Nat} {σ : St} (C0 : cx p s m args meth c cX8_nextOut 6 RX8 (some .int)) (hK : va_K (dC, dI) vwCl (kT cI cJ cZ) s) (hX : xT s) (hA : ∀ q : Nat, s.heap.size ≤ q → A q) (k6 : (Int32 × Int32 × Int32) → Option (Int32)) (ih6 : ∀ (a : Int32 × Int32 × Int32), k6 a = some r → ∀ (H : Heap) (locs : List Loc) (ls : Array Slot), va_P (dC, dI) vwCl (vX8 cI cJ cZ ad σ) H → va_D A (vX8 cI cJ cZ ad σ) → va_S A s.heap H locs → lv_has ls 6 [(0, .ref (ad 0)), (1, .int a.1), (2, .int a.2.1), (3, .int a.2.2)] → W p l e ({ frames := 0, cells := 0, slots := 0, locals := 0 } : Room) s m args below meth c H locs 0 0 (MQ below (qI (dC, dI) (kT cI cJ cZ) (vX8 cI cJ cZ ad σ) A r) args s 0 0 A) (F0 m 6 ls [])) : ∀ (a : Int32 × Int32 × Int32 × Int32), fX8_nextOut_106 n σ k6 a = some r → ∀ (H : Heap) (locs : List Loc) (ls : Array Slot), va_P (dC, dI) vwCl (vX8 cI cJ cZ ad σ) H → va_D A (vX8 cI cJ cZ ad σ) → va_S A s.heap H locs → lv_has ls 6 [(0, .ref (ad 0)), (1, .int a.1), (3, .int a.2.1)] → W p l e ({ frames := 0, cells := 0, slots := 0, locals := 0 } : Room) s m args below meth c H locs 0 0 (MQ below (qI (dC, dI) (kT cI cJ cZ) (vX8 cI cJ cZ ad σ) A r) args s 0 0 A) (F0 m 106 ls [.int a.2.2.2, .int a.2.2.1]) := by
  obtain ⟨hx, hb, hml, hown, hT, hr, hlocks⟩ := id C0
  intro a hd H locs ls hP hD hS hl
  unfold fX8_nextOut_106 at hd
  refine lv_iand hx hb dX8_nextOut_106 ?_
  refine lv_istore_n (lv' := [(2, .int (a.2.2.1 &&& a.2.2.2)), (0, .ref (ad 0)), (1, .int a.1), (3, .int a.2.1)]) hx hb dX8_nextOut_107 rfl hl (by decide) rfl (fun ls hl => ?_)
  refine lv_iinc (v := a.2.1 + 1) (lv' := [(3, .int (a.2.1 + 1)), (2, .int (a.2.2.1 &&& a.2.2.2)), (0, .ref (ad 0)), (1, .int a.1)]) hx hb dX8_nextOut_108 hl (k := 3) rfl rfl (by decide) rfl (fun ls hl => ?_)
  refine lv_goto (tgt := 6) hx hb dX8_nextOut_111 (by decide) ?_
  exact ih6 _ hd _ _ _ hP hD hS (lv_sub hl [2, 3, 1, 0] rfl)
def fX8_nextOut_101 (n : Nat) (σ : St) (k6 : (Int32 × Int32 × Int32) → Option (Int32)) (a : Int32 × Int32 × Int32) : Option (Int32) := fX8_nextOut_106 n σ k6 (a.1, a.2.1, a.2.2, (1 : Int32))
set_option maxHeartbeats 4000000 in
set_option maxRecDepth 100000 in
theorem bX8_nextOut_101 {p : Program} {l : Launch} {e : Env} {s : State} {m : MethodId} {args : Array Value} {below : List Frame} {meth : Method} {c : Code} {A : Nat → Prop} {dC : Nat → ClassId} {dI : Nat → Nat → Nat} {cI cJ cZ : ClassId} {ad : Nat → Nat} {r : Int32} {n : Nat} {σ : St} (C0 : cx p s m args meth c cX8_nextOut 6 RX8 (some .int)) (hK : va_K (dC, dI) vwCl (kT cI cJ cZ) s) (hX : xT s) (hA : ∀ q : Nat, s.heap.size ≤ q → A q) (k6 : (Int32 × Int32 × Int32) → Option (Int32)) (ih6 : ∀ (a : Int32 × Int32 × Int32), k6 a = some r → ∀ (H : Heap) (locs : List Loc) (ls : Array Slot), va_P (dC, dI) vwCl (vX8 cI cJ cZ ad σ) H → va_D A (vX8 cI cJ cZ ad σ) → va_S A s.heap H locs → lv_has ls 6 [(0, .ref (ad 0)), (1, .int a.1), (2, .int a.2.1), (3, .int a.2.2)] → W p l e ({ frames := 0, cells := 0, slots := 0, locals := 0 } : Room) s m args below meth c H locs 0 0 (MQ below (qI (dC, dI) (kT cI cJ cZ) (vX8 cI cJ cZ ad σ) A r) args s 0 0 A) (F0 m 6 ls [])) : ∀ (a : Int32 × Int32 × Int32), fX8_nextOut_101 n σ k6 a = some r → ∀ (H : Heap) (locs : List Loc) (ls : Array Slot), va_P (dC, dI) vwCl (vX8 cI cJ cZ ad σ) H → va_D A (vX8 cI cJ cZ ad σ) → va_S A s.heap H locs → lv_has ls 6 [(0, .ref (ad 0)), (1, .int a.1), (3, .int a.2.1)] → W p l e ({ frames := 0, cells := 0, slots := 0, locals := 0 } : Room) s m args below meth c H locs 0 0 (MQ below (qI (dC, dI) (kT cI cJ cZ) (vX8 cI cJ cZ ad σ) A r) args s 0 0 A) (F0 m 101 ls [.int a.2.2]) := by
  obtain ⟨hx, hb, hml, hown, hT, hr, hlocks⟩ := id C0
  intro a hd H locs ls hP hD hS hl
  unfold fX8_nextOut_101 at hd
  refine lv_iconst (v := 1) hx hb dX8_nextOut_101 (by decide) ?_
  refine lv_goto (tgt := 106) hx hb dX8_nextOut_102 (by decide) ?_
  exact bX8_nextOut_106 C0 hK hX hA k6 ih6 _ hd _ _ _ hP hD hS (lv_sub hl [0, 1, 2] rfl)
def fX8_nextOut_79 (n : Nat) (σ : St) (k6 : (Int32 × Int32 × Int32) → Option (Int32)) (a : Int32 × Int32 × Int32 × Int32) : Option (Int32) := if a.2.2.2 = 0 then (ix a.2.2.1 300 (if ((σ.2.1 1) a.2.2.1.toNatClampNeg) = 0 then (fX8_nextOut_101 n σ k6 (a.1 &&& a.2.2.2, a.2.2.1, a.2.1)) else (fX8_nextOut_106 n σ k6 (a.1 &&& a.2.2.2, a.2.2.1, a.2.1, (0 : Int32))))) else (fX8_nextOut_101 n σ k6 (a.1 &&& a.2.2.2, a.2.2.1, a.2.1))
set_option maxHeartbeats 4000000 in
set_option maxRecDepth 100000 in
theorem bX8_nextOut_79 {p : Program} {l : Launch} {e : Env} {s : State} {m : MethodId} {args : Array Value} {below : List Frame} {meth : Method} {c : Code} {A : Nat → Prop} {dC : Nat → ClassId} {dI : Nat → Nat → Nat} {cI cJ cZ : ClassId} {ad : Nat → Nat} {r : Int32} {n : Nat} {σ : St} (C0 : cx p s m args meth c cX8_nextOut 6 RX8 (some .int)) (hK : va_K (dC, dI) vwCl (kT cI cJ cZ) s) (hX : xT s) (hA : ∀ q : Nat, s.heap.size ≤ q → A q) (k6 : (Int32 × Int32 × Int32) → Option (Int32)) (ih6 : ∀ (a : Int32 × Int32 × Int32), k6 a = some r → ∀ (H : Heap) (locs : List Loc) (ls : Array Slot), va_P (dC, dI) vwCl (vX8 cI cJ cZ ad σ) H → va_D A (vX8 cI cJ cZ ad σ) → va_S A s.heap H locs → lv_has ls 6 [(0, .ref (ad 0)), (1, .int a.1), (2, .int a.2.1), (3, .int a.2.2)] → W p l e ({ frames := 0, cells := 0, slots := 0, locals := 0 } : Room) s m args below meth c H locs 0 0 (MQ below (qI (dC, dI) (kT cI cJ cZ) (vX8 cI cJ cZ ad σ) A r) args s 0 0 A) (F0 m 6 ls [])) : ∀ (a : Int32 × Int32 × Int32 × Int32), fX8_nextOut_79 n σ k6 a = some r → ∀ (H : Heap) (locs : List Loc) (ls : Array Slot), va_P (dC, dI) vwCl (vX8 cI cJ cZ ad σ) H → va_D A (vX8 cI cJ cZ ad σ) → va_S A s.heap H locs → lv_has ls 6 [(0, .ref (ad 0)), (1, .int a.1), (2, .int a.2.1), (3, .int a.2.2.1)] → W p l e ({ frames := 0, cells := 0, slots := 0, locals := 0 } : Room) s m args below meth c H locs 0 0 (MQ below (qI (dC, dI) (kT cI cJ cZ) (vX8 cI cJ cZ ad σ) A r) args s 0 0 A) (F0 m 79 ls [.int a.2.2.2]) := by
  obtain ⟨hx, hb, hml, hown, hT, hr, hlocks⟩ := id C0
  intro a hd H locs ls hP hD hS hl
  unfold fX8_nextOut_79 at hd
  refine lv_istore (lv' := [(5, .int a.2.2.2), (0, .ref (ad 0)), (1, .int a.1), (2, .int a.2.1), (3, .int a.2.2.1)]) hx hb dX8_nextOut_79 hl (by decide) rfl (fun ls hl => ?_)
  refine lv_iload_n hx hb dX8_nextOut_81 rfl (lv_at hl 2 rfl) ?_
  refine lv_iload hx hb dX8_nextOut_82 (lv_at hl 0 rfl) ?_
  refine lv_iand hx hb dX8_nextOut_84 ?_
  refine lv_istore_n (lv' := [(1, .int (a.1 &&& a.2.2.2)), (5, .int a.2.2.2), (0, .ref (ad 0)), (2, .int a.2.1), (3, .int a.2.2.1)]) hx hb dX8_nextOut_85 rfl hl (by decide) rfl (fun ls hl => ?_)
  refine lv_iload_n hx hb dX8_nextOut_86 rfl (lv_at hl 3 rfl) ?_
  refine lv_iload hx hb dX8_nextOut_87 (lv_at hl 1 rfl) ?_
  refine lv_if_ne (tgt := 101) hx hb dX8_nextOut_89 (by decide) (fun c_12 => ?_) (fun c_12 => ?_)
  · replace hd := i_e hd c_12
    exact bX8_nextOut_101 C0 hK hX hA k6 ih6 _ hd _ _ _ hP hD hS (lv_sub hl [2, 0, 4] rfl)
  · replace hd := i_t hd c_12
    refine lv_aload_n hx hb dX8_nextOut_92 rfl (lv_at hl 2 rfl) ?_
    refine gX8_0_5 C0 hK hP wm_6_6 dX8_nextOut_93 ?_
    refine lv_iload_n hx hb dX8_nextOut_96 rfl (lv_at hl 4 rfl) ?_
    obtain ⟨g_13, hd⟩ := ix_some hd
    refine lX8_2 C0 hK hP rfl g_13 dX8_nextOut_97 ?_
    refine lv_if_ne (tgt := 105) hx hb dX8_nextOut_98 (by decide) (fun c_14 => ?_) (fun c_14 => ?_)
    · replace hd := i_e hd c_14
      refine lv_iconst (v := 0) hx hb dX8_nextOut_105 (by decide) ?_
      exact bX8_nextOut_106 C0 hK hX hA k6 ih6 _ hd _ _ _ hP hD hS (lv_sub hl [2, 0, 4] rfl)
    · replace hd := i_t hd c_14
      exact bX8_nextOut_101 C0 hK hX hA k6 ih6 _ hd _ _ _ hP hD hS (lv_sub hl [2, 0, 4] rfl)
def fX8_nextOut_74 (n : Nat) (σ : St) (k6 : (Int32 × Int32 × Int32) → Option (Int32)) (a : Int32 × Int32 × Int32) : Option (Int32) := fX8_nextOut_79 n σ k6 (a.1, a.2.1, a.2.2, (1 : Int32))
set_option maxHeartbeats 4000000 in
set_option maxRecDepth 100000 in
theorem bX8_nextOut_74 {p : Program} {l : Launch} {e : Env} {s : State} {m : MethodId} {args : Array Value} {below : List Frame} {meth : Method} {c : Code} {A : Nat → Prop} {dC : Nat → ClassId} {dI : Nat → Nat → Nat} {cI cJ cZ : ClassId} {ad : Nat → Nat} {r : Int32} {n : Nat} {σ : St} (C0 : cx p s m args meth c cX8_nextOut 6 RX8 (some .int)) (hK : va_K (dC, dI) vwCl (kT cI cJ cZ) s) (hX : xT s) (hA : ∀ q : Nat, s.heap.size ≤ q → A q) (k6 : (Int32 × Int32 × Int32) → Option (Int32)) (ih6 : ∀ (a : Int32 × Int32 × Int32), k6 a = some r → ∀ (H : Heap) (locs : List Loc) (ls : Array Slot), va_P (dC, dI) vwCl (vX8 cI cJ cZ ad σ) H → va_D A (vX8 cI cJ cZ ad σ) → va_S A s.heap H locs → lv_has ls 6 [(0, .ref (ad 0)), (1, .int a.1), (2, .int a.2.1), (3, .int a.2.2)] → W p l e ({ frames := 0, cells := 0, slots := 0, locals := 0 } : Room) s m args below meth c H locs 0 0 (MQ below (qI (dC, dI) (kT cI cJ cZ) (vX8 cI cJ cZ ad σ) A r) args s 0 0 A) (F0 m 6 ls [])) : ∀ (a : Int32 × Int32 × Int32), fX8_nextOut_74 n σ k6 a = some r → ∀ (H : Heap) (locs : List Loc) (ls : Array Slot), va_P (dC, dI) vwCl (vX8 cI cJ cZ ad σ) H → va_D A (vX8 cI cJ cZ ad σ) → va_S A s.heap H locs → lv_has ls 6 [(0, .ref (ad 0)), (1, .int a.1), (2, .int a.2.1), (3, .int a.2.2)] → W p l e ({ frames := 0, cells := 0, slots := 0, locals := 0 } : Room) s m args below meth c H locs 0 0 (MQ below (qI (dC, dI) (kT cI cJ cZ) (vX8 cI cJ cZ ad σ) A r) args s 0 0 A) (F0 m 74 ls []) := by
  obtain ⟨hx, hb, hml, hown, hT, hr, hlocks⟩ := id C0
  intro a hd H locs ls hP hD hS hl
  unfold fX8_nextOut_74 at hd
  refine lv_iconst (v := 1) hx hb dX8_nextOut_74 (by decide) ?_
  refine lv_goto (tgt := 79) hx hb dX8_nextOut_75 (by decide) ?_
  exact bX8_nextOut_79 C0 hK hX hA k6 ih6 _ hd _ _ _ hP hD hS (lv_sub hl [0, 1, 2, 3] rfl)
def fX8_nextOut_54 (n : Nat) (σ : St) (k6 : (Int32 × Int32 × Int32) → Option (Int32)) (a : Int32 × Int32 × Int32) : Option (Int32) := ix a.2.2 300 (if ((σ.2.1 2) a.2.2.toNatClampNeg) = (3 : Int32) then (fX8_nextOut_74 n σ k6 (a.1, a.2.1, a.2.2)) else (ix a.2.2 300 (if ((σ.2.1 2) a.2.2.toNatClampNeg) = (4 : Int32) then (fX8_nextOut_74 n σ k6 (a.1, a.2.1, a.2.2)) else (fX8_nextOut_79 n σ k6 (a.1, a.2.1, a.2.2, (0 : Int32))))))
set_option maxHeartbeats 4000000 in
set_option maxRecDepth 100000 in
theorem bX8_nextOut_54 {p : Program} {l : Launch} {e : Env} {s : State} {m : MethodId} {args : Array Value} {below : List Frame} {meth : Method} {c : Code} {A : Nat → Prop} {dC : Nat → ClassId} {dI : Nat → Nat → Nat} {cI cJ cZ : ClassId} {ad : Nat → Nat} {r : Int32} {n : Nat} {σ : St} (C0 : cx p s m args meth c cX8_nextOut 6 RX8 (some .int)) (hK : va_K (dC, dI) vwCl (kT cI cJ cZ) s) (hX : xT s) (hA : ∀ q : Nat, s.heap.size ≤ q → A q) (k6 : (Int32 × Int32 × Int32) → Option (Int32)) (ih6 : ∀ (a : Int32 × Int32 × Int32), k6 a = some r → ∀ (H : Heap) (locs : List Loc) (ls : Array Slot), va_P (dC, dI) vwCl (vX8 cI cJ cZ ad σ) H → va_D A (vX8 cI cJ cZ ad σ) → va_S A s.heap H locs → lv_has ls 6 [(0, .ref (ad 0)), (1, .int a.1), (2, .int a.2.1), (3, .int a.2.2)] → W p l e ({ frames := 0, cells := 0, slots := 0, locals := 0 } : Room) s m args below meth c H locs 0 0 (MQ below (qI (dC, dI) (kT cI cJ cZ) (vX8 cI cJ cZ ad σ) A r) args s 0 0 A) (F0 m 6 ls [])) : ∀ (a : Int32 × Int32 × Int32), fX8_nextOut_54 n σ k6 a = some r → ∀ (H : Heap) (locs : List Loc) (ls : Array Slot), va_P (dC, dI) vwCl (vX8 cI cJ cZ ad σ) H → va_D A (vX8 cI cJ cZ ad σ) → va_S A s.heap H locs → lv_has ls 6 [(0, .ref (ad 0)), (1, .int a.1), (2, .int a.2.1), (3, .int a.2.2)] → W p l e ({ frames := 0, cells := 0, slots := 0, locals := 0 } : Room) s m args below meth c H locs 0 0 (MQ below (qI (dC, dI) (kT cI cJ cZ) (vX8 cI cJ cZ ad σ) A r) args s 0 0 A) (F0 m 54 ls []) := by
  obtain ⟨hx, hb, hml, hown, hT, hr, hlocks⟩ := id C0
  intro a hd H locs ls hP hD hS hl
  unfold fX8_nextOut_54 at hd
  refine lv_aload_n hx hb dX8_nextOut_54 rfl (lv_at hl 0 rfl) ?_
  refine gX8_0_8 C0 hK hP wm_6_9 dX8_nextOut_55 ?_
  refine lv_iload_n hx hb dX8_nextOut_58 rfl (lv_at hl 3 rfl) ?_
  obtain ⟨g_8, hd⟩ := ix_some hd
  refine lX8_5 C0 hK hP rfl g_8 dX8_nextOut_59 ?_
  refine lv_iconst (v := 3) hx hb dX8_nextOut_60 (by decide) ?_
  refine lv_icmp_eq (tgt := 74) hx hb dX8_nextOut_61 (by decide) (fun c_9 => ?_) (fun c_9 => ?_)
  · replace hd := i_t hd c_9
    exact bX8_nextOut_74 C0 hK hX hA k6 ih6 _ hd _ _ _ hP hD hS (lv_sub hl [0, 1, 2, 3] rfl)
  · replace hd := i_e hd c_9
    refine lv_aload_n hx hb dX8_nextOut_64 rfl (lv_at hl 0 rfl) ?_
    refine gX8_0_8 C0 hK hP wm_6_9 dX8_nextOut_65 ?_
    refine lv_iload_n hx hb dX8_nextOut_68 rfl (lv_at hl 3 rfl) ?_
    obtain ⟨g_10, hd⟩ := ix_some hd
    refine lX8_5 C0 hK hP rfl g_10 dX8_nextOut_69 ?_
    refine lv_iconst (v := 4) hx hb dX8_nextOut_70 (by decide) ?_
    refine lv_icmp_ne (tgt := 78) hx hb dX8_nextOut_71 (by decide) (fun c_11 => ?_) (fun c_11 => ?_)
    · replace hd := i_e hd c_11
      refine lv_iconst (v := 0) hx hb dX8_nextOut_78 (by decide) ?_
      exact bX8_nextOut_79 C0 hK hX hA k6 ih6 _ hd _ _ _ hP hD hS (lv_sub hl [0, 1, 2, 3] rfl)
    · replace hd := i_t hd c_11
      exact bX8_nextOut_74 C0 hK hX hA k6 ih6 _ hd _ _ _ hP hD hS (lv_sub hl [0, 1, 2, 3] rfl)
def fX8_nextOut_35 (n : Nat) (σ : St) (k6 : (Int32 × Int32 × Int32) → Option (Int32)) (a : Int32 × Int32 × Int32 × Int32) : Option (Int32) := ix a.2.2.1 300 (if ((σ.2.1 2) a.2.2.1.toNatClampNeg) = (2 : Int32) then (if a.2.2.2 = 0 then (fX8_nextOut_54 n σ k6 (a.1, a.2.1, a.2.2.1)) else (some a.2.2.1)) else (fX8_nextOut_54 n σ k6 (a.1, a.2.1, a.2.2.1)))
set_option maxHeartbeats 4000000 in
set_option maxRecDepth 100000 in
theorem bX8_nextOut_35 {p : Program} {l : Launch} {e : Env} {s : State} {m : MethodId} {args : Array Value} {below : List Frame} {meth : Method} {c : Code} {A : Nat → Prop} {dC : Nat → ClassId} {dI : Nat → Nat → Nat} {cI cJ cZ : ClassId} {ad : Nat → Nat} {r : Int32} {n : Nat} {σ : St} (C0 : cx p s m args meth c cX8_nextOut 6 RX8 (some .int)) (hK : va_K (dC, dI) vwCl (kT cI cJ cZ) s) (hX : xT s) (hA : ∀ q : Nat, s.heap.size ≤ q → A q) (k6 : (Int32 × Int32 × Int32) → Option (Int32)) (ih6 : ∀ (a : Int32 × Int32 × Int32), k6 a = some r → ∀ (H : Heap) (locs : List Loc) (ls : Array Slot), va_P (dC, dI) vwCl (vX8 cI cJ cZ ad σ) H → va_D A (vX8 cI cJ cZ ad σ) → va_S A s.heap H locs → lv_has ls 6 [(0, .ref (ad 0)), (1, .int a.1), (2, .int a.2.1), (3, .int a.2.2)] → W p l e ({ frames := 0, cells := 0, slots := 0, locals := 0 } : Room) s m args below meth c H locs 0 0 (MQ below (qI (dC, dI) (kT cI cJ cZ) (vX8 cI cJ cZ ad σ) A r) args s 0 0 A) (F0 m 6 ls [])) : ∀ (a : Int32 × Int32 × Int32 × Int32), fX8_nextOut_35 n σ k6 a = some r → ∀ (H : Heap) (locs : List Loc) (ls : Array Slot), va_P (dC, dI) vwCl (vX8 cI cJ cZ ad σ) H → va_D A (vX8 cI cJ cZ ad σ) → va_S A s.heap H locs → lv_has ls 6 [(0, .ref (ad 0)), (1, .int a.1), (2, .int a.2.1), (3, .int a.2.2.1)] → W p l e ({ frames := 0, cells := 0, slots := 0, locals := 0 } : Room) s m args below meth c H locs 0 0 (MQ below (qI (dC, dI) (kT cI cJ cZ) (vX8 cI cJ cZ ad σ) A r) args s 0 0 A) (F0 m 35 ls [.int a.2.2.2]) := by
  obtain ⟨hx, hb, hml, hown, hT, hr, hlocks⟩ := id C0
  intro a hd H locs ls hP hD hS hl
  unfold fX8_nextOut_35 at hd
  refine lv_istore (lv' := [(4, .int a.2.2.2), (0, .ref (ad 0)), (1, .int a.1), (2, .int a.2.1), (3, .int a.2.2.1)]) hx hb dX8_nextOut_35 hl (by decide) rfl (fun ls hl => ?_)
  refine lv_aload_n hx hb dX8_nextOut_37 rfl (lv_at hl 1 rfl) ?_
  refine gX8_0_8 C0 hK hP wm_6_9 dX8_nextOut_38 ?_
  refine lv_iload_n hx hb dX8_nextOut_41 rfl (lv_at hl 4 rfl) ?_
  obtain ⟨g_5, hd⟩ := ix_some hd
  refine lX8_5 C0 hK hP rfl g_5 dX8_nextOut_42 ?_
  refine lv_iconst (v := 2) hx hb dX8_nextOut_43 (by decide) ?_
  refine lv_icmp_ne (tgt := 54) hx hb dX8_nextOut_44 (by decide) (fun c_6 => ?_) (fun c_6 => ?_)
  · replace hd := i_e hd c_6
    exact bX8_nextOut_54 C0 hK hX hA k6 ih6 _ hd _ _ _ hP hD hS (lv_sub hl [1, 2, 3, 4] rfl)
  · replace hd := i_t hd c_6
    refine lv_iload hx hb dX8_nextOut_47 (lv_at hl 0 rfl) ?_
    refine lv_if_eq (tgt := 54) hx hb dX8_nextOut_49 (by decide) (fun c_7 => ?_) (fun c_7 => ?_)
    · replace hd := i_t hd c_7
      exact bX8_nextOut_54 C0 hK hX hA k6 ih6 _ hd _ _ _ hP hD hS (lv_sub hl [1, 2, 3, 4] rfl)
    · replace hd := i_e hd c_7
      refine lv_iload_n hx hb dX8_nextOut_52 rfl (lv_at hl 4 rfl) ?_
      obtain rfl := Option.some.inj hd
      exact my_iret C0 hK hP hD hS dX8_nextOut_53
def fX8_nextOut_30 (n : Nat) (σ : St) (k6 : (Int32 × Int32 × Int32) → Option (Int32)) (a : Int32 × Int32 × Int32) : Option (Int32) := fX8_nextOut_35 n σ k6 (a.1, a.2.1, a.2.2, a.1)
set_option maxHeartbeats 4000000 in
set_option maxRecDepth 100000 in
theorem bX8_nextOut_30 {p : Program} {l : Launch} {e : Env} {s : State} {m : MethodId} {args : Array Value} {below : List Frame} {meth : Method} {c : Code} {A : Nat → Prop} {dC : Nat → ClassId} {dI : Nat → Nat → Nat} {cI cJ cZ : ClassId} {ad : Nat → Nat} {r : Int32} {n : Nat} {σ : St} (C0 : cx p s m args meth c cX8_nextOut 6 RX8 (some .int)) (hK : va_K (dC, dI) vwCl (kT cI cJ cZ) s) (hX : xT s) (hA : ∀ q : Nat, s.heap.size ≤ q → A q) (k6 : (Int32 × Int32 × Int32) → Option (Int32)) (ih6 : ∀ (a : Int32 × Int32 × Int32), k6 a = some r → ∀ (H : Heap) (locs : List Loc) (ls : Array Slot), va_P (dC, dI) vwCl (vX8 cI cJ cZ ad σ) H → va_D A (vX8 cI cJ cZ ad σ) → va_S A s.heap H locs → lv_has ls 6 [(0, .ref (ad 0)), (1, .int a.1), (2, .int a.2.1), (3, .int a.2.2)] → W p l e ({ frames := 0, cells := 0, slots := 0, locals := 0 } : Room) s m args below meth c H locs 0 0 (MQ below (qI (dC, dI) (kT cI cJ cZ) (vX8 cI cJ cZ ad σ) A r) args s 0 0 A) (F0 m 6 ls [])) : ∀ (a : Int32 × Int32 × Int32), fX8_nextOut_30 n σ k6 a = some r → ∀ (H : Heap) (locs : List Loc) (ls : Array Slot), va_P (dC, dI) vwCl (vX8 cI cJ cZ ad σ) H → va_D A (vX8 cI cJ cZ ad σ) → va_S A s.heap H locs → lv_has ls 6 [(0, .ref (ad 0)), (1, .int a.1), (2, .int a.2.1), (3, .int a.2.2)] → W p l e ({ frames := 0, cells := 0, slots := 0, locals := 0 } : Room) s m args below meth c H locs 0 0 (MQ below (qI (dC, dI) (kT cI cJ cZ) (vX8 cI cJ cZ ad σ) A r) args s 0 0 A) (F0 m 30 ls []) := by
  obtain ⟨hx, hb, hml, hown, hT, hr, hlocks⟩ := id C0
  intro a hd H locs ls hP hD hS hl
  unfold fX8_nextOut_30 at hd
  refine lv_iload_n hx hb dX8_nextOut_30 rfl (lv_at hl 1 rfl) ?_
  refine lv_goto (tgt := 35) hx hb dX8_nextOut_31 (by decide) ?_
  exact bX8_nextOut_35 C0 hK hX hA k6 ih6 _ hd _ _ _ hP hD hS (lv_sub hl [0, 1, 2, 3] rfl)
def fX8_nextOut_6 (n : Nat) (σ : St) (k6 : (Int32 × Int32 × Int32) → Option (Int32)) (a : Int32 × Int32 × Int32) : Option (Int32) := if (σ.1 3) ≤ a.2.2 then (some (-1 : Int32)) else (if (σ.1 1) = 0 then (ix a.2.2 300 (if ((σ.2.1 1) a.2.2.toNatClampNeg) = 0 then (fX8_nextOut_35 n σ k6 (a.1, a.2.1, a.2.2, a.2.1)) else (fX8_nextOut_30 n σ k6 (a.1, a.2.1, a.2.2)))) else (fX8_nextOut_30 n σ k6 (a.1, a.2.1, a.2.2)))
set_option maxHeartbeats 4000000 in
set_option maxRecDepth 100000 in
theorem bX8_nextOut_6 {p : Program} {l : Launch} {e : Env} {s : State} {m : MethodId} {args : Array Value} {below : List Frame} {meth : Method} {c : Code} {A : Nat → Prop} {dC : Nat → ClassId} {dI : Nat → Nat → Nat} {cI cJ cZ : ClassId} {ad : Nat → Nat} {r : Int32} {n : Nat} {σ : St} (C0 : cx p s m args meth c cX8_nextOut 6 RX8 (some .int)) (hK : va_K (dC, dI) vwCl (kT cI cJ cZ) s) (hX : xT s) (hA : ∀ q : Nat, s.heap.size ≤ q → A q) (k6 : (Int32 × Int32 × Int32) → Option (Int32)) (ih6 : ∀ (a : Int32 × Int32 × Int32), k6 a = some r → ∀ (H : Heap) (locs : List Loc) (ls : Array Slot), va_P (dC, dI) vwCl (vX8 cI cJ cZ ad σ) H → va_D A (vX8 cI cJ cZ ad σ) → va_S A s.heap H locs → lv_has ls 6 [(0, .ref (ad 0)), (1, .int a.1), (2, .int a.2.1), (3, .int a.2.2)] → W p l e ({ frames := 0, cells := 0, slots := 0, locals := 0 } : Room) s m args below meth c H locs 0 0 (MQ below (qI (dC, dI) (kT cI cJ cZ) (vX8 cI cJ cZ ad σ) A r) args s 0 0 A) (F0 m 6 ls [])) : ∀ (a : Int32 × Int32 × Int32), fX8_nextOut_6 n σ k6 a = some r → ∀ (H : Heap) (locs : List Loc) (ls : Array Slot), va_P (dC, dI) vwCl (vX8 cI cJ cZ ad σ) H → va_D A (vX8 cI cJ cZ ad σ) → va_S A s.heap H locs → lv_has ls 6 [(0, .ref (ad 0)), (1, .int a.1), (2, .int a.2.1), (3, .int a.2.2)] → W p l e ({ frames := 0, cells := 0, slots := 0, locals := 0 } : Room) s m args below meth c H locs 0 0 (MQ below (qI (dC, dI) (kT cI cJ cZ) (vX8 cI cJ cZ ad σ) A r) args s 0 0 A) (F0 m 6 ls []) := by
  obtain ⟨hx, hb, hml, hown, hT, hr, hlocks⟩ := id C0
  intro a hd H locs ls hP hD hS hl
  unfold fX8_nextOut_6 at hd
  refine lv_iload_n hx hb dX8_nextOut_6 rfl (lv_at hl 3 rfl) ?_
  refine lv_aload_n hx hb dX8_nextOut_7 rfl (lv_at hl 0 rfl) ?_
  refine gX8_0_4 C0 hK hP wm_12_4 rfl dX8_nextOut_8 ?_
  refine lv_icmp_ge (tgt := 114) hx hb dX8_nextOut_11 (by decide) (fun c_1 => ?_) (fun c_1 => ?_)
  · replace hd := i_t hd c_1
    refine lv_iconst (v := (-1)) hx hb dX8_nextOut_114 (by decide) ?_
    obtain rfl := Option.some.inj hd
    exact my_iret C0 hK hP hD hS dX8_nextOut_115
  · replace hd := i_e hd c_1
    refine lv_aload_n hx hb dX8_nextOut_14 rfl (lv_at hl 0 rfl) ?_
    refine gX8_0_1 C0 hK hP wm_7_8 rfl dX8_nextOut_15 ?_
    refine lv_if_ne (tgt := 30) hx hb dX8_nextOut_18 (by decide) (fun c_2 => ?_) (fun c_2 => ?_)
    · replace hd := i_e hd c_2
      exact bX8_nextOut_30 C0 hK hX hA k6 ih6 _ hd _ _ _ hP hD hS (lv_sub hl [0, 1, 2, 3] rfl)
    · replace hd := i_t hd c_2
      refine lv_aload_n hx hb dX8_nextOut_21 rfl (lv_at hl 0 rfl) ?_
      refine gX8_0_5 C0 hK hP wm_6_6 dX8_nextOut_22 ?_
      refine lv_iload_n hx hb dX8_nextOut_25 rfl (lv_at hl 3 rfl) ?_
      obtain ⟨g_3, hd⟩ := ix_some hd
      refine lX8_2 C0 hK hP rfl g_3 dX8_nextOut_26 ?_
      refine lv_if_eq (tgt := 34) hx hb dX8_nextOut_27 (by decide) (fun c_4 => ?_) (fun c_4 => ?_)
      · replace hd := i_t hd c_4
        refine lv_iload_n hx hb dX8_nextOut_34 rfl (lv_at hl 2 rfl) ?_
        exact bX8_nextOut_35 C0 hK hX hA k6 ih6 _ hd _ _ _ hP hD hS (lv_sub hl [0, 1, 2, 3] rfl)
      · replace hd := i_e hd c_4
        exact bX8_nextOut_30 C0 hK hX hA k6 ih6 _ hd _ _ _ hP hD hS (lv_sub hl [0, 1, 2, 3] rfl)
set_option maxHeartbeats 4000000 in
set_option maxRecDepth 100000 in
theorem oX8_nextOut_6 {p : Program} {l : Launch} {e : Env} {s : State} {m : MethodId} {args : Array Value} {below : List Frame} {meth : Method} {c : Code} {A : Nat → Prop} {dC : Nat → ClassId} {dI : Nat → Nat → Nat} {cI cJ cZ : ClassId} {ad : Nat → Nat} {r : Int32} {n : Nat} {σ : St} (C0 : cx p s m args meth c cX8_nextOut 6 RX8 (some .int)) (hK : va_K (dC, dI) vwCl (kT cI cJ cZ) s) (hX : xT s) (hA : ∀ q : Nat, s.heap.size ≤ q → A q)  : ∀ nn : Nat, ∀ (a : Int32 × Int32 × Int32), loopF (fX8_nextOut_6 n σ ) nn a = some r → ∀ (H : Heap) (locs : List Loc) (ls : Array Slot), va_P (dC, dI) vwCl (vX8 cI cJ cZ ad σ) H → va_D A (vX8 cI cJ cZ ad σ) → va_S A s.heap H locs → lv_has ls 6 [(0, .ref (ad 0)), (1, .int a.1), (2, .int a.2.1), (3, .int a.2.2)] → W p l e ({ frames := 0, cells := 0, slots := 0, locals := 0 } : Room) s m args below meth c H locs 0 0 (MQ below (qI (dC, dI) (kT cI cJ cZ) (vX8 cI cJ cZ ad σ) A r) args s 0 0 A) (F0 m 6 ls []) := by
  intro nn
  induction nn with
  | zero => intro a hd; cases hd
  | succ nn ih => intro a hd; exact bX8_nextOut_6 C0 hK hX hA  _ ih a hd
def fX8_nextOut (n : Nat) (σ : St)  : Option (Int32) := loopF (fX8_nextOut_6 n σ ) n ((1 : Int32), (1 : Int32), (0 : Int32))
set_option maxHeartbeats 4000000 in
set_option maxRecDepth 100000 in
theorem mX8_nextOut (l : Launch) (dC : Nat → ClassId) (dI : Nat → Nat → Nat) (cI cJ cZ : ClassId) (ad : Nat → Nat) (n : Nat) (σ : St)  {r : Int32} (hd : fX8_nextOut n σ  = some r) (sz : Nat)  : Met l yX8_nextOut (wS yX8_nextOut cX8_nextOut 6 (some .int)) { frames := 0, cells := 0, slots := 0, locals := 0 } (pC (dC, dI) (kT cI cJ cZ) xT (vX8 cI cJ cZ ad σ) sz [.ref (ad 0)]) (qI (dC, dI) (kT cI cJ cZ) (vX8 cI cJ cZ ad σ) (va_A (vX8 cI cJ cZ ad σ) sz) r) 0 0 (va_A (vX8 cI cJ cZ ad σ) sz) := by
  refine my_ent (fun A => qI (dC, dI) (kT cI cJ cZ) (vX8 cI cJ cZ ad σ) A r) (by decide) (Nat.le_of_ble_eq_true rfl) ?_
  intro p e s m below meth c A hAe hnm C0 hK hX hP hD hA hS ls hl
  obtain ⟨hx, hb, hml, hown, hT, hr, hlocks⟩ := id C0
  unfold fX8_nextOut at hd
  have hl : lv_has ls 6 [(0, .ref (ad 0))] := hl
  refine lv_iconst (v := 1) hx hb dX8_nextOut_0 (by decide) ?_
  refine lv_istore_n (lv' := [(1, .int (1 : Int32)), (0, .ref (ad 0))]) hx hb dX8_nextOut_1 rfl hl (by decide) rfl (fun ls hl => ?_)
  refine lv_iconst (v := 1) hx hb dX8_nextOut_2 (by decide) ?_
  refine lv_istore_n (lv' := [(2, .int (1 : Int32)), (1, .int (1 : Int32)), (0, .ref (ad 0))]) hx hb dX8_nextOut_3 rfl hl (by decide) rfl (fun ls hl => ?_)
  refine lv_iconst (v := 0) hx hb dX8_nextOut_4 (by decide) ?_
  refine lv_istore_n (lv' := [(3, .int (0 : Int32)), (2, .int (1 : Int32)), (1, .int (1 : Int32)), (0, .ref (ad 0))]) hx hb dX8_nextOut_5 rfl hl (by decide) rfl (fun ls hl => ?_)
  exact oX8_nextOut_6 C0 hK hX hA  _ _ hd _ _ _ hP hD hS (lv_sub hl [3, 2, 1, 0] rfl)
def fX8_send (σ : St) (p1 : Int32) (p2 : Int32) (p3 : Int32) (p4 : Int64) : Option (St) := ix p1 2 (if (100 : Int32) ≤ ((σ.2.1 11) p1.toNatClampNeg) then (some σ) else (ix (((100 : Int32) * p1) + ((σ.2.1 11) p1.toNatClampNeg)) 200 (ix (((100 : Int32) * p1) + ((σ.2.1 11) p1.toNatClampNeg)) 200 (ix (((100 : Int32) * p1) + ((σ.2.1 11) p1.toNatClampNeg)) 200 (ix p1 2 (ix p1 2 (some (sA (sL (sA (sA σ 9 (upd (σ.2.1 9) (((100 : Int32) * p1) + ((σ.2.1 11) p1.toNatClampNeg)).toNatClampNeg p2)) 10 (upd (σ.2.1 10) (((100 : Int32) * p1) + ((σ.2.1 11) p1.toNatClampNeg)).toNatClampNeg p3)) 3 (vp_updL (σ.2.2 3) (((100 : Int32) * p1) + ((σ.2.1 11) p1.toNatClampNeg)).toNatClampNeg p4)) 11 (upd (σ.2.1 11) p1.toNatClampNeg (((σ.2.1 11) p1.toNatClampNeg) + (1 : Int32)))))))))))
set_option maxHeartbeats 4000000 in
set_option maxRecDepth 100000 in
theorem mX8_send (l : Launch) (dC : Nat → ClassId) (dI : Nat → Nat → Nat) (cI cJ cZ : ClassId) (ad : Nat → Nat) (σ : St) (p1 : Int32) (p2 : Int32) (p3 : Int32) (p4 : Int64) {r : St} (hd : fX8_send σ p1 p2 p3 p4 = some r) (sz : Nat)  : Met l yX8_send (wS yX8_send cX8_send 7 none) { frames := 0, cells := 0, slots := 0, locals := 0 } (pC (dC, dI) (kT cI cJ cZ) xT (vX8 cI cJ cZ ad σ) sz [.ref (ad 0), .int p1, .int p2, .int p3, .long p4]) (qV (dC, dI) (kT cI cJ cZ) (vX8 cI cJ cZ ad r) (va_A (vX8 cI cJ cZ ad σ) sz)) 0 0 (va_A (vX8 cI cJ cZ ad σ) sz) := by
  refine my_ent (fun A => qV (dC, dI) (kT cI cJ cZ) (vX8 cI cJ cZ ad r) A) (by decide) (Nat.le_of_ble_eq_true rfl) ?_
  intro p e s m below meth c A hAe hnm C0 hK hX hP hD hA hS ls hl
  obtain ⟨hx, hb, hml, hown, hT, hr, hlocks⟩ := id C0
  unfold fX8_send at hd
  have hl : lv_has ls 7 [(0, .ref (ad 0)), (1, .int p1), (2, .int p2), (3, .int p3), (4, .long p4)] := hl
  refine lv_aload_n hx hb dX8_send_0 rfl (lv_at hl 0 rfl) ?_
  refine gX8_0_23 C0 hK hP wm_6_20 dX8_send_1 ?_
  refine lv_iload_n hx hb dX8_send_4 rfl (lv_at hl 1 rfl) ?_
  obtain ⟨g_1, hd⟩ := ix_some hd
  refine lX8_16 C0 hK hP rfl g_1 dX8_send_5 ?_
  refine lv_istore (lv' := [(6, .int ((σ.2.1 11) p1.toNatClampNeg)), (0, .ref (ad 0)), (1, .int p1), (2, .int p2), (3, .int p3), (4, .long p4)]) hx hb dX8_send_6 hl (by decide) rfl (fun ls hl => ?_)
  refine lv_iload hx hb dX8_send_8 (lv_at hl 0 rfl) ?_
  refine lv_bipush (v := 100) hx hb dX8_send_10 (by decide) ?_
  refine lv_icmp_ge (tgt := 65) hx hb dX8_send_12 (by decide) (fun c_2 => ?_) (fun c_2 => ?_)
  · replace hd := i_t hd c_2
    obtain rfl := Option.some.inj hd
    exact my_vret C0 hK hP hD hS dX8_send_65
  · replace hd := i_e hd c_2
    refine lv_aload_n hx hb dX8_send_15 rfl (lv_at hl 1 rfl) ?_
    refine gX8_0_20 C0 hK hP wm_6_17 dX8_send_16 ?_
    refine lv_bipush (v := 100) hx hb dX8_send_19 (by decide) ?_
    refine lv_iload_n hx hb dX8_send_21 rfl (lv_at hl 2 rfl) ?_
    refine lv_imul hx hb dX8_send_22 ?_
    refine lv_iload hx hb dX8_send_23 (lv_at hl 0 rfl) ?_
    refine lv_iadd hx hb dX8_send_25 ?_
    refine lv_iload_n hx hb dX8_send_26 rfl (lv_at hl 3 rfl) ?_
    obtain ⟨g_3, hd⟩ := ix_some hd
    refine aX8_13 C0 hK hP hD hS rfl g_3 dX8_send_27 (fun H locs hP hD hS => ?_)
    refine lv_aload_n hx hb dX8_send_28 rfl (lv_at hl 1 rfl) ?_
    refine gX8_0_21 C0 hK hP wm_6_18 dX8_send_29 ?_
    refine lv_bipush (v := 100) hx hb dX8_send_32 (by decide) ?_
    refine lv_iload_n hx hb dX8_send_34 rfl (lv_at hl 2 rfl) ?_
    refine lv_imul hx hb dX8_send_35 ?_
    refine lv_iload hx hb dX8_send_36 (lv_at hl 0 rfl) ?_
    refine lv_iadd hx hb dX8_send_38 ?_
    refine lv_iload_n hx hb dX8_send_39 rfl (lv_at hl 4 rfl) ?_
    obtain ⟨g_4, hd⟩ := ix_some hd
    refine aX8_14 C0 hK hP hD hS (sA_n (by decide)) g_4 dX8_send_40 (fun H locs hP hD hS => ?_)
    refine lv_aload_n hx hb dX8_send_41 rfl (lv_at hl 1 rfl) ?_
    refine gX8_0_22 C0 hK hP wm_6_19 dX8_send_42 ?_
    refine lv_bipush (v := 100) hx hb dX8_send_45 (by decide) ?_
    refine lv_iload_n hx hb dX8_send_47 rfl (lv_at hl 2 rfl) ?_
    refine lv_imul hx hb dX8_send_48 ?_
    refine lv_iload hx hb dX8_send_49 (lv_at hl 0 rfl) ?_
    refine lv_iadd hx hb dX8_send_51 ?_
    refine lv_lload hx hb dX8_send_52 (lv_at hl 5 rfl) ?_
    obtain ⟨g_5, hd⟩ := ix_some hd
    refine aX8_15 C0 hK hP hD hS ((sA_L).trans (sA_L)) g_5 dX8_send_54 (fun H locs hP hD hS => ?_)
    refine lv_aload_n hx hb dX8_send_55 rfl (lv_at hl 1 rfl) ?_
    refine gX8_0_23 C0 hK hP wm_6_20 dX8_send_56 ?_
    refine lv_iload_n hx hb dX8_send_59 rfl (lv_at hl 2 rfl) ?_
    refine lv_dup2_11 hx hb dX8_send_60 rfl rfl ?_
    obtain ⟨g_6, hd⟩ := ix_some hd
    refine lX8_16 C0 hK hP ((sL_A).trans ((sA_n (by decide)).trans (sA_n (by decide)))) g_6 dX8_send_61 ?_
    refine lv_iconst (v := 1) hx hb dX8_send_62 (by decide) ?_
    refine lv_iadd hx hb dX8_send_63 ?_
    obtain ⟨g_7, hd⟩ := ix_some hd
    refine aX8_16 C0 hK hP hD hS ((sL_A).trans ((sA_n (by decide)).trans (sA_n (by decide)))) g_7 dX8_send_64 (fun H locs hP hD hS => ?_)
    obtain rfl := Option.some.inj hd
    exact my_vret C0 hK hP hD hS dX8_send_65
def fX8_take_7 (n : Nat) (k7 : (St × Int32 × Int32) → Option (St)) (a : St × Int32 × Int32) : Option (St) := ix a.2.1 2 (if (((100 : Int32) * a.2.1) + ((a.1.2.1 11) a.2.1.toNatClampNeg)) ≤ (a.2.2 + (1 : Int32)) then (ix a.2.1 2 (ix a.2.1 2 (some (sA a.1 11 (upd (a.1.2.1 11) a.2.1.toNatClampNeg (((a.1.2.1 11) a.2.1.toNatClampNeg) - (1 : Int32))))))) else (ix (a.2.2 + (1 : Int32)) 200 (ix a.2.2 200 (ix (a.2.2 + (1 : Int32)) 200 (ix a.2.2 200 (ix (a.2.2 + (1 : Int32)) 200 (ix a.2.2 200 (k7 (sL (sA (sA a.1 9 (upd (a.1.2.1 9) a.2.2.toNatClampNeg ((a.1.2.1 9) (a.2.2 + (1 : Int32)).toNatClampNeg))) 10 (upd (a.1.2.1 10) a.2.2.toNatClampNeg ((a.1.2.1 10) (a.2.2 + (1 : Int32)).toNatClampNeg))) 3 (vp_updL (a.1.2.2 3) a.2.2.toNatClampNeg ((a.1.2.2 3) (a.2.2 + (1 : Int32)).toNatClampNeg)), a.2.1, a.2.2 + 1)))))))))
set_option maxHeartbeats 4000000 in
set_option maxRecDepth 100000 in
theorem bX8_take_7 {p : Program} {l : Launch} {e : Env} {s : State} {m : MethodId} {args : Array Value} {below : List Frame} {meth : Method} {c : Code} {A : Nat → Prop} {dC : Nat → ClassId} {dI : Nat → Nat → Nat} {cI cJ cZ : ClassId} {ad : Nat → Nat} {r : St} {n : Nat} (C0 : cx p s m args meth c cX8_take 4 RX8 none) (hK : va_K (dC, dI) vwCl (kT cI cJ cZ) s) (hX : xT s) (hA : ∀ q : Nat, s.heap.size ≤ q → A q) (k7 : (St × Int32 × Int32) → Option (St)) (ih7 : ∀ (a : St × Int32 × Int32), k7 a = some r → ∀ (H : Heap) (locs : List Loc) (ls : Array Slot), va_P (dC, dI) vwCl (vX8 cI cJ cZ ad a.1) H → va_D A (vX8 cI cJ cZ ad a.1) → va_S A s.heap H locs → lv_has ls 4 [(0, .ref (ad 0)), (1, .int a.2.1), (3, .int a.2.2)] → W p l e ({ frames := 0, cells := 0, slots := 0, locals := 0 } : Room) s m args below meth c H locs 0 0 (MQ below (qV (dC, dI) (kT cI cJ cZ) (vX8 cI cJ cZ ad r) A) args s 0 0 A) (F0 m 7 ls [])) : ∀ (a : St × Int32 × Int32), fX8_take_7 n k7 a = some r → ∀ (H : Heap) (locs : List Loc) (ls : Array Slot), va_P (dC, dI) vwCl (vX8 cI cJ cZ ad a.1) H → va_D A (vX8 cI cJ cZ ad a.1) → va_S A s.heap H locs → lv_has ls 4 [(0, .ref (ad 0)), (1, .int a.2.1), (3, .int a.2.2)] → W p l e ({ frames := 0, cells := 0, slots := 0, locals := 0 } : Room) s m args below meth c H locs 0 0 (MQ below (qV (dC, dI) (kT cI cJ cZ) (vX8 cI cJ cZ ad r) A) args s 0 0 A) (F0 m 7 ls []) := by
  obtain ⟨hx, hb, hml, hown, hT, hr, hlocks⟩ := id C0
  intro a hd H locs ls hP hD hS hl
  unfold fX8_take_7 at hd
  refine lv_iload_n hx hb dX8_take_7 rfl (lv_at hl 2 rfl) ?_
  refine lv_iconst (v := 1) hx hb dX8_take_8 (by decide) ?_
  refine lv_iadd hx hb dX8_take_9 ?_
  refine lv_bipush (v := 100) hx hb dX8_take_10 (by decide) ?_
  refine lv_iload_n hx hb dX8_take_12 rfl (lv_at hl 1 rfl) ?_
  refine lv_imul hx hb dX8_take_13 ?_
  refine lv_aload_n hx hb dX8_take_14 rfl (lv_at hl 0 rfl) ?_
  refine gX8_0_23 C0 hK hP wm_6_20 dX8_take_15 ?_
  refine lv_iload_n hx hb dX8_take_18 rfl (lv_at hl 1 rfl) ?_
  obtain ⟨g_1, hd⟩ := ix_some hd
  refine lX8_16 C0 hK hP rfl g_1 dX8_take_19 ?_
  refine lv_iadd hx hb dX8_take_20 ?_
  refine lv_icmp_ge (tgt := 72) hx hb dX8_take_21 (by decide) (fun c_2 => ?_) (fun c_2 => ?_)
  · replace hd := i_t hd c_2
    refine lv_aload_n hx hb dX8_take_72 rfl (lv_at hl 0 rfl) ?_
    refine gX8_0_23 C0 hK hP wm_6_20 dX8_take_73 ?_
    refine lv_iload_n hx hb dX8_take_76 rfl (lv_at hl 1 rfl) ?_
    refine lv_dup2_11 hx hb dX8_take_77 rfl rfl ?_
    obtain ⟨g_3, hd⟩ := ix_some hd
    refine lX8_16 C0 hK hP rfl g_3 dX8_take_78 ?_
    refine lv_iconst (v := 1) hx hb dX8_take_79 (by decide) ?_
    refine lv_isub hx hb dX8_take_80 ?_
    obtain ⟨g_4, hd⟩ := ix_some hd
    refine aX8_16 C0 hK hP hD hS rfl g_4 dX8_take_81 (fun H locs hP hD hS => ?_)
    obtain rfl := Option.some.inj hd
    exact my_vret C0 hK hP hD hS dX8_take_82
  · replace hd := i_e hd c_2
    refine lv_aload_n hx hb dX8_take_24 rfl (lv_at hl 0 rfl) ?_
    refine gX8_0_20 C0 hK hP wm_6_17 dX8_take_25 ?_
    refine lv_iload_n hx hb dX8_take_28 rfl (lv_at hl 2 rfl) ?_
    refine lv_aload_n hx hb dX8_take_29 rfl (lv_at hl 0 rfl) ?_
    refine gX8_0_20 C0 hK hP wm_6_17 dX8_take_30 ?_
    refine lv_iload_n hx hb dX8_take_33 rfl (lv_at hl 2 rfl) ?_
    refine lv_iconst (v := 1) hx hb dX8_take_34 (by decide) ?_
    refine lv_iadd hx hb dX8_take_35 ?_
    obtain ⟨g_5, hd⟩ := ix_some hd
    refine lX8_13 C0 hK hP rfl g_5 dX8_take_36 ?_
    obtain ⟨g_6, hd⟩ := ix_some hd
    refine aX8_13 C0 hK hP hD hS rfl g_6 dX8_take_37 (fun H locs hP hD hS => ?_)
    refine lv_aload_n hx hb dX8_take_38 rfl (lv_at hl 0 rfl) ?_
    refine gX8_0_21 C0 hK hP wm_6_18 dX8_take_39 ?_
    refine lv_iload_n hx hb dX8_take_42 rfl (lv_at hl 2 rfl) ?_
    refine lv_aload_n hx hb dX8_take_43 rfl (lv_at hl 0 rfl) ?_
    refine gX8_0_21 C0 hK hP wm_6_18 dX8_take_44 ?_
    refine lv_iload_n hx hb dX8_take_47 rfl (lv_at hl 2 rfl) ?_
    refine lv_iconst (v := 1) hx hb dX8_take_48 (by decide) ?_
    refine lv_iadd hx hb dX8_take_49 ?_
    obtain ⟨g_7, hd⟩ := ix_some hd
    refine lX8_14 C0 hK hP (sA_n (by decide)) g_7 dX8_take_50 ?_
    obtain ⟨g_8, hd⟩ := ix_some hd
    refine aX8_14 C0 hK hP hD hS (sA_n (by decide)) g_8 dX8_take_51 (fun H locs hP hD hS => ?_)
    refine lv_aload_n hx hb dX8_take_52 rfl (lv_at hl 0 rfl) ?_
    refine gX8_0_22 C0 hK hP wm_6_19 dX8_take_53 ?_
    refine lv_iload_n hx hb dX8_take_56 rfl (lv_at hl 2 rfl) ?_
    refine lv_aload_n hx hb dX8_take_57 rfl (lv_at hl 0 rfl) ?_
    refine gX8_0_22 C0 hK hP wm_6_19 dX8_take_58 ?_
    refine lv_iload_n hx hb dX8_take_61 rfl (lv_at hl 2 rfl) ?_
    refine lv_iconst (v := 1) hx hb dX8_take_62 (by decide) ?_
    refine lv_iadd hx hb dX8_take_63 ?_
    obtain ⟨g_9, hd⟩ := ix_some hd
    refine lX8_15 C0 hK hP ((sA_L).trans (sA_L)) g_9 dX8_take_64 ?_
    obtain ⟨g_10, hd⟩ := ix_some hd
    refine aX8_15 C0 hK hP hD hS ((sA_L).trans (sA_L)) g_10 dX8_take_65 (fun H locs hP hD hS => ?_)
    refine lv_iinc (v := a.2.2 + 1) (lv' := [(3, .int (a.2.2 + 1)), (0, .ref (ad 0)), (1, .int a.2.1)]) hx hb dX8_take_66 hl (k := 2) rfl rfl (by decide) rfl (fun ls hl => ?_)
    refine lv_goto (tgt := 7) hx hb dX8_take_69 (by decide) ?_
    exact ih7 _ hd _ _ _ hP hD hS (lv_sub hl [1, 2, 0] rfl)
set_option maxHeartbeats 4000000 in
set_option maxRecDepth 100000 in
theorem oX8_take_7 {p : Program} {l : Launch} {e : Env} {s : State} {m : MethodId} {args : Array Value} {below : List Frame} {meth : Method} {c : Code} {A : Nat → Prop} {dC : Nat → ClassId} {dI : Nat → Nat → Nat} {cI cJ cZ : ClassId} {ad : Nat → Nat} {r : St} {n : Nat} (C0 : cx p s m args meth c cX8_take 4 RX8 none) (hK : va_K (dC, dI) vwCl (kT cI cJ cZ) s) (hX : xT s) (hA : ∀ q : Nat, s.heap.size ≤ q → A q)  : ∀ nn : Nat, ∀ (a : St × Int32 × Int32), loopF (fX8_take_7 n ) nn a = some r → ∀ (H : Heap) (locs : List Loc) (ls : Array Slot), va_P (dC, dI) vwCl (vX8 cI cJ cZ ad a.1) H → va_D A (vX8 cI cJ cZ ad a.1) → va_S A s.heap H locs → lv_has ls 4 [(0, .ref (ad 0)), (1, .int a.2.1), (3, .int a.2.2)] → W p l e ({ frames := 0, cells := 0, slots := 0, locals := 0 } : Room) s m args below meth c H locs 0 0 (MQ below (qV (dC, dI) (kT cI cJ cZ) (vX8 cI cJ cZ ad r) A) args s 0 0 A) (F0 m 7 ls []) := by
  intro nn
  induction nn with
  | zero => intro a hd; cases hd
  | succ nn ih => intro a hd; exact bX8_take_7 C0 hK hX hA  _ ih a hd
def fX8_take (n : Nat) (σ : St) (p1 : Int32) (p2 : Int32) : Option (St) := loopF (fX8_take_7 n ) n (σ, p1, ((100 : Int32) * p1) + p2)
set_option maxHeartbeats 4000000 in
set_option maxRecDepth 100000 in
theorem mX8_take (l : Launch) (dC : Nat → ClassId) (dI : Nat → Nat → Nat) (cI cJ cZ : ClassId) (ad : Nat → Nat) (n : Nat) (σ : St) (p1 : Int32) (p2 : Int32) {r : St} (hd : fX8_take n σ p1 p2 = some r) (sz : Nat)  : Met l yX8_take (wS yX8_take cX8_take 4 none) { frames := 0, cells := 0, slots := 0, locals := 0 } (pC (dC, dI) (kT cI cJ cZ) xT (vX8 cI cJ cZ ad σ) sz [.ref (ad 0), .int p1, .int p2]) (qV (dC, dI) (kT cI cJ cZ) (vX8 cI cJ cZ ad r) (va_A (vX8 cI cJ cZ ad σ) sz)) 0 0 (va_A (vX8 cI cJ cZ ad σ) sz) := by
  refine my_ent (fun A => qV (dC, dI) (kT cI cJ cZ) (vX8 cI cJ cZ ad r) A) (by decide) (Nat.le_of_ble_eq_true rfl) ?_
  intro p e s m below meth c A hAe hnm C0 hK hX hP hD hA hS ls hl
  obtain ⟨hx, hb, hml, hown, hT, hr, hlocks⟩ := id C0
  unfold fX8_take at hd
  have hl : lv_has ls 4 [(0, .ref (ad 0)), (1, .int p1), (2, .int p2)] := hl
  refine lv_bipush (v := 100) hx hb dX8_take_0 (by decide) ?_
  refine lv_iload_n hx hb dX8_take_2 rfl (lv_at hl 1 rfl) ?_
  refine lv_imul hx hb dX8_take_3 ?_
  refine lv_iload_n hx hb dX8_take_4 rfl (lv_at hl 2 rfl) ?_
  refine lv_iadd hx hb dX8_take_5 ?_
  refine lv_istore_n (lv' := [(3, .int (((100 : Int32) * p1) + p2)), (0, .ref (ad 0)), (1, .int p1), (2, .int p2)]) hx hb dX8_take_6 rfl hl (by decide) rfl (fun ls hl => ?_)
  exact oX8_take_7 C0 hK hX hA  _ _ hd _ _ _ hP hD hS (lv_sub hl [1, 2, 0] rfl)
def fX8_again (σ : St) (p1 : Int32) : Option (Int32 × St) := ix p1 300 (if ((σ.2.1 4) p1.toNatClampNeg) < ((σ.2.1 0) (1 : Int32).toNatClampNeg) then (ix p1 300 (ix p1 300 (ix (σ.1 4) 300 (some ((1 : Int32), sI (sA (sA σ 4 (upd (σ.2.1 4) p1.toNatClampNeg (((σ.2.1 4) p1.toNatClampNeg) + (1 : Int32)))) 6 (upd (σ.2.1 6) (σ.1 4).toNatClampNeg p1)) 4 ((σ.1 4) + (1 : Int32))))))) else (some ((0 : Int32), σ)))
set_option maxHeartbeats 4000000 in
set_option maxRecDepth 100000 in
theorem mX8_again (l : Launch) (dC : Nat → ClassId) (dI : Nat → Nat → Nat) (cI cJ cZ : ClassId) (ad : Nat → Nat) (σ : St) (p1 : Int32) {r : Int32 × St} (hd : fX8_again σ p1 = some r) (sz : Nat)  : Met l yX8_again (wS yX8_again cX8_again 2 (some .boolean)) { frames := 0, cells := 0, slots := 0, locals := 0 } (pC (dC, dI) (kT cI cJ cZ) xT (vX8 cI cJ cZ ad σ) sz [.ref (ad 0), .int p1]) (qI (dC, dI) (kT cI cJ cZ) (vX8 cI cJ cZ ad r.2) (va_A (vX8 cI cJ cZ ad σ) sz) r.1) 0 0 (va_A (vX8 cI cJ cZ ad σ) sz) := by
  refine my_ent (fun A => qI (dC, dI) (kT cI cJ cZ) (vX8 cI cJ cZ ad r.2) A r.1) (by decide) (Nat.le_of_ble_eq_true rfl) ?_
  intro p e s m below meth c A hAe hnm C0 hK hX hP hD hA hS ls hl
  obtain ⟨hx, hb, hml, hown, hT, hr, hlocks⟩ := id C0
  unfold fX8_again at hd
  have hl : lv_has ls 2 [(0, .ref (ad 0)), (1, .int p1)] := hl
  refine lv_aload_n hx hb dX8_again_0 rfl (lv_at hl 0 rfl) ?_
  refine gX8_0_11 C0 hK hP wm_6_12 dX8_again_1 ?_
  refine lv_iload_n hx hb dX8_again_4 rfl (lv_at hl 1 rfl) ?_
  obtain ⟨g_1, hd⟩ := ix_some hd
  refine lX8_8 C0 hK hP rfl g_1 dX8_again_5 ?_
  refine lv_aload_n hx hb dX8_again_6 rfl (lv_at hl 0 rfl) ?_
  refine gX8_0_3 C0 hK hP wm_6_5 dX8_again_7 ?_
  refine lv_iconst (v := 1) hx hb dX8_again_10 (by decide) ?_
  refine lX8_1 C0 hK hP rfl (by unfold vp_in; decide) dX8_again_11 ?_
  refine lv_icmp_lt (tgt := 17) hx hb dX8_again_12 (by decide) (fun c_2 => ?_) (fun c_2 => ?_)
  · replace hd := i_t hd c_2
    refine lv_aload_n hx hb dX8_again_17 rfl (lv_at hl 0 rfl) ?_
    refine gX8_0_11 C0 hK hP wm_6_12 dX8_again_18 ?_
    refine lv_iload_n hx hb dX8_again_21 rfl (lv_at hl 1 rfl) ?_
    refine lv_dup2_11 hx hb dX8_again_22 rfl rfl ?_
    obtain ⟨g_3, hd⟩ := ix_some hd
    refine lX8_8 C0 hK hP rfl g_3 dX8_again_23 ?_
    refine lv_iconst (v := 1) hx hb dX8_again_24 (by decide) ?_
    refine lv_iadd hx hb dX8_again_25 ?_
    obtain ⟨g_4, hd⟩ := ix_some hd
    refine aX8_8 C0 hK hP hD hS rfl g_4 dX8_again_26 (fun H locs hP hD hS => ?_)
    refine lv_aload_n hx hb dX8_again_27 rfl (lv_at hl 0 rfl) ?_
    refine gX8_0_13 C0 hK hP wm_6_14 dX8_again_28 ?_
    refine lv_aload_n hx hb dX8_again_31 rfl (lv_at hl 0 rfl) ?_
    refine gX8_0_14 C0 hK hP wm_11_20 (sA_I) dX8_again_32 ?_
    refine lv_iload_n hx hb dX8_again_35 rfl (lv_at hl 1 rfl) ?_
    obtain ⟨g_5, hd⟩ := ix_some hd
    refine aX8_10 C0 hK hP hD hS (sA_n (by decide)) g_5 dX8_again_36 (fun H locs hP hD hS => ?_)
    refine lv_aload_n hx hb dX8_again_37 rfl (lv_at hl 0 rfl) ?_
    refine lv_dup hx hb dX8_again_38 rfl ?_
    refine gX8_0_14 C0 hK hP wm_11_20 ((sA_I).trans (sA_I)) dX8_again_39 ?_
    refine lv_iconst (v := 1) hx hb dX8_again_42 (by decide) ?_
    refine lv_iadd hx hb dX8_again_43 ?_
    refine pX8_0_14 C0 hK hP hD hS wm_11_20 dX8_again_44 (fun H locs hP hD hS => ?_)
    refine lv_iconst (v := 1) hx hb dX8_again_47 (by decide) ?_
    obtain rfl := Option.some.inj hd
    exact my_zret C0 hK hP hD hS (Or.inr rfl) dX8_again_48
  · replace hd := i_e hd c_2
    refine lv_iconst (v := 0) hx hb dX8_again_15 (by decide) ?_
    obtain rfl := Option.some.inj hd
    exact my_zret C0 hK hP hD hS (Or.inl rfl) dX8_again_16
def fX8_goOn_191 (n : Nat) (k191 : (St × Int32) → Option (St)) (a : St × Int32) : Option (St) := if a.2 < 0 then (some a.1) else (ix a.2 300 (ix (a.1.1 7) 300 (ix (a.1.1 7) 300 ((fX8_nextOut n (sI (sA (sA (sA a.1 2 (upd (a.1.2.1 2) a.2.toNatClampNeg (3 : Int32))) 7 (upd (a.1.2.1 7) (a.1.1 7).toNatClampNeg a.2)) 8 (upd (a.1.2.1 8) (a.1.1 7).toNatClampNeg (a.1.1 2))) 7 ((a.1.1 7) + (1 : Int32)))).bind (fun u_34 => k191 (sI (sA (sA (sA a.1 2 (upd (a.1.2.1 2) a.2.toNatClampNeg (3 : Int32))) 7 (upd (a.1.2.1 7) (a.1.1 7).toNatClampNeg a.2)) 8 (upd (a.1.2.1 8) (a.1.1 7).toNatClampNeg (a.1.1 2))) 7 ((a.1.1 7) + (1 : Int32)), u_34))))))
set_option maxHeartbeats 4000000 in
set_option maxRecDepth 100000 in
theorem bX8_goOn_191 {p : Program} {l : Launch} {e : Env} {s : State} {m : MethodId} {args : Array Value} {below : List Frame} {meth : Method} {c : Code} {A : Nat → Prop} {dC : Nat → ClassId} {dI : Nat → Nat → Nat} {cI cJ cZ : ClassId} {ad : Nat → Nat} {r : St} {n : Nat} (C0 : cx p s m args meth c cX8_goOn 3 RX8 none) (hK : va_K (dC, dI) vwCl (kT cI cJ cZ) s) (hX : xT s) (hA : ∀ q : Nat, s.heap.size ≤ q → A q) (k191 : (St × Int32) → Option (St)) (ih191 : ∀ (a : St × Int32), k191 a = some r → ∀ (H : Heap) (locs : List Loc) (ls : Array Slot), va_P (dC, dI) vwCl (vX8 cI cJ cZ ad a.1) H → va_D A (vX8 cI cJ cZ ad a.1) → va_S A s.heap H locs → lv_has ls 3 [(0, .ref (ad 0)), (1, .int a.2)] → W p l e ({ frames := 3, cells := 0, slots := 0, locals := 69 } : Room) s m args below meth c H locs 0 0 (MQ below (qV (dC, dI) (kT cI cJ cZ) (vX8 cI cJ cZ ad r) A) args s 0 0 A) (F0 m 191 ls [])) : ∀ (a : St × Int32), fX8_goOn_191 n k191 a = some r → ∀ (H : Heap) (locs : List Loc) (ls : Array Slot), va_P (dC, dI) vwCl (vX8 cI cJ cZ ad a.1) H → va_D A (vX8 cI cJ cZ ad a.1) → va_S A s.heap H locs → lv_has ls 3 [(0, .ref (ad 0)), (1, .int a.2)] → W p l e ({ frames := 3, cells := 0, slots := 0, locals := 69 } : Room) s m args below meth c H locs 0 0 (MQ below (qV (dC, dI) (kT cI cJ cZ) (vX8 cI cJ cZ ad r) A) args s 0 0 A) (F0 m 191 ls []) := by
  obtain ⟨hx, hb, hml, hown, hT, hr, hlocks⟩ := id C0
  intro a hd H locs ls hP hD hS hl
  unfold fX8_goOn_191 at hd
  refine lv_iload_n hx hb dX8_goOn_191 rfl (lv_at hl 1 rfl) ?_
  refine lv_if_lt (tgt := 243) hx hb dX8_goOn_192 (by decide) (fun c_30 => ?_) (fun c_30 => ?_)
  · replace hd := i_t hd c_30
    obtain rfl := Option.some.inj hd
    exact my_vret C0 hK hP hD hS dX8_goOn_243
  · replace hd := i_e hd c_30
    refine lv_aload_n hx hb dX8_goOn_195 rfl (lv_at hl 0 rfl) ?_
    refine gX8_0_8 C0 hK hP wm_6_9 dX8_goOn_196 ?_
    refine lv_iload_n hx hb dX8_goOn_199 rfl (lv_at hl 1 rfl) ?_
    refine lv_iconst (v := 3) hx hb dX8_goOn_200 (by decide) ?_
    obtain ⟨g_31, hd⟩ := ix_some hd
    refine aX8_5 C0 hK hP hD hS rfl g_31 dX8_goOn_201 (fun H locs hP hD hS => ?_)
    refine lv_aload_n hx hb dX8_goOn_202 rfl (lv_at hl 0 rfl) ?_
    refine gX8_0_17 C0 hK hP wm_6_15 dX8_goOn_203 ?_
    refine lv_aload_n hx hb dX8_goOn_206 rfl (lv_at hl 0 rfl) ?_
    refine gX8_0_19 C0 hK hP wm_11_23 (sA_I) dX8_goOn_207 ?_
    refine lv_iload_n hx hb dX8_goOn_210 rfl (lv_at hl 1 rfl) ?_
    obtain ⟨g_32, hd⟩ := ix_some hd
    refine aX8_11 C0 hK hP hD hS (sA_n (by decide)) g_32 dX8_goOn_211 (fun H locs hP hD hS => ?_)
    refine lv_aload_n hx hb dX8_goOn_212 rfl (lv_at hl 0 rfl) ?_
    refine gX8_0_18 C0 hK hP wm_6_16 dX8_goOn_213 ?_
    refine lv_aload_n hx hb dX8_goOn_216 rfl (lv_at hl 0 rfl) ?_
    refine gX8_0_19 C0 hK hP wm_11_23 ((sA_I).trans (sA_I)) dX8_goOn_217 ?_
    refine lv_aload_n hx hb dX8_goOn_220 rfl (lv_at hl 0 rfl) ?_
    refine gX8_0_2 C0 hK hP wm_11_19 ((sA_I).trans (sA_I)) dX8_goOn_221 ?_
    obtain ⟨g_33, hd⟩ := ix_some hd
    refine aX8_12 C0 hK hP hD hS ((sA_n (by decide)).trans (sA_n (by decide))) g_33 dX8_goOn_224 (fun H locs hP hD hS => ?_)
    refine lv_aload_n hx hb dX8_goOn_225 rfl (lv_at hl 0 rfl) ?_
    refine lv_dup hx hb dX8_goOn_226 rfl ?_
    refine gX8_0_19 C0 hK hP wm_11_23 ((sA_I).trans ((sA_I).trans (sA_I))) dX8_goOn_227 ?_
    refine lv_iconst (v := 1) hx hb dX8_goOn_230 (by decide) ?_
    refine lv_iadd hx hb dX8_goOn_231 ?_
    refine pX8_0_19 C0 hK hP hD hS wm_11_23 dX8_goOn_232 (fun H locs hP hD hS => ?_)
    refine lv_aload_n hx hb dX8_goOn_235 rfl (lv_at hl 0 rfl) ?_
    obtain ⟨u_34, hc_35, hd⟩ := bd hd
    refine cw_i (rest := []) C0 (mX8_nextOut l dC dI cI cJ cZ ad n (sI (sA (sA (sA a.1 2 (upd (a.1.2.1 2) a.2.toNatClampNeg (3 : Int32))) 7 (upd (a.1.2.1 7) (a.1.1 7).toNatClampNeg a.2)) 8 (upd (a.1.2.1 8) (a.1.1 7).toNatClampNeg (a.1.1 2))) 7 ((a.1.1 7) + (1 : Int32)))  hc_35 _) gv_X8_142 yd_X8_nextOut ⟨rfl, rfl, Nat.le_of_ble_eq_true rfl, Nat.le_of_ble_eq_true rfl, Nat.zero_le _, Nat.zero_le _⟩ xT_b xT_w hK hP hD hS hA hl.1 rfl (Nat.le_of_ble_eq_true rfl) dX8_goOn_236 8 0 rfl rfl (fun H locs hP hD hS => ?_)
    refine lv_istore_n (lv' := [(1, .int u_34), (0, .ref (ad 0))]) hx hb dX8_goOn_239 rfl hl (by decide) rfl (fun ls hl => ?_)
    refine lv_goto (tgt := 191) hx hb dX8_goOn_240 (by decide) ?_
    exact ih191 _ hd _ _ _ hP hD hS (lv_sub hl [1, 0] rfl)
set_option maxHeartbeats 4000000 in
set_option maxRecDepth 100000 in
theorem oX8_goOn_191 {p : Program} {l : Launch} {e : Env} {s : State} {m : MethodId} {args : Array Value} {below : List Frame} {meth : Method} {c : Code} {A : Nat → Prop} {dC : Nat → ClassId} {dI : Nat → Nat → Nat} {cI cJ cZ : ClassId} {ad : Nat → Nat} {r : St} {n : Nat} (C0 : cx p s m args meth c cX8_goOn 3 RX8 none) (hK : va_K (dC, dI) vwCl (kT cI cJ cZ) s) (hX : xT s) (hA : ∀ q : Nat, s.heap.size ≤ q → A q)  : ∀ nn : Nat, ∀ (a : St × Int32), loopF (fX8_goOn_191 n ) nn a = some r → ∀ (H : Heap) (locs : List Loc) (ls : Array Slot), va_P (dC, dI) vwCl (vX8 cI cJ cZ ad a.1) H → va_D A (vX8 cI cJ cZ ad a.1) → va_S A s.heap H locs → lv_has ls 3 [(0, .ref (ad 0)), (1, .int a.2)] → W p l e ({ frames := 3, cells := 0, slots := 0, locals := 69 } : Room) s m args below meth c H locs 0 0 (MQ below (qV (dC, dI) (kT cI cJ cZ) (vX8 cI cJ cZ ad r) A) args s 0 0 A) (F0 m 191 ls []) := by
  intro nn
  induction nn with
  | zero => intro a hd; cases hd
  | succ nn ih => intro a hd; exact bX8_goOn_191 C0 hK hX hA  _ ih a hd
def fX8_goOn_186 (n : Nat)  (a : St) : Option (St) := (fX8_nextOut n a).bind (fun u_28 => loopF (fX8_goOn_191 n ) n (a, u_28))
set_option maxHeartbeats 4000000 in
set_option maxRecDepth 100000 in
theorem bX8_goOn_186 {p : Program} {l : Launch} {e : Env} {s : State} {m : MethodId} {args : Array Value} {below : List Frame} {meth : Method} {c : Code} {A : Nat → Prop} {dC : Nat → ClassId} {dI : Nat → Nat → Nat} {cI cJ cZ : ClassId} {ad : Nat → Nat} {r : St} {n : Nat} (C0 : cx p s m args meth c cX8_goOn 3 RX8 none) (hK : va_K (dC, dI) vwCl (kT cI cJ cZ) s) (hX : xT s) (hA : ∀ q : Nat, s.heap.size ≤ q → A q)  : ∀ (a : St), fX8_goOn_186 n  a = some r → ∀ (H : Heap) (locs : List Loc) (ls : Array Slot), va_P (dC, dI) vwCl (vX8 cI cJ cZ ad a) H → va_D A (vX8 cI cJ cZ ad a) → va_S A s.heap H locs → lv_has ls 3 [(0, .ref (ad 0))] → W p l e ({ frames := 3, cells := 0, slots := 0, locals := 69 } : Room) s m args below meth c H locs 0 0 (MQ below (qV (dC, dI) (kT cI cJ cZ) (vX8 cI cJ cZ ad r) A) args s 0 0 A) (F0 m 186 ls []) := by
  obtain ⟨hx, hb, hml, hown, hT, hr, hlocks⟩ := id C0
  intro a hd H locs ls hP hD hS hl
  unfold fX8_goOn_186 at hd
  refine lv_aload_n hx hb dX8_goOn_186 rfl (lv_at hl 0 rfl) ?_
  obtain ⟨u_28, hc_29, hd⟩ := bd hd
  refine cw_i (rest := []) C0 (mX8_nextOut l dC dI cI cJ cZ ad n a  hc_29 _) gv_X8_142 yd_X8_nextOut ⟨rfl, rfl, Nat.le_of_ble_eq_true rfl, Nat.le_of_ble_eq_true rfl, Nat.zero_le _, Nat.zero_le _⟩ xT_b xT_w hK hP hD hS hA hl.1 rfl (Nat.le_of_ble_eq_true rfl) dX8_goOn_187 8 0 rfl rfl (fun H locs hP hD hS => ?_)
  refine lv_istore_n (lv' := [(1, .int u_28), (0, .ref (ad 0))]) hx hb dX8_goOn_190 rfl hl (by decide) rfl (fun ls hl => ?_)
  exact oX8_goOn_191 C0 hK hX hA  _ _ hd _ _ _ hP hD hS (lv_sub hl [1, 0] rfl)
def fX8_goOn_106 (n : Nat) (k106 : St → Option (St)) (a : St) : Option (St) := if ((a.2.1 0) (2 : Int32).toNatClampNeg) ≤ (a.1 5) then (fX8_goOn_186 n  a) else (if (a.1 4) ≤ 0 then (fX8_goOn_186 n  a) else ((fX8_leave n a ((a.2.1 6) (0 : Int32).toNatClampNeg)).bind (fun u_20 => ix ((a.2.1 6) (0 : Int32).toNatClampNeg) 300 ((fX8_send (sI (sI (sA u_20 5 (upd (u_20.2.1 5) ((a.2.1 6) (0 : Int32).toNatClampNeg).toNatClampNeg ((u_20.1 2) + ((u_20.2.1 0) (0 : Int32).toNatClampNeg)))) 5 ((u_20.1 5) + (1 : Int32))) 6 ((u_20.1 6) + (1 : Int32))) (0 : Int32) ((a.2.1 6) (0 : Int32).toNatClampNeg) (0 : Int32) (0 : Int64)).bind (fun u_23 => k106 u_23)))))
set_option maxHeartbeats 4000000 in
set_option maxRecDepth 100000 in
theorem bX8_goOn_106 {p : Program} {l : Launch} {e : Env} {s : State} {m : MethodId} {args : Array Value} {below : List Frame} {meth : Method} {c : Code} {A : Nat → Prop} {dC : Nat → ClassId} {dI : Nat → Nat → Nat} {cI cJ cZ : ClassId} {ad : Nat → Nat} {r : St} {n : Nat} (C0 : cx p s m args meth c cX8_goOn 3 RX8 none) (hK : va_K (dC, dI) vwCl (kT cI cJ cZ) s) (hX : xT s) (hA : ∀ q : Nat, s.heap.size ≤ q → A q) (k106 : (St) → Option (St)) (ih106 : ∀ (a : St), k106 a = some r → ∀ (H : Heap) (locs : List Loc) (ls : Array Slot), va_P (dC, dI) vwCl (vX8 cI cJ cZ ad a) H → va_D A (vX8 cI cJ cZ ad a) → va_S A s.heap H locs → lv_has ls 3 [(0, .ref (ad 0))] → W p l e ({ frames := 3, cells := 0, slots := 0, locals := 69 } : Room) s m args below meth c H locs 0 0 (MQ below (qV (dC, dI) (kT cI cJ cZ) (vX8 cI cJ cZ ad r) A) args s 0 0 A) (F0 m 106 ls [])) : ∀ (a : St), fX8_goOn_106 n k106 a = some r → ∀ (H : Heap) (locs : List Loc) (ls : Array Slot), va_P (dC, dI) vwCl (vX8 cI cJ cZ ad a) H → va_D A (vX8 cI cJ cZ ad a) → va_S A s.heap H locs → lv_has ls 3 [(0, .ref (ad 0))] → W p l e ({ frames := 3, cells := 0, slots := 0, locals := 69 } : Room) s m args below meth c H locs 0 0 (MQ below (qV (dC, dI) (kT cI cJ cZ) (vX8 cI cJ cZ ad r) A) args s 0 0 A) (F0 m 106 ls []) := by
  obtain ⟨hx, hb, hml, hown, hT, hr, hlocks⟩ := id C0
  intro a hd H locs ls hP hD hS hl
  unfold fX8_goOn_106 at hd
  refine lv_aload_n hx hb dX8_goOn_106 rfl (lv_at hl 0 rfl) ?_
  refine gX8_0_15 C0 hK hP wm_11_21 rfl dX8_goOn_107 ?_
  refine lv_aload_n hx hb dX8_goOn_110 rfl (lv_at hl 0 rfl) ?_
  refine gX8_0_3 C0 hK hP wm_6_5 dX8_goOn_111 ?_
  refine lv_iconst (v := 2) hx hb dX8_goOn_114 (by decide) ?_
  refine lX8_1 C0 hK hP rfl (by unfold vp_in; decide) dX8_goOn_115 ?_
  refine lv_icmp_ge (tgt := 186) hx hb dX8_goOn_116 (by decide) (fun c_18 => ?_) (fun c_18 => ?_)
  · replace hd := i_t hd c_18
    exact bX8_goOn_186 C0 hK hX hA  _ hd _ _ _ hP hD hS (lv_sub hl [0] rfl)
  · replace hd := i_e hd c_18
    refine lv_aload_n hx hb dX8_goOn_119 rfl (lv_at hl 0 rfl) ?_
    refine gX8_0_14 C0 hK hP wm_11_20 rfl dX8_goOn_120 ?_
    refine lv_if_le (tgt := 186) hx hb dX8_goOn_123 (by decide) (fun c_19 => ?_) (fun c_19 => ?_)
    · replace hd := i_t hd c_19
      exact bX8_goOn_186 C0 hK hX hA  _ hd _ _ _ hP hD hS (lv_sub hl [0] rfl)
    · replace hd := i_e hd c_19
      refine lv_aload_n hx hb dX8_goOn_126 rfl (lv_at hl 0 rfl) ?_
      refine gX8_0_13 C0 hK hP wm_6_14 dX8_goOn_127 ?_
      refine lv_iconst (v := 0) hx hb dX8_goOn_130 (by decide) ?_
      refine lX8_10 C0 hK hP rfl (by unfold vp_in; decide) dX8_goOn_131 ?_
      refine lv_istore_n (lv' := [(1, .int ((a.2.1 6) (0 : Int32).toNatClampNeg)), (0, .ref (ad 0))]) hx hb dX8_goOn_132 rfl hl (by decide) rfl (fun ls hl => ?_)
      refine lv_aload_n hx hb dX8_goOn_133 rfl (lv_at hl 1 rfl) ?_
      refine lv_iload_n hx hb dX8_goOn_134 rfl (lv_at hl 0 rfl) ?_
      obtain ⟨u_20, hc_21, hd⟩ := bd hd
      refine cw_v (rest := []) C0 (mX8_leave l dC dI cI cJ cZ ad n a ((a.2.1 6) (0 : Int32).toNatClampNeg) hc_21 _) gv_X8_104 yd_X8_leave ⟨rfl, rfl, Nat.le_of_ble_eq_true rfl, Nat.le_of_ble_eq_true rfl, Nat.zero_le _, Nat.zero_le _⟩ xT_b xT_w hK hP hD hS hA hl.1 rfl (Nat.le_of_ble_eq_true rfl) dX8_goOn_135 8 0 rfl rfl (fun H locs hP hD hS => ?_)
      refine lv_aload_n hx hb dX8_goOn_138 rfl (lv_at hl 1 rfl) ?_
      refine gX8_0_12 C0 hK hP wm_6_13 dX8_goOn_139 ?_
      refine lv_iload_n hx hb dX8_goOn_142 rfl (lv_at hl 0 rfl) ?_
      refine lv_aload_n hx hb dX8_goOn_143 rfl (lv_at hl 1 rfl) ?_
      refine gX8_0_2 C0 hK hP wm_11_19 rfl dX8_goOn_144 ?_
      refine lv_aload_n hx hb dX8_goOn_147 rfl (lv_at hl 1 rfl) ?_
      refine gX8_0_3 C0 hK hP wm_6_5 dX8_goOn_148 ?_
      refine lv_iconst (v := 0) hx hb dX8_goOn_151 (by decide) ?_
      refine lX8_1 C0 hK hP rfl (by unfold vp_in; decide) dX8_goOn_152 ?_
      refine lv_iadd hx hb dX8_goOn_153 ?_
      obtain ⟨g_22, hd⟩ := ix_some hd
      refine aX8_9 C0 hK hP hD hS rfl g_22 dX8_goOn_154 (fun H locs hP hD hS => ?_)
      refine lv_aload_n hx hb dX8_goOn_155 rfl (lv_at hl 1 rfl) ?_
      refine lv_dup hx hb dX8_goOn_156 rfl ?_
      refine gX8_0_15 C0 hK hP wm_11_21 (sA_I) dX8_goOn_157 ?_
      refine lv_iconst (v := 1) hx hb dX8_goOn_160 (by decide) ?_
      refine lv_iadd hx hb dX8_goOn_161 ?_
      refine pX8_0_15 C0 hK hP hD hS wm_11_21 dX8_goOn_162 (fun H locs hP hD hS => ?_)
      refine lv_aload_n hx hb dX8_goOn_165 rfl (lv_at hl 1 rfl) ?_
      refine lv_dup hx hb dX8_goOn_166 rfl ?_
      refine gX8_0_16 C0 hK hP wm_11_22 ((sI_n (by decide)).trans (sA_I)) dX8_goOn_167 ?_
      refine lv_iconst (v := 1) hx hb dX8_goOn_170 (by decide) ?_
      refine lv_iadd hx hb dX8_goOn_171 ?_
      refine pX8_0_16 C0 hK hP hD hS wm_11_22 dX8_goOn_172 (fun H locs hP hD hS => ?_)
      refine lv_aload_n hx hb dX8_goOn_175 rfl (lv_at hl 1 rfl) ?_
      refine lv_iconst (v := 0) hx hb dX8_goOn_176 (by decide) ?_
      refine lv_iload_n hx hb dX8_goOn_177 rfl (lv_at hl 0 rfl) ?_
      refine lv_iconst (v := 0) hx hb dX8_goOn_178 (by decide) ?_
      refine lv_lconst (v := 0) hx hb dX8_goOn_179 (by decide) ?_
      obtain ⟨u_23, hc_24, hd⟩ := bd hd
      refine cw_v (rest := []) C0 (mX8_send l dC dI cI cJ cZ ad (sI (sI (sA u_20 5 (upd (u_20.2.1 5) ((a.2.1 6) (0 : Int32).toNatClampNeg).toNatClampNeg ((u_20.1 2) + ((u_20.2.1 0) (0 : Int32).toNatClampNeg)))) 5 ((u_20.1 5) + (1 : Int32))) 6 ((u_20.1 6) + (1 : Int32))) (0 : Int32) ((a.2.1 6) (0 : Int32).toNatClampNeg) (0 : Int32) (0 : Int64) hc_24 _) gv_X8_138 yd_X8_send ⟨rfl, rfl, Nat.le_of_ble_eq_true rfl, Nat.le_of_ble_eq_true rfl, Nat.zero_le _, Nat.zero_le _⟩ xT_b xT_w hK hP hD hS hA hl.1 rfl (Nat.le_of_ble_eq_true rfl) dX8_goOn_180 8 0 rfl rfl (fun H locs hP hD hS => ?_)
      refine lv_goto (tgt := 106) hx hb dX8_goOn_183 (by decide) ?_
      exact ih106 _ hd _ _ _ hP hD hS (lv_sub hl [1] rfl)
set_option maxHeartbeats 4000000 in
set_option maxRecDepth 100000 in
theorem oX8_goOn_106 {p : Program} {l : Launch} {e : Env} {s : State} {m : MethodId} {args : Array Value} {below : List Frame} {meth : Method} {c : Code} {A : Nat → Prop} {dC : Nat → ClassId} {dI : Nat → Nat → Nat} {cI cJ cZ : ClassId} {ad : Nat → Nat} {r : St} {n : Nat} (C0 : cx p s m args meth c cX8_goOn 3 RX8 none) (hK : va_K (dC, dI) vwCl (kT cI cJ cZ) s) (hX : xT s) (hA : ∀ q : Nat, s.heap.size ≤ q → A q)  : ∀ nn : Nat, ∀ (a : St), loopF (fX8_goOn_106 n ) nn a = some r → ∀ (H : Heap) (locs : List Loc) (ls : Array Slot), va_P (dC, dI) vwCl (vX8 cI cJ cZ ad a) H → va_D A (vX8 cI cJ cZ ad a) → va_S A s.heap H locs → lv_has ls 3 [(0, .ref (ad 0))] → W p l e ({ frames := 3, cells := 0, slots := 0, locals := 69 } : Room) s m args below meth c H locs 0 0 (MQ below (qV (dC, dI) (kT cI cJ cZ) (vX8 cI cJ cZ ad r) A) args s 0 0 A) (F0 m 106 ls []) := by
  intro nn
  induction nn with
  | zero => intro a hd; cases hd
  | succ nn ih => intro a hd; exact bX8_goOn_106 C0 hK hX hA  _ ih a hd
def fX8_goOn_103 (n : Nat) (k0 : St → Option (St)) (a : St) : Option (St) := k0 a
set_option maxHeartbeats 4000000 in
set_option maxRecDepth 100000 in
theorem bX8_goOn_103 {p : Program} {l : Launch} {e : Env} {s : State} {m : MethodId} {args : Array Value} {below : List Frame} {meth : Method} {c : Code} {A : Nat → Prop} {dC : Nat → ClassId} {dI : Nat → Nat → Nat} {cI cJ cZ : ClassId} {ad : Nat → Nat} {r : St} {n : Nat} (C0 : cx p s m args meth c cX8_goOn 3 RX8 none) (hK : va_K (dC, dI) vwCl (kT cI cJ cZ) s) (hX : xT s) (hA : ∀ q : Nat, s.heap.size ≤ q → A q) (k0 : (St) → Option (St)) (ih0 : ∀ (a : St), k0 a = some r → ∀ (H : Heap) (locs : List Loc) (ls : Array Slot), va_P (dC, dI) vwCl (vX8 cI cJ cZ ad a) H → va_D A (vX8 cI cJ cZ ad a) → va_S A s.heap H locs → lv_has ls 3 [(0, .ref (ad 0))] → W p l e ({ frames := 3, cells := 0, slots := 0, locals := 69 } : Room) s m args below meth c H locs 0 0 (MQ below (qV (dC, dI) (kT cI cJ cZ) (vX8 cI cJ cZ ad r) A) args s 0 0 A) (F0 m 0 ls [])) : ∀ (a : St), fX8_goOn_103 n k0 a = some r → ∀ (H : Heap) (locs : List Loc) (ls : Array Slot), va_P (dC, dI) vwCl (vX8 cI cJ cZ ad a) H → va_D A (vX8 cI cJ cZ ad a) → va_S A s.heap H locs → lv_has ls 3 [(0, .ref (ad 0))] → W p l e ({ frames := 3, cells := 0, slots := 0, locals := 69 } : Room) s m args below meth c H locs 0 0 (MQ below (qV (dC, dI) (kT cI cJ cZ) (vX8 cI cJ cZ ad r) A) args s 0 0 A) (F0 m 103 ls []) := by
  obtain ⟨hx, hb, hml, hown, hT, hr, hlocks⟩ := id C0
  intro a hd H locs ls hP hD hS hl
  unfold fX8_goOn_103 at hd
  refine lv_goto (tgt := 0) hx hb dX8_goOn_103 (by decide) ?_
  exact ih0 _ hd _ _ _ hP hD hS (lv_sub hl [0] rfl)
def fX8_goOn_69 (n : Nat) (k0 : St → Option (St)) (a : St × Int32) : Option (St) := ix a.2 300 (ix a.2 300 (ix (a.1.1 4) 300 (fX8_goOn_103 n k0 (sI (sA (sA (sA a.1 2 (upd (a.1.2.1 2) a.2.toNatClampNeg (1 : Int32))) 4 (upd (a.1.2.1 4) a.2.toNatClampNeg (1 : Int32))) 6 (upd (a.1.2.1 6) (a.1.1 4).toNatClampNeg a.2)) 4 ((a.1.1 4) + (1 : Int32))))))
set_option maxHeartbeats 4000000 in
set_option maxRecDepth 100000 in
theorem bX8_goOn_69 {p : Program} {l : Launch} {e : Env} {s : State} {m : MethodId} {args : Array Value} {below : List Frame} {meth : Method} {c : Code} {A : Nat → Prop} {dC : Nat → ClassId} {dI : Nat → Nat → Nat} {cI cJ cZ : ClassId} {ad : Nat → Nat} {r : St} {n : Nat} (C0 : cx p s m args meth c cX8_goOn 3 RX8 none) (hK : va_K (dC, dI) vwCl (kT cI cJ cZ) s) (hX : xT s) (hA : ∀ q : Nat, s.heap.size ≤ q → A q) (k0 : (St) → Option (St)) (ih0 : ∀ (a : St), k0 a = some r → ∀ (H : Heap) (locs : List Loc) (ls : Array Slot), va_P (dC, dI) vwCl (vX8 cI cJ cZ ad a) H → va_D A (vX8 cI cJ cZ ad a) → va_S A s.heap H locs → lv_has ls 3 [(0, .ref (ad 0))] → W p l e ({ frames := 3, cells := 0, slots := 0, locals := 69 } : Room) s m args below meth c H locs 0 0 (MQ below (qV (dC, dI) (kT cI cJ cZ) (vX8 cI cJ cZ ad r) A) args s 0 0 A) (F0 m 0 ls [])) : ∀ (a : St × Int32), fX8_goOn_69 n k0 a = some r → ∀ (H : Heap) (locs : List Loc) (ls : Array Slot), va_P (dC, dI) vwCl (vX8 cI cJ cZ ad a.1) H → va_D A (vX8 cI cJ cZ ad a.1) → va_S A s.heap H locs → lv_has ls 3 [(0, .ref (ad 0)), (1, .int a.2)] → W p l e ({ frames := 3, cells := 0, slots := 0, locals := 69 } : Room) s m args below meth c H locs 0 0 (MQ below (qV (dC, dI) (kT cI cJ cZ) (vX8 cI cJ cZ ad r) A) args s 0 0 A) (F0 m 69 ls []) := by
  obtain ⟨hx, hb, hml, hown, hT, hr, hlocks⟩ := id C0
  intro a hd H locs ls hP hD hS hl
  unfold fX8_goOn_69 at hd
  refine lv_aload_n hx hb dX8_goOn_69 rfl (lv_at hl 0 rfl) ?_
  refine gX8_0_8 C0 hK hP wm_6_9 dX8_goOn_70 ?_
  refine lv_iload_n hx hb dX8_goOn_73 rfl (lv_at hl 1 rfl) ?_
  refine lv_iconst (v := 1) hx hb dX8_goOn_74 (by decide) ?_
  obtain ⟨g_25, hd⟩ := ix_some hd
  refine aX8_5 C0 hK hP hD hS rfl g_25 dX8_goOn_75 (fun H locs hP hD hS => ?_)
  refine lv_aload_n hx hb dX8_goOn_76 rfl (lv_at hl 0 rfl) ?_
  refine gX8_0_11 C0 hK hP wm_6_12 dX8_goOn_77 ?_
  refine lv_iload_n hx hb dX8_goOn_80 rfl (lv_at hl 1 rfl) ?_
  refine lv_iconst (v := 1) hx hb dX8_goOn_81 (by decide) ?_
  obtain ⟨g_26, hd⟩ := ix_some hd
  refine aX8_8 C0 hK hP hD hS (sA_n (by decide)) g_26 dX8_goOn_82 (fun H locs hP hD hS => ?_)
  refine lv_aload_n hx hb dX8_goOn_83 rfl (lv_at hl 0 rfl) ?_
  refine gX8_0_13 C0 hK hP wm_6_14 dX8_goOn_84 ?_
  refine lv_aload_n hx hb dX8_goOn_87 rfl (lv_at hl 0 rfl) ?_
  refine gX8_0_14 C0 hK hP wm_11_20 ((sA_I).trans (sA_I)) dX8_goOn_88 ?_
  refine lv_iload_n hx hb dX8_goOn_91 rfl (lv_at hl 1 rfl) ?_
  obtain ⟨g_27, hd⟩ := ix_some hd
  refine aX8_10 C0 hK hP hD hS ((sA_n (by decide)).trans (sA_n (by decide))) g_27 dX8_goOn_92 (fun H locs hP hD hS => ?_)
  refine lv_aload_n hx hb dX8_goOn_93 rfl (lv_at hl 0 rfl) ?_
  refine lv_dup hx hb dX8_goOn_94 rfl ?_
  refine gX8_0_14 C0 hK hP wm_11_20 ((sA_I).trans ((sA_I).trans (sA_I))) dX8_goOn_95 ?_
  refine lv_iconst (v := 1) hx hb dX8_goOn_98 (by decide) ?_
  refine lv_iadd hx hb dX8_goOn_99 ?_
  refine pX8_0_14 C0 hK hP hD hS wm_11_20 dX8_goOn_100 (fun H locs hP hD hS => ?_)
  exact bX8_goOn_103 C0 hK hX hA k0 ih0 _ hd _ _ _ hP hD hS (lv_sub hl [0] rfl)
def fX8_goOn_0 (n : Nat) (k0 : St → Option (St)) (a : St) : Option (St) := (fX8_countOf n a (1 : Int32)).bind (fun u_1 => if (a.1 0) ≤ u_1 then (loopF (fX8_goOn_106 n ) n a) else ((fX8_countOf n a (0 : Int32)).bind (fun u_4 => if u_4 ≤ 0 then (loopF (fX8_goOn_106 n ) n a) else ((fX8_first n a (0 : Int32)).bind (fun u_7 => ix u_7 300 ((fX8_keptFor n a ((a.2.2 0) u_7.toNatClampNeg)).bind (fun u_10 => if u_10 < 0 then (fX8_goOn_69 n k0 (a, u_7)) else (ix u_10 8 (if ((a.2.1 14) u_10.toNatClampNeg) < (a.1 2) then (fX8_goOn_69 n k0 (a, u_7)) else (ix u_10 8 ((fX8_settle n a u_7 (1 : Int32) ((a.2.2 6) u_10.toNatClampNeg)).bind (fun u_16 => fX8_goOn_103 n k0 u_16))))))))))))
set_option maxHeartbeats 4000000 in
set_option maxRecDepth 100000 in
theorem bX8_goOn_0 {p : Program} {l : Launch} {e : Env} {s : State} {m : MethodId} {args : Array Value} {below : List Frame} {meth : Method} {c : Code} {A : Nat → Prop} {dC : Nat → ClassId} {dI : Nat → Nat → Nat} {cI cJ cZ : ClassId} {ad : Nat → Nat} {r : St} {n : Nat} (C0 : cx p s m args meth c cX8_goOn 3 RX8 none) (hK : va_K (dC, dI) vwCl (kT cI cJ cZ) s) (hX : xT s) (hA : ∀ q : Nat, s.heap.size ≤ q → A q) (k0 : (St) → Option (St)) (ih0 : ∀ (a : St), k0 a = some r → ∀ (H : Heap) (locs : List Loc) (ls : Array Slot), va_P (dC, dI) vwCl (vX8 cI cJ cZ ad a) H → va_D A (vX8 cI cJ cZ ad a) → va_S A s.heap H locs → lv_has ls 3 [(0, .ref (ad 0))] → W p l e ({ frames := 3, cells := 0, slots := 0, locals := 69 } : Room) s m args below meth c H locs 0 0 (MQ below (qV (dC, dI) (kT cI cJ cZ) (vX8 cI cJ cZ ad r) A) args s 0 0 A) (F0 m 0 ls [])) : ∀ (a : St), fX8_goOn_0 n k0 a = some r → ∀ (H : Heap) (locs : List Loc) (ls : Array Slot), va_P (dC, dI) vwCl (vX8 cI cJ cZ ad a) H → va_D A (vX8 cI cJ cZ ad a) → va_S A s.heap H locs → lv_has ls 3 [(0, .ref (ad 0))] → W p l e ({ frames := 3, cells := 0, slots := 0, locals := 69 } : Room) s m args below meth c H locs 0 0 (MQ below (qV (dC, dI) (kT cI cJ cZ) (vX8 cI cJ cZ ad r) A) args s 0 0 A) (F0 m 0 ls []) := by
  obtain ⟨hx, hb, hml, hown, hT, hr, hlocks⟩ := id C0
  intro a hd H locs ls hP hD hS hl
  unfold fX8_goOn_0 at hd
  refine lv_aload_n hx hb dX8_goOn_0 rfl (lv_at hl 0 rfl) ?_
  refine lv_iconst (v := 1) hx hb dX8_goOn_1 (by decide) ?_
  obtain ⟨u_1, hc_2, hd⟩ := bd hd
  refine cw_i (rest := []) C0 (mX8_countOf l dC dI cI cJ cZ ad n a (1 : Int32) hc_2 _) gv_X8_115 yd_X8_countOf ⟨rfl, rfl, Nat.le_of_ble_eq_true rfl, Nat.le_of_ble_eq_true rfl, Nat.zero_le _, Nat.zero_le _⟩ xT_b xT_w hK hP hD hS hA hl.1 rfl (Nat.le_of_ble_eq_true rfl) dX8_goOn_2 8 0 rfl rfl (fun H locs hP hD hS => ?_)
  refine lv_aload_n hx hb dX8_goOn_5 rfl (lv_at hl 0 rfl) ?_
  refine gX8_0_0 C0 hK hP wm_7_7 rfl dX8_goOn_6 ?_
  refine lv_icmp_ge (tgt := 106) hx hb dX8_goOn_9 (by decide) (fun c_3 => ?_) (fun c_3 => ?_)
  · replace hd := i_t hd c_3
    exact oX8_goOn_106 C0 hK hX hA  _ _ hd _ _ _ hP hD hS (lv_sub hl [0] rfl)
  · replace hd := i_e hd c_3
    refine lv_aload_n hx hb dX8_goOn_12 rfl (lv_at hl 0 rfl) ?_
    refine lv_iconst (v := 0) hx hb dX8_goOn_13 (by decide) ?_
    obtain ⟨u_4, hc_5, hd⟩ := bd hd
    refine cw_i (rest := []) C0 (mX8_countOf l dC dI cI cJ cZ ad n a (0 : Int32) hc_5 _) gv_X8_115 yd_X8_countOf ⟨rfl, rfl, Nat.le_of_ble_eq_true rfl, Nat.le_of_ble_eq_true rfl, Nat.zero_le _, Nat.zero_le _⟩ xT_b xT_w hK hP hD hS hA hl.1 rfl (Nat.le_of_ble_eq_true rfl) dX8_goOn_14 8 0 rfl rfl (fun H locs hP hD hS => ?_)
    refine lv_if_le (tgt := 106) hx hb dX8_goOn_17 (by decide) (fun c_6 => ?_) (fun c_6 => ?_)
    · replace hd := i_t hd c_6
      exact oX8_goOn_106 C0 hK hX hA  _ _ hd _ _ _ hP hD hS (lv_sub hl [0] rfl)
    · replace hd := i_e hd c_6
      refine lv_aload_n hx hb dX8_goOn_20 rfl (lv_at hl 0 rfl) ?_
      refine lv_iconst (v := 0) hx hb dX8_goOn_21 (by decide) ?_
      obtain ⟨u_7, hc_8, hd⟩ := bd hd
      refine cw_i (rest := []) C0 (mX8_first l dC dI cI cJ cZ ad n a (0 : Int32) hc_8 _) gv_X8_118 yd_X8_first ⟨rfl, rfl, Nat.le_of_ble_eq_true rfl, Nat.le_of_ble_eq_true rfl, Nat.zero_le _, Nat.zero_le _⟩ xT_b xT_w hK hP hD hS hA hl.1 rfl (Nat.le_of_ble_eq_true rfl) dX8_goOn_22 8 0 rfl rfl (fun H locs hP hD hS => ?_)
      refine lv_istore_n (lv' := [(1, .int u_7), (0, .ref (ad 0))]) hx hb dX8_goOn_25 rfl hl (by decide) rfl (fun ls hl => ?_)
      refine lv_aload_n hx hb dX8_goOn_26 rfl (lv_at hl 1 rfl) ?_
      refine lv_aload_n hx hb dX8_goOn_27 rfl (lv_at hl 1 rfl) ?_
      refine gX8_0_6 C0 hK hP wm_6_7 dX8_goOn_28 ?_
      refine lv_iload_n hx hb dX8_goOn_31 rfl (lv_at hl 0 rfl) ?_
      obtain ⟨g_9, hd⟩ := ix_some hd
      refine lX8_3 C0 hK hP rfl g_9 dX8_goOn_32 ?_
      obtain ⟨u_10, hc_11, hd⟩ := bd hd
      refine cw_i (rest := []) C0 (mX8_keptFor l dC dI cI cJ cZ ad n a ((a.2.2 0) u_7.toNatClampNeg) hc_11 _) gv_X8_121 yd_X8_keptFor ⟨rfl, rfl, Nat.le_of_ble_eq_true rfl, Nat.le_of_ble_eq_true rfl, Nat.zero_le _, Nat.zero_le _⟩ xT_b xT_w hK hP hD hS hA hl.1 rfl (Nat.le_of_ble_eq_true rfl) dX8_goOn_33 8 0 rfl rfl (fun H locs hP hD hS => ?_)
      refine lv_istore_n (lv' := [(2, .int u_10), (1, .int u_7), (0, .ref (ad 0))]) hx hb dX8_goOn_36 rfl hl (by decide) rfl (fun ls hl => ?_)
      refine lv_iload_n hx hb dX8_goOn_37 rfl (lv_at hl 0 rfl) ?_
      refine lv_if_lt (tgt := 69) hx hb dX8_goOn_38 (by decide) (fun c_12 => ?_) (fun c_12 => ?_)
      · replace hd := i_t hd c_12
        exact bX8_goOn_69 C0 hK hX hA k0 ih0 _ hd _ _ _ hP hD hS (lv_sub hl [2, 1] rfl)
      · replace hd := i_e hd c_12
        refine lv_aload_n hx hb dX8_goOn_41 rfl (lv_at hl 2 rfl) ?_
        refine gX8_0_29 C0 hK hP wm_7_2 dX8_goOn_42 ?_
        refine lv_iload_n hx hb dX8_goOn_45 rfl (lv_at hl 0 rfl) ?_
        obtain ⟨g_13, hd⟩ := ix_some hd
        refine lX8_22 C0 hK hP rfl g_13 dX8_goOn_46 ?_
        refine lv_aload_n hx hb dX8_goOn_47 rfl (lv_at hl 2 rfl) ?_
        refine gX8_0_2 C0 hK hP wm_11_19 rfl dX8_goOn_48 ?_
        refine lv_icmp_lt (tgt := 69) hx hb dX8_goOn_51 (by decide) (fun c_14 => ?_) (fun c_14 => ?_)
        · replace hd := i_t hd c_14
          exact bX8_goOn_69 C0 hK hX hA k0 ih0 _ hd _ _ _ hP hD hS (lv_sub hl [2, 1] rfl)
        · replace hd := i_e hd c_14
          refine lv_aload_n hx hb dX8_goOn_54 rfl (lv_at hl 2 rfl) ?_
          refine lv_iload_n hx hb dX8_goOn_55 rfl (lv_at hl 1 rfl) ?_
          refine lv_iconst (v := 1) hx hb dX8_goOn_56 (by decide) ?_
          refine lv_aload_n hx hb dX8_goOn_57 rfl (lv_at hl 2 rfl) ?_
          refine gX8_0_28 C0 hK hP wm_7_1 dX8_goOn_58 ?_
          refine lv_iload_n hx hb dX8_goOn_61 rfl (lv_at hl 0 rfl) ?_
          obtain ⟨g_15, hd⟩ := ix_some hd
          refine lX8_21 C0 hK hP rfl g_15 dX8_goOn_62 ?_
          obtain ⟨u_16, hc_17, hd⟩ := bd hd
          refine cw_v (rest := []) C0 (mX8_settle l dC dI cI cJ cZ ad n a u_7 (1 : Int32) ((a.2.2 6) u_10.toNatClampNeg) hc_17 _) gv_X8_128 yd_X8_settle ⟨rfl, rfl, Nat.le_of_ble_eq_true rfl, Nat.le_of_ble_eq_true rfl, Nat.zero_le _, Nat.zero_le _⟩ xT_b xT_w hK hP hD hS hA hl.1 rfl (Nat.le_of_ble_eq_true rfl) dX8_goOn_63 8 0 rfl rfl (fun H locs hP hD hS => ?_)
          refine lv_goto (tgt := 103) hx hb dX8_goOn_66 (by decide) ?_
          exact bX8_goOn_103 C0 hK hX hA k0 ih0 _ hd _ _ _ hP hD hS (lv_sub hl [2] rfl)
set_option maxHeartbeats 4000000 in
set_option maxRecDepth 100000 in
theorem oX8_goOn_0 {p : Program} {l : Launch} {e : Env} {s : State} {m : MethodId} {args : Array Value} {below : List Frame} {meth : Method} {c : Code} {A : Nat → Prop} {dC : Nat → ClassId} {dI : Nat → Nat → Nat} {cI cJ cZ : ClassId} {ad : Nat → Nat} {r : St} {n : Nat} (C0 : cx p s m args meth c cX8_goOn 3 RX8 none) (hK : va_K (dC, dI) vwCl (kT cI cJ cZ) s) (hX : xT s) (hA : ∀ q : Nat, s.heap.size ≤ q → A q)  : ∀ nn : Nat, ∀ (a : St), loopF (fX8_goOn_0 n ) nn a = some r → ∀ (H : Heap) (locs : List Loc) (ls : Array Slot), va_P (dC, dI) vwCl (vX8 cI cJ cZ ad a) H → va_D A (vX8 cI cJ cZ ad a) → va_S A s.heap H locs → lv_has ls 3 [(0, .ref (ad 0))] → W p l e ({ frames := 3, cells := 0, slots := 0, locals := 69 } : Room) s m args below meth c H locs 0 0 (MQ below (qV (dC, dI) (kT cI cJ cZ) (vX8 cI cJ cZ ad r) A) args s 0 0 A) (F0 m 0 ls []) := by
  intro nn
  induction nn with
  | zero => intro a hd; cases hd
  | succ nn ih => intro a hd; exact bX8_goOn_0 C0 hK hX hA  _ ih a hd
def fX8_goOn (n : Nat) (σ : St)  : Option (St) := loopF (fX8_goOn_0 n ) n σ
set_option maxHeartbeats 4000000 in
set_option maxRecDepth 100000 in
theorem mX8_goOn (l : Launch) (dC : Nat → ClassId) (dI : Nat → Nat → Nat) (cI cJ cZ : ClassId) (ad : Nat → Nat) (n : Nat) (σ : St)  {r : St} (hd : fX8_goOn n σ  = some r) (sz : Nat)  : Met l yX8_goOn (wS yX8_goOn cX8_goOn 3 none) { frames := 3, cells := 0, slots := 0, locals := 69 } (pC (dC, dI) (kT cI cJ cZ) xT (vX8 cI cJ cZ ad σ) sz [.ref (ad 0)]) (qV (dC, dI) (kT cI cJ cZ) (vX8 cI cJ cZ ad r) (va_A (vX8 cI cJ cZ ad σ) sz)) 0 0 (va_A (vX8 cI cJ cZ ad σ) sz) := by
  refine my_ent (fun A => qV (dC, dI) (kT cI cJ cZ) (vX8 cI cJ cZ ad r) A) (by decide) (Nat.le_of_ble_eq_true rfl) ?_
  intro p e s m below meth c A hAe hnm C0 hK hX hP hD hA hS ls hl
  obtain ⟨hx, hb, hml, hown, hT, hr, hlocks⟩ := id C0
  unfold fX8_goOn at hd
  have hl : lv_has ls 3 [(0, .ref (ad 0))] := hl
  exact oX8_goOn_0 C0 hK hX hA  _ _ hd _ _ _ hP hD hS (lv_sub hl [0] rfl)
def fX8_set_64 (n : Nat)  (a : St × Int32 × Int32 × Int32 × Int32) : Option (Int32 × St) := if a.2.1 < 0 then (some ((-1 : Int32), a.1)) else (if (7 : Int32) < a.2.1 then (some ((-1 : Int32), a.1)) else (if a.2.2.1 < a.2.2.2.1 then (some ((-1 : Int32), a.1)) else (if a.2.2.1 ≤ a.2.2.2.2 then (ix a.2.1 8 (ix a.2.1 8 ((fX8_goOn n (sA a.1 0 (upd (a.1.2.1 0) a.2.1.toNatClampNeg a.2.2.1))).bind (fun u_15 => some ((a.1.2.1 0) a.2.1.toNatClampNeg, u_15))))) else (some ((-1 : Int32), a.1)))))
set_option maxHeartbeats 4000000 in
set_option maxRecDepth 100000 in
theorem bX8_set_64 {p : Program} {l : Launch} {e : Env} {s : State} {m : MethodId} {args : Array Value} {below : List Frame} {meth : Method} {c : Code} {A : Nat → Prop} {dC : Nat → ClassId} {dI : Nat → Nat → Nat} {cI cJ cZ : ClassId} {ad : Nat → Nat} {r : Int32 × St} {n : Nat} (C0 : cx p s m args meth c cX8_set 6 RX8 (some .int)) (hK : va_K (dC, dI) vwCl (kT cI cJ cZ) s) (hX : xT s) (hA : ∀ q : Nat, s.heap.size ≤ q → A q)  : ∀ (a : St × Int32 × Int32 × Int32 × Int32), fX8_set_64 n  a = some r → ∀ (H : Heap) (locs : List Loc) (ls : Array Slot), va_P (dC, dI) vwCl (vX8 cI cJ cZ ad a.1) H → va_D A (vX8 cI cJ cZ ad a.1) → va_S A s.heap H locs → lv_has ls 6 [(0, .ref (ad 0)), (1, .int a.2.1), (2, .int a.2.2.1), (3, .int a.2.2.2.1)] → W p l e ({ frames := 4, cells := 0, slots := 0, locals := 91 } : Room) s m args below meth c H locs 0 0 (MQ below (qI (dC, dI) (kT cI cJ cZ) (vX8 cI cJ cZ ad r.2) A r.1) args s 0 0 A) (F0 m 64 ls [.int a.2.2.2.2]) := by
  obtain ⟨hx, hb, hml, hown, hT, hr, hlocks⟩ := id C0
  intro a hd H locs ls hP hD hS hl
  unfold fX8_set_64 at hd
  refine lv_istore (lv' := [(4, .int a.2.2.2.2), (0, .ref (ad 0)), (1, .int a.2.1), (2, .int a.2.2.1), (3, .int a.2.2.2.1)]) hx hb dX8_set_64 hl (by decide) rfl (fun ls hl => ?_)
  refine lv_iload_n hx hb dX8_set_66 rfl (lv_at hl 2 rfl) ?_
  refine lv_if_lt (tgt := 87) hx hb dX8_set_67 (by decide) (fun c_9 => ?_) (fun c_9 => ?_)
  · replace hd := i_t hd c_9
    refine lv_iconst (v := (-1)) hx hb dX8_set_87 (by decide) ?_
    obtain rfl := Option.some.inj hd
    exact my_iret C0 hK hP hD hS dX8_set_88
  · replace hd := i_e hd c_9
    refine lv_iload_n hx hb dX8_set_70 rfl (lv_at hl 2 rfl) ?_
    refine lv_bipush (v := 7) hx hb dX8_set_71 (by decide) ?_
    refine lv_icmp_gt (tgt := 87) hx hb dX8_set_73 (by decide) (fun c_10 => ?_) (fun c_10 => ?_)
    · replace hd := i_t hd c_10
      refine lv_iconst (v := (-1)) hx hb dX8_set_87 (by decide) ?_
      obtain rfl := Option.some.inj hd
      exact my_iret C0 hK hP hD hS dX8_set_88
    · replace hd := i_e hd c_10
      refine lv_iload_n hx hb dX8_set_76 rfl (lv_at hl 3 rfl) ?_
      refine lv_iload_n hx hb dX8_set_77 rfl (lv_at hl 4 rfl) ?_
      refine lv_icmp_lt (tgt := 87) hx hb dX8_set_78 (by decide) (fun c_11 => ?_) (fun c_11 => ?_)
      · replace hd := i_t hd c_11
        refine lv_iconst (v := (-1)) hx hb dX8_set_87 (by decide) ?_
        obtain rfl := Option.some.inj hd
        exact my_iret C0 hK hP hD hS dX8_set_88
      · replace hd := i_e hd c_11
        refine lv_iload_n hx hb dX8_set_81 rfl (lv_at hl 3 rfl) ?_
        refine lv_iload hx hb dX8_set_82 (lv_at hl 0 rfl) ?_
        refine lv_icmp_le (tgt := 89) hx hb dX8_set_84 (by decide) (fun c_12 => ?_) (fun c_12 => ?_)
        · replace hd := i_t hd c_12
          refine lv_aload_n hx hb dX8_set_89 rfl (lv_at hl 1 rfl) ?_
          refine gX8_0_3 C0 hK hP wm_6_5 dX8_set_90 ?_
          refine lv_iload_n hx hb dX8_set_93 rfl (lv_at hl 2 rfl) ?_
          obtain ⟨g_13, hd⟩ := ix_some hd
          refine lX8_1 C0 hK hP rfl g_13 dX8_set_94 ?_
          refine lv_istore (lv' := [(5, .int ((a.1.2.1 0) a.2.1.toNatClampNeg)), (4, .int a.2.2.2.2), (0, .ref (ad 0)), (1, .int a.2.1), (2, .int a.2.2.1), (3, .int a.2.2.2.1)]) hx hb dX8_set_95 hl (by decide) rfl (fun ls hl => ?_)
          refine lv_aload_n hx hb dX8_set_97 rfl (lv_at hl 2 rfl) ?_
          refine gX8_0_3 C0 hK hP wm_6_5 dX8_set_98 ?_
          refine lv_iload_n hx hb dX8_set_101 rfl (lv_at hl 3 rfl) ?_
          refine lv_iload_n hx hb dX8_set_102 rfl (lv_at hl 4 rfl) ?_
          obtain ⟨g_14, hd⟩ := ix_some hd
          refine aX8_1 C0 hK hP hD hS rfl g_14 dX8_set_103 (fun H locs hP hD hS => ?_)
          refine lv_aload_n hx hb dX8_set_104 rfl (lv_at hl 2 rfl) ?_
          obtain ⟨u_15, hc_16, hd⟩ := bd hd
          refine cw_v (rest := []) C0 (mX8_goOn l dC dI cI cJ cZ ad n (sA a.1 0 (upd (a.1.2.1 0) a.2.1.toNatClampNeg a.2.2.1))  hc_16 _) gv_X8_149 yd_X8_goOn ⟨rfl, rfl, Nat.le_of_ble_eq_true rfl, Nat.le_of_ble_eq_true rfl, Nat.zero_le _, Nat.zero_le _⟩ xT_b xT_w hK hP hD hS hA hl.1 rfl (Nat.le_of_ble_eq_true rfl) dX8_set_105 8 0 rfl rfl (fun H locs hP hD hS => ?_)
          refine lv_iload hx hb dX8_set_108 (lv_at hl 0 rfl) ?_
          obtain rfl := Option.some.inj hd
          exact my_iret C0 hK hP hD hS dX8_set_110
        · replace hd := i_e hd c_12
          refine lv_iconst (v := (-1)) hx hb dX8_set_87 (by decide) ?_
          obtain rfl := Option.some.inj hd
          exact my_iret C0 hK hP hD hS dX8_set_88
def fX8_set_29 (n : Nat)  (a : St × Int32 × Int32 × Int32) : Option (Int32 × St) := fX8_set_64 n  (a.1, a.2.1, a.2.2.1, a.2.2.2, (100 : Int32))
set_option maxHeartbeats 4000000 in
set_option maxRecDepth 100000 in
theorem bX8_set_29 {p : Program} {l : Launch} {e : Env} {s : State} {m : MethodId} {args : Array Value} {below : List Frame} {meth : Method} {c : Code} {A : Nat → Prop} {dC : Nat → ClassId} {dI : Nat → Nat → Nat} {cI cJ cZ : ClassId} {ad : Nat → Nat} {r : Int32 × St} {n : Nat} (C0 : cx p s m args meth c cX8_set 6 RX8 (some .int)) (hK : va_K (dC, dI) vwCl (kT cI cJ cZ) s) (hX : xT s) (hA : ∀ q : Nat, s.heap.size ≤ q → A q)  : ∀ (a : St × Int32 × Int32 × Int32), fX8_set_29 n  a = some r → ∀ (H : Heap) (locs : List Loc) (ls : Array Slot), va_P (dC, dI) vwCl (vX8 cI cJ cZ ad a.1) H → va_D A (vX8 cI cJ cZ ad a.1) → va_S A s.heap H locs → lv_has ls 6 [(0, .ref (ad 0)), (1, .int a.2.1), (2, .int a.2.2.1), (3, .int a.2.2.2)] → W p l e ({ frames := 4, cells := 0, slots := 0, locals := 91 } : Room) s m args below meth c H locs 0 0 (MQ below (qI (dC, dI) (kT cI cJ cZ) (vX8 cI cJ cZ ad r.2) A r.1) args s 0 0 A) (F0 m 29 ls []) := by
  obtain ⟨hx, hb, hml, hown, hT, hr, hlocks⟩ := id C0
  intro a hd H locs ls hP hD hS hl
  unfold fX8_set_29 at hd
  refine lv_bipush (v := 100) hx hb dX8_set_29 (by decide) ?_
  refine lv_goto (tgt := 64) hx hb dX8_set_31 (by decide) ?_
  exact bX8_set_64 C0 hK hX hA  _ hd _ _ _ hP hD hS (lv_sub hl [0, 1, 2, 3] rfl)
def fX8_set_19 (n : Nat)  (a : St × Int32 × Int32 × Int32) : Option (Int32 × St) := if a.2.1 = 0 then (fX8_set_29 n  (a.1, a.2.1, a.2.2.1, a.2.2.2)) else (if a.2.1 = (3 : Int32) then (fX8_set_29 n  (a.1, a.2.1, a.2.2.1, a.2.2.2)) else (if a.2.1 = (1 : Int32) then (fX8_set_64 n  (a.1, a.2.1, a.2.2.1, a.2.2.2, (5 : Int32))) else (if a.2.1 = (2 : Int32) then (fX8_set_64 n  (a.1, a.2.1, a.2.2.1, a.2.2.2, (20 : Int32))) else (if a.2.1 = (7 : Int32) then (fX8_set_64 n  (a.1, a.2.1, a.2.2.1, a.2.2.2, (1 : Int32))) else (fX8_set_64 n  (a.1, a.2.1, a.2.2.1, a.2.2.2, (2 : Int32)))))))
set_option maxHeartbeats 4000000 in
set_option maxRecDepth 100000 in
theorem bX8_set_19 {p : Program} {l : Launch} {e : Env} {s : State} {m : MethodId} {args : Array Value} {below : List Frame} {meth : Method} {c : Code} {A : Nat → Prop} {dC : Nat → ClassId} {dI : Nat → Nat → Nat} {cI cJ cZ : ClassId} {ad : Nat → Nat} {r : Int32 × St} {n : Nat} (C0 : cx p s m args meth c cX8_set 6 RX8 (some .int)) (hK : va_K (dC, dI) vwCl (kT cI cJ cZ) s) (hX : xT s) (hA : ∀ q : Nat, s.heap.size ≤ q → A q)  : ∀ (a : St × Int32 × Int32 × Int32), fX8_set_19 n  a = some r → ∀ (H : Heap) (locs : List Loc) (ls : Array Slot), va_P (dC, dI) vwCl (vX8 cI cJ cZ ad a.1) H → va_D A (vX8 cI cJ cZ ad a.1) → va_S A s.heap H locs → lv_has ls 6 [(0, .ref (ad 0)), (1, .int a.2.1), (2, .int a.2.2.1)] → W p l e ({ frames := 4, cells := 0, slots := 0, locals := 91 } : Room) s m args below meth c H locs 0 0 (MQ below (qI (dC, dI) (kT cI cJ cZ) (vX8 cI cJ cZ ad r.2) A r.1) args s 0 0 A) (F0 m 19 ls [.int a.2.2.2]) := by
  obtain ⟨hx, hb, hml, hown, hT, hr, hlocks⟩ := id C0
  intro a hd H locs ls hP hD hS hl
  unfold fX8_set_19 at hd
  refine lv_istore_n (lv' := [(3, .int a.2.2.2), (0, .ref (ad 0)), (1, .int a.2.1), (2, .int a.2.2.1)]) hx hb dX8_set_19 rfl hl (by decide) rfl (fun ls hl => ?_)
  refine lv_iload_n hx hb dX8_set_20 rfl (lv_at hl 2 rfl) ?_
  refine lv_if_eq (tgt := 29) hx hb dX8_set_21 (by decide) (fun c_4 => ?_) (fun c_4 => ?_)
  · replace hd := i_t hd c_4
    exact bX8_set_29 C0 hK hX hA  _ hd _ _ _ hP hD hS (lv_sub hl [1, 2, 3, 0] rfl)
  · replace hd := i_e hd c_4
    refine lv_iload_n hx hb dX8_set_24 rfl (lv_at hl 2 rfl) ?_
    refine lv_iconst (v := 3) hx hb dX8_set_25 (by decide) ?_
    refine lv_icmp_ne (tgt := 34) hx hb dX8_set_26 (by decide) (fun c_5 => ?_) (fun c_5 => ?_)
    · replace hd := i_e hd c_5
      refine lv_iload_n hx hb dX8_set_34 rfl (lv_at hl 2 rfl) ?_
      refine lv_iconst (v := 1) hx hb dX8_set_35 (by decide) ?_
      refine lv_icmp_ne (tgt := 43) hx hb dX8_set_36 (by decide) (fun c_6 => ?_) (fun c_6 => ?_)
      · replace hd := i_e hd c_6
        refine lv_iload_n hx hb dX8_set_43 rfl (lv_at hl 2 rfl) ?_
        refine lv_iconst (v := 2) hx hb dX8_set_44 (by decide) ?_
        refine lv_icmp_ne (tgt := 53) hx hb dX8_set_45 (by decide) (fun c_7 => ?_) (fun c_7 => ?_)
        · replace hd := i_e hd c_7
          refine lv_iload_n hx hb dX8_set_53 rfl (lv_at hl 2 rfl) ?_
          refine lv_bipush (v := 7) hx hb dX8_set_54 (by decide) ?_
          refine lv_icmp_ne (tgt := 63) hx hb dX8_set_56 (by decide) (fun c_8 => ?_) (fun c_8 => ?_)
          · replace hd := i_e hd c_8
            refine lv_iconst (v := 2) hx hb dX8_set_63 (by decide) ?_
            exact bX8_set_64 C0 hK hX hA  _ hd _ _ _ hP hD hS (lv_sub hl [1, 2, 3, 0] rfl)
          · replace hd := i_t hd c_8
            refine lv_iconst (v := 1) hx hb dX8_set_59 (by decide) ?_
            refine lv_goto (tgt := 64) hx hb dX8_set_60 (by decide) ?_
            exact bX8_set_64 C0 hK hX hA  _ hd _ _ _ hP hD hS (lv_sub hl [1, 2, 3, 0] rfl)
        · replace hd := i_t hd c_7
          refine lv_bipush (v := 20) hx hb dX8_set_48 (by decide) ?_
          refine lv_goto (tgt := 64) hx hb dX8_set_50 (by decide) ?_
          exact bX8_set_64 C0 hK hX hA  _ hd _ _ _ hP hD hS (lv_sub hl [1, 2, 3, 0] rfl)
      · replace hd := i_t hd c_6
        refine lv_iconst (v := 5) hx hb dX8_set_39 (by decide) ?_
        refine lv_goto (tgt := 64) hx hb dX8_set_40 (by decide) ?_
        exact bX8_set_64 C0 hK hX hA  _ hd _ _ _ hP hD hS (lv_sub hl [1, 2, 3, 0] rfl)
    · replace hd := i_t hd c_5
      exact bX8_set_29 C0 hK hX hA  _ hd _ _ _ hP hD hS (lv_sub hl [1, 2, 3, 0] rfl)
def fX8_set_14 (n : Nat)  (a : St × Int32 × Int32) : Option (Int32 × St) := fX8_set_19 n  (a.1, a.2.1, a.2.2, (1 : Int32))
set_option maxHeartbeats 4000000 in
set_option maxRecDepth 100000 in
theorem bX8_set_14 {p : Program} {l : Launch} {e : Env} {s : State} {m : MethodId} {args : Array Value} {below : List Frame} {meth : Method} {c : Code} {A : Nat → Prop} {dC : Nat → ClassId} {dI : Nat → Nat → Nat} {cI cJ cZ : ClassId} {ad : Nat → Nat} {r : Int32 × St} {n : Nat} (C0 : cx p s m args meth c cX8_set 6 RX8 (some .int)) (hK : va_K (dC, dI) vwCl (kT cI cJ cZ) s) (hX : xT s) (hA : ∀ q : Nat, s.heap.size ≤ q → A q)  : ∀ (a : St × Int32 × Int32), fX8_set_14 n  a = some r → ∀ (H : Heap) (locs : List Loc) (ls : Array Slot), va_P (dC, dI) vwCl (vX8 cI cJ cZ ad a.1) H → va_D A (vX8 cI cJ cZ ad a.1) → va_S A s.heap H locs → lv_has ls 6 [(0, .ref (ad 0)), (1, .int a.2.1), (2, .int a.2.2)] → W p l e ({ frames := 4, cells := 0, slots := 0, locals := 91 } : Room) s m args below meth c H locs 0 0 (MQ below (qI (dC, dI) (kT cI cJ cZ) (vX8 cI cJ cZ ad r.2) A r.1) args s 0 0 A) (F0 m 14 ls []) := by
  obtain ⟨hx, hb, hml, hown, hT, hr, hlocks⟩ := id C0
  intro a hd H locs ls hP hD hS hl
  unfold fX8_set_14 at hd
  refine lv_iconst (v := 1) hx hb dX8_set_14 (by decide) ?_
  refine lv_goto (tgt := 19) hx hb dX8_set_15 (by decide) ?_
  exact bX8_set_19 C0 hK hX hA  _ hd _ _ _ hP hD hS (lv_sub hl [0, 1, 2] rfl)
def fX8_set (n : Nat) (σ : St) (p1 : Int32) (p2 : Int32) : Option (Int32 × St) := if p1 = 0 then (fX8_set_14 n  (σ, p1, p2)) else (if p1 = (1 : Int32) then (fX8_set_14 n  (σ, p1, p2)) else (if p1 = (2 : Int32) then (fX8_set_14 n  (σ, p1, p2)) else (fX8_set_19 n  (σ, p1, p2, (0 : Int32)))))
set_option maxHeartbeats 4000000 in
set_option maxRecDepth 100000 in
theorem mX8_set (l : Launch) (dC : Nat → ClassId) (dI : Nat → Nat → Nat) (cI cJ cZ : ClassId) (ad : Nat → Nat) (n : Nat) (σ : St) (p1 : Int32) (p2 : Int32) {r : Int32 × St} (hd : fX8_set n σ p1 p2 = some r) (sz : Nat)  : Met l yX8_set (wS yX8_set cX8_set 6 (some .int)) { frames := 4, cells := 0, slots := 0, locals := 91 } (pC (dC, dI) (kT cI cJ cZ) xT (vX8 cI cJ cZ ad σ) sz [.ref (ad 0), .int p1, .int p2]) (qI (dC, dI) (kT cI cJ cZ) (vX8 cI cJ cZ ad r.2) (va_A (vX8 cI cJ cZ ad σ) sz) r.1) 0 0 (va_A (vX8 cI cJ cZ ad σ) sz) := by
  refine my_ent (fun A => qI (dC, dI) (kT cI cJ cZ) (vX8 cI cJ cZ ad r.2) A r.1) (by decide) (Nat.le_of_ble_eq_true rfl) ?_
  intro p e s m below meth c A hAe hnm C0 hK hX hP hD hA hS ls hl
  obtain ⟨hx, hb, hml, hown, hT, hr, hlocks⟩ := id C0
  unfold fX8_set at hd
  have hl : lv_has ls 6 [(0, .ref (ad 0)), (1, .int p1), (2, .int p2)] := hl
  refine lv_iload_n hx hb dX8_set_0 rfl (lv_at hl 1 rfl) ?_
  refine lv_if_eq (tgt := 14) hx hb dX8_set_1 (by decide) (fun c_1 => ?_) (fun c_1 => ?_)
  · replace hd := i_t hd c_1
    exact bX8_set_14 C0 hK hX hA  _ hd _ _ _ hP hD hS (lv_sub hl [0, 1, 2] rfl)
  · replace hd := i_e hd c_1
    refine lv_iload_n hx hb dX8_set_4 rfl (lv_at hl 1 rfl) ?_
    refine lv_iconst (v := 1) hx hb dX8_set_5 (by decide) ?_
    refine lv_icmp_eq (tgt := 14) hx hb dX8_set_6 (by decide) (fun c_2 => ?_) (fun c_2 => ?_)
    · replace hd := i_t hd c_2
      exact bX8_set_14 C0 hK hX hA  _ hd _ _ _ hP hD hS (lv_sub hl [0, 1, 2] rfl)
    · replace hd := i_e hd c_2
      refine lv_iload_n hx hb dX8_set_9 rfl (lv_at hl 1 rfl) ?_
      refine lv_iconst (v := 2) hx hb dX8_set_10 (by decide) ?_
      refine lv_icmp_ne (tgt := 18) hx hb dX8_set_11 (by decide) (fun c_3 => ?_) (fun c_3 => ?_)
      · replace hd := i_e hd c_3
        refine lv_iconst (v := 0) hx hb dX8_set_18 (by decide) ?_
        exact bX8_set_19 C0 hK hX hA  _ hd _ _ _ hP hD hS (lv_sub hl [0, 1, 2] rfl)
      · replace hd := i_t hd c_3
        exact bX8_set_14 C0 hK hX hA  _ hd _ _ _ hP hD hS (lv_sub hl [0, 1, 2] rfl)
def fX8_come_75 (n : Nat)  (a : St × Int32 × Int32 × Int32) : Option (Int32 × St) := ix a.2.2.1 300 ((fX8_goOn n (sI (sA a.1 3 (upd (a.1.2.1 3) a.2.2.1.toNatClampNeg a.2.2.2)) 3 ((a.1.1 3) + (1 : Int32)))).bind (fun u_9 => some (a.2.1, u_9)))
set_option maxHeartbeats 4000000 in
set_option maxRecDepth 100000 in
theorem bX8_come_75 {p : Program} {l : Launch} {e : Env} {s : State} {m : MethodId} {args : Array Value} {below : List Frame} {meth : Method} {c : Code} {A : Nat → Prop} {dC : Nat → ClassId} {dI : Nat → Nat → Nat} {cI cJ cZ : ClassId} {ad : Nat → Nat} {r : Int32 × St} {n : Nat} (C0 : cx p s m args meth c cX8_come 7 RX8 (some .int)) (hK : va_K (dC, dI) vwCl (kT cI cJ cZ) s) (hX : xT s) (hA : ∀ q : Nat, s.heap.size ≤ q → A q)  : ∀ (a : St × Int32 × Int32 × Int32), fX8_come_75 n  a = some r → ∀ (H : Heap) (locs : List Loc) (ls : Array Slot), va_P (dC, dI) vwCl (vX8 cI cJ cZ ad a.1) H → va_D A (vX8 cI cJ cZ ad a.1) → va_S A s.heap H locs → lv_has ls 7 [(0, .ref (ad 0)), (6, .int a.2.1)] → W p l e ({ frames := 4, cells := 0, slots := 0, locals := 91 } : Room) s m args below meth c H locs 0 0 (MQ below (qI (dC, dI) (kT cI cJ cZ) (vX8 cI cJ cZ ad r.2) A r.1) args s 0 0 A) (F0 m 75 ls [.int a.2.2.2, .int a.2.2.1, .ref (ad 6)]) := by
  obtain ⟨hx, hb, hml, hown, hT, hr, hlocks⟩ := id C0
  intro a hd H locs ls hP hD hS hl
  unfold fX8_come_75 at hd
  obtain ⟨g_8, hd⟩ := ix_some hd
  refine aX8_6 C0 hK hP hD hS rfl g_8 dX8_come_75 (fun H locs hP hD hS => ?_)
  refine lv_aload_n hx hb dX8_come_76 rfl (lv_at hl 0 rfl) ?_
  refine lv_dup hx hb dX8_come_77 rfl ?_
  refine gX8_0_4 C0 hK hP wm_12_4 (sA_I) dX8_come_78 ?_
  refine lv_iconst (v := 1) hx hb dX8_come_81 (by decide) ?_
  refine lv_iadd hx hb dX8_come_82 ?_
  refine pX8_0_4 C0 hK hP hD hS wm_12_4 dX8_come_83 (fun H locs hP hD hS => ?_)
  refine lv_aload_n hx hb dX8_come_86 rfl (lv_at hl 0 rfl) ?_
  obtain ⟨u_9, hc_10, hd⟩ := bd hd
  refine cw_v (rest := []) C0 (mX8_goOn l dC dI cI cJ cZ ad n (sI (sA a.1 3 (upd (a.1.2.1 3) a.2.2.1.toNatClampNeg a.2.2.2)) 3 ((a.1.1 3) + (1 : Int32)))  hc_10 _) gv_X8_149 yd_X8_goOn ⟨rfl, rfl, Nat.le_of_ble_eq_true rfl, Nat.le_of_ble_eq_true rfl, Nat.zero_le _, Nat.zero_le _⟩ xT_b xT_w hK hP hD hS hA hl.1 rfl (Nat.le_of_ble_eq_true rfl) dX8_come_87 8 0 rfl rfl (fun H locs hP hD hS => ?_)
  refine lv_iload hx hb dX8_come_90 (lv_at hl 1 rfl) ?_
  obtain rfl := Option.some.inj hd
  exact my_iret C0 hK hP hD hS dX8_come_92
def fX8_come_59 (n : Nat)  (a : St × Int32 × Int32 × Int32 × Int32) : Option (Int32 × St) := ix a.2.2.2.1 300 (if a.2.1 = 0 then (fX8_come_75 n  (sA a.1 2 (upd (a.1.2.1 2) a.2.2.2.1.toNatClampNeg a.2.2.2.2), a.2.2.1, a.2.2.1, (-1 : Int32))) else (fX8_come_75 n  (sA a.1 2 (upd (a.1.2.1 2) a.2.2.2.1.toNatClampNeg a.2.2.2.2), a.2.2.1, a.2.2.1, (5 : Int32))))
set_option maxHeartbeats 4000000 in
set_option maxRecDepth 100000 in
theorem bX8_come_59 {p : Program} {l : Launch} {e : Env} {s : State} {m : MethodId} {args : Array Value} {below : List Frame} {meth : Method} {c : Code} {A : Nat → Prop} {dC : Nat → ClassId} {dI : Nat → Nat → Nat} {cI cJ cZ : ClassId} {ad : Nat → Nat} {r : Int32 × St} {n : Nat} (C0 : cx p s m args meth c cX8_come 7 RX8 (some .int)) (hK : va_K (dC, dI) vwCl (kT cI cJ cZ) s) (hX : xT s) (hA : ∀ q : Nat, s.heap.size ≤ q → A q)  : ∀ (a : St × Int32 × Int32 × Int32 × Int32), fX8_come_59 n  a = some r → ∀ (H : Heap) (locs : List Loc) (ls : Array Slot), va_P (dC, dI) vwCl (vX8 cI cJ cZ ad a.1) H → va_D A (vX8 cI cJ cZ ad a.1) → va_S A s.heap H locs → lv_has ls 7 [(0, .ref (ad 0)), (1, .int a.2.1), (6, .int a.2.2.1)] → W p l e ({ frames := 4, cells := 0, slots := 0, locals := 91 } : Room) s m args below meth c H locs 0 0 (MQ below (qI (dC, dI) (kT cI cJ cZ) (vX8 cI cJ cZ ad r.2) A r.1) args s 0 0 A) (F0 m 59 ls [.int a.2.2.2.2, .int a.2.2.2.1, .ref (ad 5)]) := by
  obtain ⟨hx, hb, hml, hown, hT, hr, hlocks⟩ := id C0
  intro a hd H locs ls hP hD hS hl
  unfold fX8_come_59 at hd
  obtain ⟨g_6, hd⟩ := ix_some hd
  refine aX8_5 C0 hK hP hD hS rfl g_6 dX8_come_59 (fun H locs hP hD hS => ?_)
  refine lv_aload_n hx hb dX8_come_60 rfl (lv_at hl 0 rfl) ?_
  refine gX8_0_9 C0 hK hP wm_6_10 dX8_come_61 ?_
  refine lv_iload hx hb dX8_come_64 (lv_at hl 2 rfl) ?_
  refine lv_iload_n hx hb dX8_come_66 rfl (lv_at hl 1 rfl) ?_
  refine lv_if_eq (tgt := 74) hx hb dX8_come_67 (by decide) (fun c_7 => ?_) (fun c_7 => ?_)
  · replace hd := i_t hd c_7
    refine lv_iconst (v := (-1)) hx hb dX8_come_74 (by decide) ?_
    exact bX8_come_75 C0 hK hX hA  _ hd _ _ _ hP hD hS (lv_sub hl [0, 2] rfl)
  · replace hd := i_e hd c_7
    refine lv_iconst (v := 5) hx hb dX8_come_70 (by decide) ?_
    refine lv_goto (tgt := 75) hx hb dX8_come_71 (by decide) ?_
    exact bX8_come_75 C0 hK hX hA  _ hd _ _ _ hP hD hS (lv_sub hl [0, 2] rfl)
def fX8_come (n : Nat) (σ : St) (p1 : Int32) (p2 : Int64) (p4 : Int64) : Option (Int32 × St) := if (σ.1 3) = (300 : Int32) then (some ((-4 : Int32), σ)) else (ix (σ.1 3) 300 (ix (σ.1 3) 300 (ix (σ.1 3) 300 (if p1 = 0 then (fX8_come_59 n  (sL (sL (sA σ 1 (upd (σ.2.1 1) (σ.1 3).toNatClampNeg (vp_nar .boolean p1))) 0 (vp_updL (σ.2.2 0) (σ.1 3).toNatClampNeg p2)) 1 (vp_updL (σ.2.2 1) (σ.1 3).toNatClampNeg p4), p1, σ.1 3, σ.1 3, (0 : Int32))) else (fX8_come_59 n  (sL (sL (sA σ 1 (upd (σ.2.1 1) (σ.1 3).toNatClampNeg (vp_nar .boolean p1))) 0 (vp_updL (σ.2.2 0) (σ.1 3).toNatClampNeg p2)) 1 (vp_updL (σ.2.2 1) (σ.1 3).toNatClampNeg p4), p1, σ.1 3, σ.1 3, (2 : Int32)))))))
set_option maxHeartbeats 4000000 in
set_option maxRecDepth 100000 in
theorem mX8_come (l : Launch) (dC : Nat → ClassId) (dI : Nat → Nat → Nat) (cI cJ cZ : ClassId) (ad : Nat → Nat) (n : Nat) (σ : St) (p1 : Int32) (p2 : Int64) (p4 : Int64) {r : Int32 × St} (hd : fX8_come n σ p1 p2 p4 = some r) (sz : Nat)  : Met l yX8_come (wS yX8_come cX8_come 7 (some .int)) { frames := 4, cells := 0, slots := 0, locals := 91 } (pC (dC, dI) (kT cI cJ cZ) xT (vX8 cI cJ cZ ad σ) sz [.ref (ad 0), .int p1, .long p2, .long p4]) (qI (dC, dI) (kT cI cJ cZ) (vX8 cI cJ cZ ad r.2) (va_A (vX8 cI cJ cZ ad σ) sz) r.1) 0 0 (va_A (vX8 cI cJ cZ ad σ) sz) := by
  refine my_ent (fun A => qI (dC, dI) (kT cI cJ cZ) (vX8 cI cJ cZ ad r.2) A r.1) (by decide) (Nat.le_of_ble_eq_true rfl) ?_
  intro p e s m below meth c A hAe hnm C0 hK hX hP hD hA hS ls hl
  obtain ⟨hx, hb, hml, hown, hT, hr, hlocks⟩ := id C0
  unfold fX8_come at hd
  have hl : lv_has ls 7 [(0, .ref (ad 0)), (1, .int p1), (2, .long p2), (4, .long p4)] := hl
  refine lv_aload_n hx hb dX8_come_0 rfl (lv_at hl 0 rfl) ?_
  refine gX8_0_4 C0 hK hP wm_12_4 rfl dX8_come_1 ?_
  refine lv_sipush (v := 300) hx hb dX8_come_4 (by decide) ?_
  refine lv_icmp_ne (tgt := 13) hx hb dX8_come_7 (by decide) (fun c_1 => ?_) (fun c_1 => ?_)
  · replace hd := i_e hd c_1
    refine lv_aload_n hx hb dX8_come_13 rfl (lv_at hl 0 rfl) ?_
    refine gX8_0_4 C0 hK hP wm_12_4 rfl dX8_come_14 ?_
    refine lv_istore (lv' := [(6, .int (σ.1 3)), (0, .ref (ad 0)), (1, .int p1), (2, .long p2), (4, .long p4)]) hx hb dX8_come_17 hl (by decide) rfl (fun ls hl => ?_)
    refine lv_aload_n hx hb dX8_come_19 rfl (lv_at hl 1 rfl) ?_
    refine gX8_0_5 C0 hK hP wm_6_6 dX8_come_20 ?_
    refine lv_iload hx hb dX8_come_23 (lv_at hl 0 rfl) ?_
    refine lv_iload_n hx hb dX8_come_25 rfl (lv_at hl 2 rfl) ?_
    obtain ⟨g_2, hd⟩ := ix_some hd
    refine aX8_2 C0 hK hP hD hS rfl g_2 dX8_come_26 (fun H locs hP hD hS => ?_)
    refine lv_aload_n hx hb dX8_come_27 rfl (lv_at hl 1 rfl) ?_
    refine gX8_0_6 C0 hK hP wm_6_7 dX8_come_28 ?_
    refine lv_iload hx hb dX8_come_31 (lv_at hl 0 rfl) ?_
    refine lv_lload_n hx hb dX8_come_33 rfl (lv_at hl 3 rfl) ?_
    obtain ⟨g_3, hd⟩ := ix_some hd
    refine aX8_3 C0 hK hP hD hS (sA_L) g_3 dX8_come_34 (fun H locs hP hD hS => ?_)
    refine lv_aload_n hx hb dX8_come_35 rfl (lv_at hl 1 rfl) ?_
    refine gX8_0_7 C0 hK hP wm_6_8 dX8_come_36 ?_
    refine lv_iload hx hb dX8_come_39 (lv_at hl 0 rfl) ?_
    refine lv_lload hx hb dX8_come_41 (lv_at hl 4 rfl) ?_
    obtain ⟨g_4, hd⟩ := ix_some hd
    refine aX8_4 C0 hK hP hD hS ((sL_n (by decide)).trans (sA_L)) g_4 dX8_come_43 (fun H locs hP hD hS => ?_)
    refine lv_aload_n hx hb dX8_come_44 rfl (lv_at hl 1 rfl) ?_
    refine gX8_0_8 C0 hK hP wm_6_9 dX8_come_45 ?_
    refine lv_iload hx hb dX8_come_48 (lv_at hl 0 rfl) ?_
    refine lv_iload_n hx hb dX8_come_50 rfl (lv_at hl 2 rfl) ?_
    refine lv_if_eq (tgt := 58) hx hb dX8_come_51 (by decide) (fun c_5 => ?_) (fun c_5 => ?_)
    · replace hd := i_t hd c_5
      refine lv_iconst (v := 0) hx hb dX8_come_58 (by decide) ?_
      exact bX8_come_59 C0 hK hX hA  _ hd _ _ _ hP hD hS (lv_sub hl [1, 2, 0] rfl)
    · replace hd := i_e hd c_5
      refine lv_iconst (v := 2) hx hb dX8_come_54 (by decide) ?_
      refine lv_goto (tgt := 59) hx hb dX8_come_55 (by decide) ?_
      exact bX8_come_59 C0 hK hX hA  _ hd _ _ _ hP hD hS (lv_sub hl [1, 2, 0] rfl)
  · replace hd := i_t hd c_1
    refine lv_bipush (v := (-4)) hx hb dX8_come_10 (by decide) ?_
    obtain rfl := Option.some.inj hd
    exact my_iret C0 hK hP hD hS dX8_come_12
def fX8_row (n : Nat) (σ : St) (p1 : Int64) (p3 : Int64) : Option (Int32 × St) := (fX8_come n σ (0 : Int32) p1 p3).bind (fun u_1 => some (u_1.1, u_1.2))
set_option maxHeartbeats 4000000 in
set_option maxRecDepth 100000 in
theorem mX8_row (l : Launch) (dC : Nat → ClassId) (dI : Nat → Nat → Nat) (cI cJ cZ : ClassId) (ad : Nat → Nat) (n : Nat) (σ : St) (p1 : Int64) (p3 : Int64) {r : Int32 × St} (hd : fX8_row n σ p1 p3 = some r) (sz : Nat)  : Met l yX8_row (wS yX8_row cX8_row 5 (some .int)) { frames := 5, cells := 0, slots := 0, locals := 117 } (pC (dC, dI) (kT cI cJ cZ) xT (vX8 cI cJ cZ ad σ) sz [.ref (ad 0), .long p1, .long p3]) (qI (dC, dI) (kT cI cJ cZ) (vX8 cI cJ cZ ad r.2) (va_A (vX8 cI cJ cZ ad σ) sz) r.1) 0 0 (va_A (vX8 cI cJ cZ ad σ) sz) := by
  refine my_ent (fun A => qI (dC, dI) (kT cI cJ cZ) (vX8 cI cJ cZ ad r.2) A r.1) (by decide) (Nat.le_of_ble_eq_true rfl) ?_
  intro p e s m below meth c A hAe hnm C0 hK hX hP hD hA hS ls hl
  obtain ⟨hx, hb, hml, hown, hT, hr, hlocks⟩ := id C0
  unfold fX8_row at hd
  have hl : lv_has ls 5 [(0, .ref (ad 0)), (1, .long p1), (3, .long p3)] := hl
  refine lv_aload_n hx hb dX8_row_0 rfl (lv_at hl 0 rfl) ?_
  refine lv_iconst (v := 0) hx hb dX8_row_1 (by decide) ?_
  refine lv_lload_n hx hb dX8_row_2 rfl (lv_at hl 1 rfl) ?_
  refine lv_lload_n hx hb dX8_row_3 rfl (lv_at hl 2 rfl) ?_
  obtain ⟨u_1, hc_2, hd⟩ := bd hd
  refine cw_i (rest := []) C0 (mX8_come l dC dI cI cJ cZ ad n σ (0 : Int32) p1 p3 hc_2 _) gv_X8_152 yd_X8_come ⟨rfl, rfl, Nat.le_of_ble_eq_true rfl, Nat.le_of_ble_eq_true rfl, Nat.zero_le _, Nat.zero_le _⟩ xT_b xT_w hK hP hD hS hA hl.1 rfl (Nat.le_of_ble_eq_true rfl) dX8_row_4 8 0 rfl rfl (fun H locs hP hD hS => ?_)
  obtain rfl := Option.some.inj hd
  exact my_iret C0 hK hP hD hS dX8_row_7
def fX8_mark (n : Nat) (σ : St)  : Option (Int32 × St) := (fX8_come n σ (1 : Int32) (0 : Int64) (0 : Int64)).bind (fun u_1 => some (u_1.1, u_1.2))
set_option maxHeartbeats 4000000 in
set_option maxRecDepth 100000 in
theorem mX8_mark (l : Launch) (dC : Nat → ClassId) (dI : Nat → Nat → Nat) (cI cJ cZ : ClassId) (ad : Nat → Nat) (n : Nat) (σ : St)  {r : Int32 × St} (hd : fX8_mark n σ  = some r) (sz : Nat)  : Met l yX8_mark (wS yX8_mark cX8_mark 1 (some .int)) { frames := 5, cells := 0, slots := 0, locals := 117 } (pC (dC, dI) (kT cI cJ cZ) xT (vX8 cI cJ cZ ad σ) sz [.ref (ad 0)]) (qI (dC, dI) (kT cI cJ cZ) (vX8 cI cJ cZ ad r.2) (va_A (vX8 cI cJ cZ ad σ) sz) r.1) 0 0 (va_A (vX8 cI cJ cZ ad σ) sz) := by
  refine my_ent (fun A => qI (dC, dI) (kT cI cJ cZ) (vX8 cI cJ cZ ad r.2) A r.1) (by decide) (Nat.le_of_ble_eq_true rfl) ?_
  intro p e s m below meth c A hAe hnm C0 hK hX hP hD hA hS ls hl
  obtain ⟨hx, hb, hml, hown, hT, hr, hlocks⟩ := id C0
  unfold fX8_mark at hd
  have hl : lv_has ls 1 [(0, .ref (ad 0))] := hl
  refine lv_aload_n hx hb dX8_mark_0 rfl (lv_at hl 0 rfl) ?_
  refine lv_iconst (v := 1) hx hb dX8_mark_1 (by decide) ?_
  refine lv_lconst (v := 0) hx hb dX8_mark_2 (by decide) ?_
  refine lv_lconst (v := 0) hx hb dX8_mark_3 (by decide) ?_
  obtain ⟨u_1, hc_2, hd⟩ := bd hd
  refine cw_i (rest := []) C0 (mX8_come l dC dI cI cJ cZ ad n σ (1 : Int32) (0 : Int64) (0 : Int64) hc_2 _) gv_X8_152 yd_X8_come ⟨rfl, rfl, Nat.le_of_ble_eq_true rfl, Nat.le_of_ble_eq_true rfl, Nat.zero_le _, Nat.zero_le _⟩ xT_b xT_w hK hP hD hS hA hl.1 rfl (Nat.le_of_ble_eq_true rfl) dX8_mark_4 8 0 rfl rfl (fun H locs hP hD hS => ?_)
  obtain rfl := Option.some.inj hd
  exact my_iret C0 hK hP hD hS dX8_mark_7
def fX8_tick_102 (n : Nat) (k26 : (St × Int32 × Int32) → Option (Int32 × St)) (k48 : (St × Int32 × Int32 × Int32) → Option (Int32 × St)) (a : St × Int32 × Int32 × Int32) : Option (Int32 × St) := k48 (a.1, a.2.1, a.2.2.1, a.2.2.2 + 1)
set_option maxHeartbeats 4000000 in
set_option maxRecDepth 100000 in
theorem bX8_tick_102 {p : Program} {l : Launch} {e : Env} {s : State} {m : MethodId} {args : Array Value} {below : List Frame} {meth : Method} {c : Code} {A : Nat → Prop} {dC : Nat → ClassId} {dI : Nat → Nat → Nat} {cI cJ cZ : ClassId} {ad : Nat → Nat} {r : Int32 × St} {n : Nat} (C0 : cx p s m args meth c cX8_tick 4 RX8 (some .int)) (hK : va_K (dC, dI) vwCl (kT cI cJ cZ) s) (hX : xT s) (hA : ∀ q : Nat, s.heap.size ≤ q → A q) (k26 : (St × Int32 × Int32) → Option (Int32 × St)) (ih26 : ∀ (a : St × Int32 × Int32), k26 a = some r → ∀ (H : Heap) (locs : List Loc) (ls : Array Slot), va_P (dC, dI) vwCl (vX8 cI cJ cZ ad a.1) H → va_D A (vX8 cI cJ cZ ad a.1) → va_S A s.heap H locs → lv_has ls 4 [(0, .ref (ad 0)), (1, .int a.2.1), (2, .int a.2.2)] → W p l e ({ frames := 4, cells := 0, slots := 0, locals := 91 } : Room) s m args below meth c H locs 0 0 (MQ below (qI (dC, dI) (kT cI cJ cZ) (vX8 cI cJ cZ ad r.2) A r.1) args s 0 0 A) (F0 m 26 ls [])) (k48 : (St × Int32 × Int32 × Int32) → Option (Int32 × St)) (ih48 : ∀ (a : St × Int32 × Int32 × Int32), k48 a = some r → ∀ (H : Heap) (locs : List Loc) (ls : Array Slot), va_P (dC, dI) vwCl (vX8 cI cJ cZ ad a.1) H → va_D A (vX8 cI cJ cZ ad a.1) → va_S A s.heap H locs → lv_has ls 4 [(0, .ref (ad 0)), (1, .int a.2.1), (2, .int a.2.2.1), (3, .int a.2.2.2)] → W p l e ({ frames := 4, cells := 0, slots := 0, locals := 91 } : Room) s m args below meth c H locs 0 0 (MQ below (qI (dC, dI) (kT cI cJ cZ) (vX8 cI cJ cZ ad r.2) A r.1) args s 0 0 A) (F0 m 48 ls [])) : ∀ (a : St × Int32 × Int32 × Int32), fX8_tick_102 n k26 k48 a = some r → ∀ (H : Heap) (locs : List Loc) (ls : Array Slot), va_P (dC, dI) vwCl (vX8 cI cJ cZ ad a.1) H → va_D A (vX8 cI cJ cZ ad a.1) → va_S A s.heap H locs → lv_has ls 4 [(0, .ref (ad 0)), (1, .int a.2.1), (2, .int a.2.2.1), (3, .int a.2.2.2)] → W p l e ({ frames := 4, cells := 0, slots := 0, locals := 91 } : Room) s m args below meth c H locs 0 0 (MQ below (qI (dC, dI) (kT cI cJ cZ) (vX8 cI cJ cZ ad r.2) A r.1) args s 0 0 A) (F0 m 102 ls []) := by
  obtain ⟨hx, hb, hml, hown, hT, hr, hlocks⟩ := id C0
  intro a hd H locs ls hP hD hS hl
  unfold fX8_tick_102 at hd
  refine lv_iinc (v := a.2.2.2 + 1) (lv' := [(3, .int (a.2.2.2 + 1)), (0, .ref (ad 0)), (1, .int a.2.1), (2, .int a.2.2.1)]) hx hb dX8_tick_102 hl (k := 3) rfl rfl (by decide) rfl (fun ls hl => ?_)
  refine lv_goto (tgt := 48) hx hb dX8_tick_105 (by decide) ?_
  exact ih48 _ hd _ _ _ hP hD hS (lv_sub hl [1, 2, 3, 0] rfl)
def fX8_tick_48 (n : Nat) (k26 : (St × Int32 × Int32) → Option (Int32 × St)) (k48 : (St × Int32 × Int32 × Int32) → Option (Int32 × St)) (a : St × Int32 × Int32 × Int32) : Option (Int32 × St) := if (a.1.1 3) ≤ a.2.2.2 then ((fX8_goOn n a.1).bind (fun u_6 => k26 (u_6, a.2.1, a.2.2.1 + 1))) else (ix a.2.2.2 300 (if ((a.1.2.1 2) a.2.2.2.toNatClampNeg) = (1 : Int32) then ((fX8_placeInQueue n a.1 a.2.2.2).bind (fun u_10 => if 0 ≤ u_10 then (fX8_tick_102 n k26 k48 (a.1, a.2.1, a.2.2.1, a.2.2.2)) else (ix a.2.2.2 300 (if (a.1.1 2) < ((a.1.2.1 5) a.2.2.2.toNatClampNeg) then (fX8_tick_102 n k26 k48 (a.1, a.2.1, a.2.2.1, a.2.2.2)) else ((fX8_again a.1 a.2.2.2).bind (fun u_15 => if u_15.1 = 0 then ((fX8_settle n u_15.2 a.2.2.2 (3 : Int32) (0 : Int64)).bind (fun u_18 => fX8_tick_102 n k26 k48 (u_18, a.2.1, a.2.2.1, a.2.2.2))) else (fX8_tick_102 n k26 k48 (u_15.2, a.2.1, a.2.2.1, a.2.2.2)))))))) else (fX8_tick_102 n k26 k48 (a.1, a.2.1, a.2.2.1, a.2.2.2))))
set_option maxHeartbeats 4000000 in
set_option maxRecDepth 100000 in
theorem bX8_tick_48 {p : Program} {l : Launch} {e : Env} {s : State} {m : MethodId} {args : Array Value} {below : List Frame} {meth : Method} {c : Code} {A : Nat → Prop} {dC : Nat → ClassId} {dI : Nat → Nat → Nat} {cI cJ cZ : ClassId} {ad : Nat → Nat} {r : Int32 × St} {n : Nat} (C0 : cx p s m args meth c cX8_tick 4 RX8 (some .int)) (hK : va_K (dC, dI) vwCl (kT cI cJ cZ) s) (hX : xT s) (hA : ∀ q : Nat, s.heap.size ≤ q → A q) (k26 : (St × Int32 × Int32) → Option (Int32 × St)) (ih26 : ∀ (a : St × Int32 × Int32), k26 a = some r → ∀ (H : Heap) (locs : List Loc) (ls : Array Slot), va_P (dC, dI) vwCl (vX8 cI cJ cZ ad a.1) H → va_D A (vX8 cI cJ cZ ad a.1) → va_S A s.heap H locs → lv_has ls 4 [(0, .ref (ad 0)), (1, .int a.2.1), (2, .int a.2.2)] → W p l e ({ frames := 4, cells := 0, slots := 0, locals := 91 } : Room) s m args below meth c H locs 0 0 (MQ below (qI (dC, dI) (kT cI cJ cZ) (vX8 cI cJ cZ ad r.2) A r.1) args s 0 0 A) (F0 m 26 ls [])) (k48 : (St × Int32 × Int32 × Int32) → Option (Int32 × St)) (ih48 : ∀ (a : St × Int32 × Int32 × Int32), k48 a = some r → ∀ (H : Heap) (locs : List Loc) (ls : Array Slot), va_P (dC, dI) vwCl (vX8 cI cJ cZ ad a.1) H → va_D A (vX8 cI cJ cZ ad a.1) → va_S A s.heap H locs → lv_has ls 4 [(0, .ref (ad 0)), (1, .int a.2.1), (2, .int a.2.2.1), (3, .int a.2.2.2)] → W p l e ({ frames := 4, cells := 0, slots := 0, locals := 91 } : Room) s m args below meth c H locs 0 0 (MQ below (qI (dC, dI) (kT cI cJ cZ) (vX8 cI cJ cZ ad r.2) A r.1) args s 0 0 A) (F0 m 48 ls [])) : ∀ (a : St × Int32 × Int32 × Int32), fX8_tick_48 n k26 k48 a = some r → ∀ (H : Heap) (locs : List Loc) (ls : Array Slot), va_P (dC, dI) vwCl (vX8 cI cJ cZ ad a.1) H → va_D A (vX8 cI cJ cZ ad a.1) → va_S A s.heap H locs → lv_has ls 4 [(0, .ref (ad 0)), (1, .int a.2.1), (2, .int a.2.2.1), (3, .int a.2.2.2)] → W p l e ({ frames := 4, cells := 0, slots := 0, locals := 91 } : Room) s m args below meth c H locs 0 0 (MQ below (qI (dC, dI) (kT cI cJ cZ) (vX8 cI cJ cZ ad r.2) A r.1) args s 0 0 A) (F0 m 48 ls []) := by
  obtain ⟨hx, hb, hml, hown, hT, hr, hlocks⟩ := id C0
  intro a hd H locs ls hP hD hS hl
  unfold fX8_tick_48 at hd
  refine lv_iload_n hx hb dX8_tick_48 rfl (lv_at hl 3 rfl) ?_
  refine lv_aload_n hx hb dX8_tick_49 rfl (lv_at hl 0 rfl) ?_
  refine gX8_0_4 C0 hK hP wm_12_4 rfl dX8_tick_50 ?_
  refine lv_icmp_ge (tgt := 108) hx hb dX8_tick_53 (by decide) (fun c_5 => ?_) (fun c_5 => ?_)
  · replace hd := i_t hd c_5
    refine lv_aload_n hx hb dX8_tick_108 rfl (lv_at hl 0 rfl) ?_
    obtain ⟨u_6, hc_7, hd⟩ := bd hd
    refine cw_v (rest := []) C0 (mX8_goOn l dC dI cI cJ cZ ad n a.1  hc_7 _) gv_X8_149 yd_X8_goOn ⟨rfl, rfl, Nat.le_of_ble_eq_true rfl, Nat.le_of_ble_eq_true rfl, Nat.zero_le _, Nat.zero_le _⟩ xT_b xT_w hK hP hD hS hA hl.1 rfl (Nat.le_of_ble_eq_true rfl) dX8_tick_109 8 0 rfl rfl (fun H locs hP hD hS => ?_)
    refine lv_iinc (v := a.2.2.1 + 1) (lv' := [(2, .int (a.2.2.1 + 1)), (0, .ref (ad 0)), (1, .int a.2.1), (3, .int a.2.2.2)]) hx hb dX8_tick_112 hl (k := 2) rfl rfl (by decide) rfl (fun ls hl => ?_)
    refine lv_goto (tgt := 26) hx hb dX8_tick_115 (by decide) ?_
    exact ih26 _ hd _ _ _ hP hD hS (lv_sub hl [1, 2, 0] rfl)
  · replace hd := i_e hd c_5
    refine lv_aload_n hx hb dX8_tick_56 rfl (lv_at hl 0 rfl) ?_
    refine gX8_0_8 C0 hK hP wm_6_9 dX8_tick_57 ?_
    refine lv_iload_n hx hb dX8_tick_60 rfl (lv_at hl 3 rfl) ?_
    obtain ⟨g_8, hd⟩ := ix_some hd
    refine lX8_5 C0 hK hP rfl g_8 dX8_tick_61 ?_
    refine lv_iconst (v := 1) hx hb dX8_tick_62 (by decide) ?_
    refine lv_icmp_ne (tgt := 102) hx hb dX8_tick_63 (by decide) (fun c_9 => ?_) (fun c_9 => ?_)
    · replace hd := i_e hd c_9
      exact bX8_tick_102 C0 hK hX hA k26 ih26 k48 ih48 _ hd _ _ _ hP hD hS (lv_sub hl [0, 1, 2, 3] rfl)
    · replace hd := i_t hd c_9
      refine lv_aload_n hx hb dX8_tick_66 rfl (lv_at hl 0 rfl) ?_
      refine lv_iload_n hx hb dX8_tick_67 rfl (lv_at hl 3 rfl) ?_
      obtain ⟨u_10, hc_11, hd⟩ := bd hd
      refine cw_i (rest := []) C0 (mX8_placeInQueue l dC dI cI cJ cZ ad n a.1 a.2.2.2 hc_11 _) gv_X8_111 yd_X8_placeInQueue ⟨rfl, rfl, Nat.le_of_ble_eq_true rfl, Nat.le_of_ble_eq_true rfl, Nat.zero_le _, Nat.zero_le _⟩ xT_b xT_w hK hP hD hS hA hl.1 rfl (Nat.le_of_ble_eq_true rfl) dX8_tick_68 8 0 rfl rfl (fun H locs hP hD hS => ?_)
      refine lv_if_ge (tgt := 102) hx hb dX8_tick_71 (by decide) (fun c_12 => ?_) (fun c_12 => ?_)
      · replace hd := i_t hd c_12
        exact bX8_tick_102 C0 hK hX hA k26 ih26 k48 ih48 _ hd _ _ _ hP hD hS (lv_sub hl [0, 1, 2, 3] rfl)
      · replace hd := i_e hd c_12
        refine lv_aload_n hx hb dX8_tick_74 rfl (lv_at hl 0 rfl) ?_
        refine gX8_0_12 C0 hK hP wm_6_13 dX8_tick_75 ?_
        refine lv_iload_n hx hb dX8_tick_78 rfl (lv_at hl 3 rfl) ?_
        obtain ⟨g_13, hd⟩ := ix_some hd
        refine lX8_9 C0 hK hP rfl g_13 dX8_tick_79 ?_
        refine lv_aload_n hx hb dX8_tick_80 rfl (lv_at hl 0 rfl) ?_
        refine gX8_0_2 C0 hK hP wm_11_19 rfl dX8_tick_81 ?_
        refine lv_icmp_gt (tgt := 102) hx hb dX8_tick_84 (by decide) (fun c_14 => ?_) (fun c_14 => ?_)
        · replace hd := i_t hd c_14
          exact bX8_tick_102 C0 hK hX hA k26 ih26 k48 ih48 _ hd _ _ _ hP hD hS (lv_sub hl [0, 1, 2, 3] rfl)
        · replace hd := i_e hd c_14
          refine lv_aload_n hx hb dX8_tick_87 rfl (lv_at hl 0 rfl) ?_
          refine lv_iload_n hx hb dX8_tick_88 rfl (lv_at hl 3 rfl) ?_
          obtain ⟨u_15, hc_16, hd⟩ := bd hd
          refine cw_i (rest := []) C0 (mX8_again l dC dI cI cJ cZ ad a.1 a.2.2.2 hc_16 _) gv_X8_157 yd_X8_again ⟨rfl, rfl, Nat.le_of_ble_eq_true rfl, Nat.le_of_ble_eq_true rfl, Nat.zero_le _, Nat.zero_le _⟩ xT_b xT_w hK hP hD hS hA hl.1 rfl (Nat.le_of_ble_eq_true rfl) dX8_tick_89 8 0 rfl rfl (fun H locs hP hD hS => ?_)
          refine lv_if_ne (tgt := 102) hx hb dX8_tick_92 (by decide) (fun c_17 => ?_) (fun c_17 => ?_)
          · replace hd := i_e hd c_17
            exact bX8_tick_102 C0 hK hX hA k26 ih26 k48 ih48 _ hd _ _ _ hP hD hS (lv_sub hl [0, 1, 2, 3] rfl)
          · replace hd := i_t hd c_17
            refine lv_aload_n hx hb dX8_tick_95 rfl (lv_at hl 0 rfl) ?_
            refine lv_iload_n hx hb dX8_tick_96 rfl (lv_at hl 3 rfl) ?_
            refine lv_iconst (v := 3) hx hb dX8_tick_97 (by decide) ?_
            refine lv_lconst (v := 0) hx hb dX8_tick_98 (by decide) ?_
            obtain ⟨u_18, hc_19, hd⟩ := bd hd
            refine cw_v (rest := []) C0 (mX8_settle l dC dI cI cJ cZ ad n u_15.2 a.2.2.2 (3 : Int32) (0 : Int64) hc_19 _) gv_X8_128 yd_X8_settle ⟨rfl, rfl, Nat.le_of_ble_eq_true rfl, Nat.le_of_ble_eq_true rfl, Nat.zero_le _, Nat.zero_le _⟩ xT_b xT_w hK hP hD hS hA hl.1 rfl (Nat.le_of_ble_eq_true rfl) dX8_tick_99 8 0 rfl rfl (fun H locs hP hD hS => ?_)
            exact bX8_tick_102 C0 hK hX hA k26 ih26 k48 ih48 _ hd _ _ _ hP hD hS (lv_sub hl [0, 1, 2, 3] rfl)
set_option maxHeartbeats 4000000 in
set_option maxRecDepth 100000 in
theorem oX8_tick_48 {p : Program} {l : Launch} {e : Env} {s : State} {m : MethodId} {args : Array Value} {below : List Frame} {meth : Method} {c : Code} {A : Nat → Prop} {dC : Nat → ClassId} {dI : Nat → Nat → Nat} {cI cJ cZ : ClassId} {ad : Nat → Nat} {r : Int32 × St} {n : Nat} (C0 : cx p s m args meth c cX8_tick 4 RX8 (some .int)) (hK : va_K (dC, dI) vwCl (kT cI cJ cZ) s) (hX : xT s) (hA : ∀ q : Nat, s.heap.size ≤ q → A q) (k26 : (St × Int32 × Int32) → Option (Int32 × St)) (ih26 : ∀ (a : St × Int32 × Int32), k26 a = some r → ∀ (H : Heap) (locs : List Loc) (ls : Array Slot), va_P (dC, dI) vwCl (vX8 cI cJ cZ ad a.1) H → va_D A (vX8 cI cJ cZ ad a.1) → va_S A s.heap H locs → lv_has ls 4 [(0, .ref (ad 0)), (1, .int a.2.1), (2, .int a.2.2)] → W p l e ({ frames := 4, cells := 0, slots := 0, locals := 91 } : Room) s m args below meth c H locs 0 0 (MQ below (qI (dC, dI) (kT cI cJ cZ) (vX8 cI cJ cZ ad r.2) A r.1) args s 0 0 A) (F0 m 26 ls [])) : ∀ nn : Nat, ∀ (a : St × Int32 × Int32 × Int32), loopF (fX8_tick_48 n k26) nn a = some r → ∀ (H : Heap) (locs : List Loc) (ls : Array Slot), va_P (dC, dI) vwCl (vX8 cI cJ cZ ad a.1) H → va_D A (vX8 cI cJ cZ ad a.1) → va_S A s.heap H locs → lv_has ls 4 [(0, .ref (ad 0)), (1, .int a.2.1), (2, .int a.2.2.1), (3, .int a.2.2.2)] → W p l e ({ frames := 4, cells := 0, slots := 0, locals := 91 } : Room) s m args below meth c H locs 0 0 (MQ below (qI (dC, dI) (kT cI cJ cZ) (vX8 cI cJ cZ ad r.2) A r.1) args s 0 0 A) (F0 m 48 ls []) := by
  intro nn
  induction nn with
  | zero => intro a hd; cases hd
  | succ nn ih => intro a hd; exact bX8_tick_48 C0 hK hX hA k26 ih26 _ ih a hd
def fX8_tick_26 (n : Nat) (k26 : (St × Int32 × Int32) → Option (Int32 × St)) (a : St × Int32 × Int32) : Option (Int32 × St) := if a.2.1 ≤ a.2.2 then (some (a.1.1 2, a.1)) else (loopF (fX8_tick_48 n k26) n (sI (sI a.1 2 ((a.1.1 2) + (1 : Int32))) 5 (0 : Int32), a.2.1, a.2.2, (0 : Int32)))
set_option maxHeartbeats 4000000 in
set_option maxRecDepth 100000 in
theorem bX8_tick_26 {p : Program} {l : Launch} {e : Env} {s : State} {m : MethodId} {args : Array Value} {below : List Frame} {meth : Method} {c : Code} {A : Nat → Prop} {dC : Nat → ClassId} {dI : Nat → Nat → Nat} {cI cJ cZ : ClassId} {ad : Nat → Nat} {r : Int32 × St} {n : Nat} (C0 : cx p s m args meth c cX8_tick 4 RX8 (some .int)) (hK : va_K (dC, dI) vwCl (kT cI cJ cZ) s) (hX : xT s) (hA : ∀ q : Nat, s.heap.size ≤ q → A q) (k26 : (St × Int32 × Int32) → Option (Int32 × St)) (ih26 : ∀ (a : St × Int32 × Int32), k26 a = some r → ∀ (H : Heap) (locs : List Loc) (ls : Array Slot), va_P (dC, dI) vwCl (vX8 cI cJ cZ ad a.1) H → va_D A (vX8 cI cJ cZ ad a.1) → va_S A s.heap H locs → lv_has ls 4 [(0, .ref (ad 0)), (1, .int a.2.1), (2, .int a.2.2)] → W p l e ({ frames := 4, cells := 0, slots := 0, locals := 91 } : Room) s m args below meth c H locs 0 0 (MQ below (qI (dC, dI) (kT cI cJ cZ) (vX8 cI cJ cZ ad r.2) A r.1) args s 0 0 A) (F0 m 26 ls [])) : ∀ (a : St × Int32 × Int32), fX8_tick_26 n k26 a = some r → ∀ (H : Heap) (locs : List Loc) (ls : Array Slot), va_P (dC, dI) vwCl (vX8 cI cJ cZ ad a.1) H → va_D A (vX8 cI cJ cZ ad a.1) → va_S A s.heap H locs → lv_has ls 4 [(0, .ref (ad 0)), (1, .int a.2.1), (2, .int a.2.2)] → W p l e ({ frames := 4, cells := 0, slots := 0, locals := 91 } : Room) s m args below meth c H locs 0 0 (MQ below (qI (dC, dI) (kT cI cJ cZ) (vX8 cI cJ cZ ad r.2) A r.1) args s 0 0 A) (F0 m 26 ls []) := by
  obtain ⟨hx, hb, hml, hown, hT, hr, hlocks⟩ := id C0
  intro a hd H locs ls hP hD hS hl
  unfold fX8_tick_26 at hd
  refine lv_iload_n hx hb dX8_tick_26 rfl (lv_at hl 2 rfl) ?_
  refine lv_iload_n hx hb dX8_tick_27 rfl (lv_at hl 1 rfl) ?_
  refine lv_icmp_ge (tgt := 118) hx hb dX8_tick_28 (by decide) (fun c_4 => ?_) (fun c_4 => ?_)
  · replace hd := i_t hd c_4
    refine lv_aload_n hx hb dX8_tick_118 rfl (lv_at hl 0 rfl) ?_
    refine gX8_0_2 C0 hK hP wm_11_19 rfl dX8_tick_119 ?_
    obtain rfl := Option.some.inj hd
    exact my_iret C0 hK hP hD hS dX8_tick_122
  · replace hd := i_e hd c_4
    refine lv_aload_n hx hb dX8_tick_31 rfl (lv_at hl 0 rfl) ?_
    refine lv_dup hx hb dX8_tick_32 rfl ?_
    refine gX8_0_2 C0 hK hP wm_11_19 rfl dX8_tick_33 ?_
    refine lv_iconst (v := 1) hx hb dX8_tick_36 (by decide) ?_
    refine lv_iadd hx hb dX8_tick_37 ?_
    refine pX8_0_2 C0 hK hP hD hS wm_11_19 dX8_tick_38 (fun H locs hP hD hS => ?_)
    refine lv_aload_n hx hb dX8_tick_41 rfl (lv_at hl 0 rfl) ?_
    refine lv_iconst (v := 0) hx hb dX8_tick_42 (by decide) ?_
    refine pX8_0_15 C0 hK hP hD hS wm_11_21 dX8_tick_43 (fun H locs hP hD hS => ?_)
    refine lv_iconst (v := 0) hx hb dX8_tick_46 (by decide) ?_
    refine lv_istore_n (lv' := [(3, .int (0 : Int32)), (0, .ref (ad 0)), (1, .int a.2.1), (2, .int a.2.2)]) hx hb dX8_tick_47 rfl hl (by decide) rfl (fun ls hl => ?_)
    exact oX8_tick_48 C0 hK hX hA k26 ih26 _ _ hd _ _ _ hP hD hS (lv_sub hl [1, 2, 3, 0] rfl)
set_option maxHeartbeats 4000000 in
set_option maxRecDepth 100000 in
theorem oX8_tick_26 {p : Program} {l : Launch} {e : Env} {s : State} {m : MethodId} {args : Array Value} {below : List Frame} {meth : Method} {c : Code} {A : Nat → Prop} {dC : Nat → ClassId} {dI : Nat → Nat → Nat} {cI cJ cZ : ClassId} {ad : Nat → Nat} {r : Int32 × St} {n : Nat} (C0 : cx p s m args meth c cX8_tick 4 RX8 (some .int)) (hK : va_K (dC, dI) vwCl (kT cI cJ cZ) s) (hX : xT s) (hA : ∀ q : Nat, s.heap.size ≤ q → A q)  : ∀ nn : Nat, ∀ (a : St × Int32 × Int32), loopF (fX8_tick_26 n ) nn a = some r → ∀ (H : Heap) (locs : List Loc) (ls : Array Slot), va_P (dC, dI) vwCl (vX8 cI cJ cZ ad a.1) H → va_D A (vX8 cI cJ cZ ad a.1) → va_S A s.heap H locs → lv_has ls 4 [(0, .ref (ad 0)), (1, .int a.2.1), (2, .int a.2.2)] → W p l e ({ frames := 4, cells := 0, slots := 0, locals := 91 } : Room) s m args below meth c H locs 0 0 (MQ below (qI (dC, dI) (kT cI cJ cZ) (vX8 cI cJ cZ ad r.2) A r.1) args s 0 0 A) (F0 m 26 ls []) := by
  intro nn
  induction nn with
  | zero => intro a hd; cases hd
  | succ nn ih => intro a hd; exact bX8_tick_26 C0 hK hX hA  _ ih a hd
def fX8_tick (n : Nat) (σ : St) (p1 : Int32) : Option (Int32 × St) := if p1 < 0 then (some ((-1 : Int32), σ)) else (if (1000 : Int32) < p1 then (some ((-1 : Int32), σ)) else (if ((σ.1 2) + p1) ≤ (1000000 : Int32) then (loopF (fX8_tick_26 n ) n (σ, p1, (0 : Int32))) else (some ((-1 : Int32), σ))))
set_option maxHeartbeats 4000000 in
set_option maxRecDepth 100000 in
theorem mX8_tick (l : Launch) (dC : Nat → ClassId) (dI : Nat → Nat → Nat) (cI cJ cZ : ClassId) (ad : Nat → Nat) (n : Nat) (σ : St) (p1 : Int32) {r : Int32 × St} (hd : fX8_tick n σ p1 = some r) (sz : Nat)  : Met l yX8_tick (wS yX8_tick cX8_tick 4 (some .int)) { frames := 4, cells := 0, slots := 0, locals := 91 } (pC (dC, dI) (kT cI cJ cZ) xT (vX8 cI cJ cZ ad σ) sz [.ref (ad 0), .int p1]) (qI (dC, dI) (kT cI cJ cZ) (vX8 cI cJ cZ ad r.2) (va_A (vX8 cI cJ cZ ad σ) sz) r.1) 0 0 (va_A (vX8 cI cJ cZ ad σ) sz) := by
  refine my_ent (fun A => qI (dC, dI) (kT cI cJ cZ) (vX8 cI cJ cZ ad r.2) A r.1) (by decide) (Nat.le_of_ble_eq_true rfl) ?_
  intro p e s m below meth c A hAe hnm C0 hK hX hP hD hA hS ls hl
  obtain ⟨hx, hb, hml, hown, hT, hr, hlocks⟩ := id C0
  unfold fX8_tick at hd
  have hl : lv_has ls 4 [(0, .ref (ad 0)), (1, .int p1)] := hl
  refine lv_iload_n hx hb dX8_tick_0 rfl (lv_at hl 1 rfl) ?_
  refine lv_if_lt (tgt := 22) hx hb dX8_tick_1 (by decide) (fun c_1 => ?_) (fun c_1 => ?_)
  · replace hd := i_t hd c_1
    refine lv_iconst (v := (-1)) hx hb dX8_tick_22 (by decide) ?_
    obtain rfl := Option.some.inj hd
    exact my_iret C0 hK hP hD hS dX8_tick_23
  · replace hd := i_e hd c_1
    refine lv_iload_n hx hb dX8_tick_4 rfl (lv_at hl 1 rfl) ?_
    refine lv_sipush (v := 1000) hx hb dX8_tick_5 (by decide) ?_
    refine lv_icmp_gt (tgt := 22) hx hb dX8_tick_8 (by decide) (fun c_2 => ?_) (fun c_2 => ?_)
    · replace hd := i_t hd c_2
      refine lv_iconst (v := (-1)) hx hb dX8_tick_22 (by decide) ?_
      obtain rfl := Option.some.inj hd
      exact my_iret C0 hK hP hD hS dX8_tick_23
    · replace hd := i_e hd c_2
      refine lv_aload_n hx hb dX8_tick_11 rfl (lv_at hl 0 rfl) ?_
      refine gX8_0_2 C0 hK hP wm_11_19 rfl dX8_tick_12 ?_
      refine lv_iload_n hx hb dX8_tick_15 rfl (lv_at hl 1 rfl) ?_
      refine lv_iadd hx hb dX8_tick_16 ?_
      refine lv_ldc (v := 1000000) hx hb hown (hT _ wm_16_19) dX8_tick_17 ?_
      refine lv_icmp_le (tgt := 24) hx hb dX8_tick_19 (by decide) (fun c_3 => ?_) (fun c_3 => ?_)
      · replace hd := i_t hd c_3
        refine lv_iconst (v := 0) hx hb dX8_tick_24 (by decide) ?_
        refine lv_istore_n (lv' := [(2, .int (0 : Int32)), (0, .ref (ad 0)), (1, .int p1)]) hx hb dX8_tick_25 rfl hl (by decide) rfl (fun ls hl => ?_)
        exact oX8_tick_26 C0 hK hX hA  _ _ hd _ _ _ hP hD hS (lv_sub hl [1, 2, 0] rfl)
      · replace hd := i_e hd c_3
        refine lv_iconst (v := (-1)) hx hb dX8_tick_22 (by decide) ?_
        obtain rfl := Option.some.inj hd
        exact my_iret C0 hK hP hD hS dX8_tick_23
def fX8_isUnder (σ : St) (p1 : Int32) (p2 : Int32) : Option (Int32) := if p1 < 0 then (some (0 : Int32)) else (if (2 : Int32) ≤ p1 then (some (0 : Int32)) else (if p2 < 0 then (some (0 : Int32)) else (ix p1 2 (if ((σ.2.1 11) p1.toNatClampNeg) ≤ p2 then (some (0 : Int32)) else (some (1 : Int32))))))
set_option maxHeartbeats 4000000 in
set_option maxRecDepth 100000 in
theorem mX8_isUnder (l : Launch) (dC : Nat → ClassId) (dI : Nat → Nat → Nat) (cI cJ cZ : ClassId) (ad : Nat → Nat) (σ : St) (p1 : Int32) (p2 : Int32) {r : Int32} (hd : fX8_isUnder σ p1 p2 = some r) (sz : Nat)  : Met l yX8_isUnder (wS yX8_isUnder cX8_isUnder 3 (some .boolean)) { frames := 0, cells := 0, slots := 0, locals := 0 } (pC (dC, dI) (kT cI cJ cZ) xT (vX8 cI cJ cZ ad σ) sz [.ref (ad 0), .int p1, .int p2]) (qI (dC, dI) (kT cI cJ cZ) (vX8 cI cJ cZ ad σ) (va_A (vX8 cI cJ cZ ad σ) sz) r) 0 0 (va_A (vX8 cI cJ cZ ad σ) sz) := by
  refine my_ent (fun A => qI (dC, dI) (kT cI cJ cZ) (vX8 cI cJ cZ ad σ) A r) (by decide) (Nat.le_of_ble_eq_true rfl) ?_
  intro p e s m below meth c A hAe hnm C0 hK hX hP hD hA hS ls hl
  obtain ⟨hx, hb, hml, hown, hT, hr, hlocks⟩ := id C0
  unfold fX8_isUnder at hd
  have hl : lv_has ls 3 [(0, .ref (ad 0)), (1, .int p1), (2, .int p2)] := hl
  refine lv_iload_n hx hb dX8_isUnder_0 rfl (lv_at hl 1 rfl) ?_
  refine lv_if_lt (tgt := 27) hx hb dX8_isUnder_1 (by decide) (fun c_1 => ?_) (fun c_1 => ?_)
  · replace hd := i_t hd c_1
    refine lv_iconst (v := 0) hx hb dX8_isUnder_27 (by decide) ?_
    obtain rfl := Option.some.inj hd
    exact my_zret C0 hK hP hD hS (Or.inl rfl) dX8_isUnder_28
  · replace hd := i_e hd c_1
    refine lv_iload_n hx hb dX8_isUnder_4 rfl (lv_at hl 1 rfl) ?_
    refine lv_iconst (v := 2) hx hb dX8_isUnder_5 (by decide) ?_
    refine lv_icmp_ge (tgt := 27) hx hb dX8_isUnder_6 (by decide) (fun c_2 => ?_) (fun c_2 => ?_)
    · replace hd := i_t hd c_2
      refine lv_iconst (v := 0) hx hb dX8_isUnder_27 (by decide) ?_
      obtain rfl := Option.some.inj hd
      exact my_zret C0 hK hP hD hS (Or.inl rfl) dX8_isUnder_28
    · replace hd := i_e hd c_2
      refine lv_iload_n hx hb dX8_isUnder_9 rfl (lv_at hl 2 rfl) ?_
      refine lv_if_lt (tgt := 27) hx hb dX8_isUnder_10 (by decide) (fun c_3 => ?_) (fun c_3 => ?_)
      · replace hd := i_t hd c_3
        refine lv_iconst (v := 0) hx hb dX8_isUnder_27 (by decide) ?_
        obtain rfl := Option.some.inj hd
        exact my_zret C0 hK hP hD hS (Or.inl rfl) dX8_isUnder_28
      · replace hd := i_e hd c_3
        refine lv_iload_n hx hb dX8_isUnder_13 rfl (lv_at hl 2 rfl) ?_
        refine lv_aload_n hx hb dX8_isUnder_14 rfl (lv_at hl 0 rfl) ?_
        refine gX8_0_23 C0 hK hP wm_6_20 dX8_isUnder_15 ?_
        refine lv_iload_n hx hb dX8_isUnder_18 rfl (lv_at hl 1 rfl) ?_
        obtain ⟨g_4, hd⟩ := ix_some hd
        refine lX8_16 C0 hK hP rfl g_4 dX8_isUnder_19 ?_
        refine lv_icmp_ge (tgt := 27) hx hb dX8_isUnder_20 (by decide) (fun c_5 => ?_) (fun c_5 => ?_)
        · replace hd := i_t hd c_5
          refine lv_iconst (v := 0) hx hb dX8_isUnder_27 (by decide) ?_
          obtain rfl := Option.some.inj hd
          exact my_zret C0 hK hP hD hS (Or.inl rfl) dX8_isUnder_28
        · replace hd := i_e hd c_5
          refine lv_iconst (v := 1) hx hb dX8_isUnder_23 (by decide) ?_
          refine lv_goto (tgt := 28) hx hb dX8_isUnder_24 (by decide) ?_
          obtain rfl := Option.some.inj hd
          exact my_zret C0 hK hP hD hS (Or.inr rfl) dX8_isUnder_28
def fX8_keyAt_36 (n : Nat) (σ : St)  (a : Int32) : Option (Int32) := if (σ.1 3) ≤ a then (some (-1 : Int32)) else (some a)
set_option maxHeartbeats 4000000 in
set_option maxRecDepth 100000 in
theorem bX8_keyAt_36 {p : Program} {l : Launch} {e : Env} {s : State} {m : MethodId} {args : Array Value} {below : List Frame} {meth : Method} {c : Code} {A : Nat → Prop} {dC : Nat → ClassId} {dI : Nat → Nat → Nat} {cI cJ cZ : ClassId} {ad : Nat → Nat} {r : Int32} {n : Nat} {σ : St} (C0 : cx p s m args meth c cX8_keyAt 4 RX8 (some .int)) (hK : va_K (dC, dI) vwCl (kT cI cJ cZ) s) (hX : xT s) (hA : ∀ q : Nat, s.heap.size ≤ q → A q)  : ∀ (a : Int32), fX8_keyAt_36 n σ  a = some r → ∀ (H : Heap) (locs : List Loc) (ls : Array Slot), va_P (dC, dI) vwCl (vX8 cI cJ cZ ad σ) H → va_D A (vX8 cI cJ cZ ad σ) → va_S A s.heap H locs → lv_has ls 4 [(0, .ref (ad 0)), (3, .int a)] → W p l e ({ frames := 0, cells := 0, slots := 0, locals := 0 } : Room) s m args below meth c H locs 0 0 (MQ below (qI (dC, dI) (kT cI cJ cZ) (vX8 cI cJ cZ ad σ) A r) args s 0 0 A) (F0 m 36 ls []) := by
  obtain ⟨hx, hb, hml, hown, hT, hr, hlocks⟩ := id C0
  intro a hd H locs ls hP hD hS hl
  unfold fX8_keyAt_36 at hd
  refine lv_iload_n hx hb dX8_keyAt_36 rfl (lv_at hl 1 rfl) ?_
  refine lv_aload_n hx hb dX8_keyAt_37 rfl (lv_at hl 0 rfl) ?_
  refine gX8_0_4 C0 hK hP wm_12_4 rfl dX8_keyAt_38 ?_
  refine lv_icmp_ge (tgt := 48) hx hb dX8_keyAt_41 (by decide) (fun c_6 => ?_) (fun c_6 => ?_)
  · replace hd := i_t hd c_6
    refine lv_iconst (v := (-1)) hx hb dX8_keyAt_48 (by decide) ?_
    obtain rfl := Option.some.inj hd
    exact my_iret C0 hK hP hD hS dX8_keyAt_49
  · replace hd := i_e hd c_6
    refine lv_iload_n hx hb dX8_keyAt_44 rfl (lv_at hl 1 rfl) ?_
    refine lv_goto (tgt := 49) hx hb dX8_keyAt_45 (by decide) ?_
    obtain rfl := Option.some.inj hd
    exact my_iret C0 hK hP hD hS dX8_keyAt_49
def fX8_keyAt_30 (n : Nat) (σ : St) (k2 : (Int64 × Int32) → Option (Int32)) (a : Int64 × Int32) : Option (Int32) := k2 (a.1, a.2 + 1)
set_option maxHeartbeats 4000000 in
set_option maxRecDepth 100000 in
theorem bX8_keyAt_30 {p : Program} {l : Launch} {e : Env} {s : State} {m : MethodId} {args : Array Value} {below : List Frame} {meth : Method} {c : Code} {A : Nat → Prop} {dC : Nat → ClassId} {dI : Nat → Nat → Nat} {cI cJ cZ : ClassId} {ad : Nat → Nat} {r : Int32} {n : Nat} {σ : St} (C0 : cx p s m args meth c cX8_keyAt 4 RX8 (some .int)) (hK : va_K (dC, dI) vwCl (kT cI cJ cZ) s) (hX : xT s) (hA : ∀ q : Nat, s.heap.size ≤ q → A q) (k2 : (Int64 × Int32) → Option (Int32)) (ih2 : ∀ (a : Int64 × Int32), k2 a = some r → ∀ (H : Heap) (locs : List Loc) (ls : Array Slot), va_P (dC, dI) vwCl (vX8 cI cJ cZ ad σ) H → va_D A (vX8 cI cJ cZ ad σ) → va_S A s.heap H locs → lv_has ls 4 [(0, .ref (ad 0)), (1, .long a.1), (3, .int a.2)] → W p l e ({ frames := 0, cells := 0, slots := 0, locals := 0 } : Room) s m args below meth c H locs 0 0 (MQ below (qI (dC, dI) (kT cI cJ cZ) (vX8 cI cJ cZ ad σ) A r) args s 0 0 A) (F0 m 2 ls [])) : ∀ (a : Int64 × Int32), fX8_keyAt_30 n σ k2 a = some r → ∀ (H : Heap) (locs : List Loc) (ls : Array Slot), va_P (dC, dI) vwCl (vX8 cI cJ cZ ad σ) H → va_D A (vX8 cI cJ cZ ad σ) → va_S A s.heap H locs → lv_has ls 4 [(0, .ref (ad 0)), (1, .long a.1), (3, .int a.2)] → W p l e ({ frames := 0, cells := 0, slots := 0, locals := 0 } : Room) s m args below meth c H locs 0 0 (MQ below (qI (dC, dI) (kT cI cJ cZ) (vX8 cI cJ cZ ad σ) A r) args s 0 0 A) (F0 m 30 ls []) := by
  obtain ⟨hx, hb, hml, hown, hT, hr, hlocks⟩ := id C0
  intro a hd H locs ls hP hD hS hl
  unfold fX8_keyAt_30 at hd
  refine lv_iinc (v := a.2 + 1) (lv' := [(3, .int (a.2 + 1)), (0, .ref (ad 0)), (1, .long a.1)]) hx hb dX8_keyAt_30 hl (k := 2) rfl rfl (by decide) rfl (fun ls hl => ?_)
  refine lv_goto (tgt := 2) hx hb dX8_keyAt_33 (by decide) ?_
  exact ih2 _ hd _ _ _ hP hD hS (lv_sub hl [1, 2, 0] rfl)
def fX8_keyAt_2 (n : Nat) (σ : St) (k2 : (Int64 × Int32) → Option (Int32)) (a : Int64 × Int32) : Option (Int32) := if (σ.1 3) ≤ a.2 then (fX8_keyAt_36 n σ  a.2) else (ix a.2 300 (if ((σ.2.1 1) a.2.toNatClampNeg) = 0 then (ix a.2 300 (if ((σ.2.2 0) a.2.toNatClampNeg) = a.1 then (fX8_keyAt_36 n σ  a.2) else (fX8_keyAt_30 n σ k2 (a.1, a.2)))) else (fX8_keyAt_30 n σ k2 (a.1, a.2))))
set_option maxHeartbeats 4000000 in
set_option maxRecDepth 100000 in
theorem bX8_keyAt_2 {p : Program} {l : Launch} {e : Env} {s : State} {m : MethodId} {args : Array Value} {below : List Frame} {meth : Method} {c : Code} {A : Nat → Prop} {dC : Nat → ClassId} {dI : Nat → Nat → Nat} {cI cJ cZ : ClassId} {ad : Nat → Nat} {r : Int32} {n : Nat} {σ : St} (C0 : cx p s m args meth c cX8_keyAt 4 RX8 (some .int)) (hK : va_K (dC, dI) vwCl (kT cI cJ cZ) s) (hX : xT s) (hA : ∀ q : Nat, s.heap.size ≤ q → A q) (k2 : (Int64 × Int32) → Option (Int32)) (ih2 : ∀ (a : Int64 × Int32), k2 a = some r → ∀ (H : Heap) (locs : List Loc) (ls : Array Slot), va_P (dC, dI) vwCl (vX8 cI cJ cZ ad σ) H → va_D A (vX8 cI cJ cZ ad σ) → va_S A s.heap H locs → lv_has ls 4 [(0, .ref (ad 0)), (1, .long a.1), (3, .int a.2)] → W p l e ({ frames := 0, cells := 0, slots := 0, locals := 0 } : Room) s m args below meth c H locs 0 0 (MQ below (qI (dC, dI) (kT cI cJ cZ) (vX8 cI cJ cZ ad σ) A r) args s 0 0 A) (F0 m 2 ls [])) : ∀ (a : Int64 × Int32), fX8_keyAt_2 n σ k2 a = some r → ∀ (H : Heap) (locs : List Loc) (ls : Array Slot), va_P (dC, dI) vwCl (vX8 cI cJ cZ ad σ) H → va_D A (vX8 cI cJ cZ ad σ) → va_S A s.heap H locs → lv_has ls 4 [(0, .ref (ad 0)), (1, .long a.1), (3, .int a.2)] → W p l e ({ frames := 0, cells := 0, slots := 0, locals := 0 } : Room) s m args below meth c H locs 0 0 (MQ below (qI (dC, dI) (kT cI cJ cZ) (vX8 cI cJ cZ ad σ) A r) args s 0 0 A) (F0 m 2 ls []) := by
  obtain ⟨hx, hb, hml, hown, hT, hr, hlocks⟩ := id C0
  intro a hd H locs ls hP hD hS hl
  unfold fX8_keyAt_2 at hd
  refine lv_iload_n hx hb dX8_keyAt_2 rfl (lv_at hl 2 rfl) ?_
  refine lv_aload_n hx hb dX8_keyAt_3 rfl (lv_at hl 0 rfl) ?_
  refine gX8_0_4 C0 hK hP wm_12_4 rfl dX8_keyAt_4 ?_
  refine lv_icmp_ge (tgt := 36) hx hb dX8_keyAt_7 (by decide) (fun c_1 => ?_) (fun c_1 => ?_)
  · replace hd := i_t hd c_1
    exact bX8_keyAt_36 C0 hK hX hA  _ hd _ _ _ hP hD hS (lv_sub hl [0, 2] rfl)
  · replace hd := i_e hd c_1
    refine lv_aload_n hx hb dX8_keyAt_10 rfl (lv_at hl 0 rfl) ?_
    refine gX8_0_5 C0 hK hP wm_6_6 dX8_keyAt_11 ?_
    refine lv_iload_n hx hb dX8_keyAt_14 rfl (lv_at hl 2 rfl) ?_
    obtain ⟨g_2, hd⟩ := ix_some hd
    refine lX8_2 C0 hK hP rfl g_2 dX8_keyAt_15 ?_
    refine lv_if_ne (tgt := 30) hx hb dX8_keyAt_16 (by decide) (fun c_3 => ?_) (fun c_3 => ?_)
    · replace hd := i_e hd c_3
      exact bX8_keyAt_30 C0 hK hX hA k2 ih2 _ hd _ _ _ hP hD hS (lv_sub hl [0, 1, 2] rfl)
    · replace hd := i_t hd c_3
      refine lv_aload_n hx hb dX8_keyAt_19 rfl (lv_at hl 0 rfl) ?_
      refine gX8_0_6 C0 hK hP wm_6_7 dX8_keyAt_20 ?_
      refine lv_iload_n hx hb dX8_keyAt_23 rfl (lv_at hl 2 rfl) ?_
      obtain ⟨g_4, hd⟩ := ix_some hd
      refine lX8_3 C0 hK hP rfl g_4 dX8_keyAt_24 ?_
      refine lv_lload_n hx hb dX8_keyAt_25 rfl (lv_at hl 1 rfl) ?_
      refine lc_eq (tgt := 36) hx hb dX8_keyAt_26 dX8_keyAt_27 (by decide) (fun c_5 => ?_) (fun c_5 => ?_)
      · replace hd := i_t hd c_5
        exact bX8_keyAt_36 C0 hK hX hA  _ hd _ _ _ hP hD hS (lv_sub hl [0, 2] rfl)
      · replace hd := i_e hd c_5
        exact bX8_keyAt_30 C0 hK hX hA k2 ih2 _ hd _ _ _ hP hD hS (lv_sub hl [0, 1, 2] rfl)
set_option maxHeartbeats 4000000 in
set_option maxRecDepth 100000 in
theorem oX8_keyAt_2 {p : Program} {l : Launch} {e : Env} {s : State} {m : MethodId} {args : Array Value} {below : List Frame} {meth : Method} {c : Code} {A : Nat → Prop} {dC : Nat → ClassId} {dI : Nat → Nat → Nat} {cI cJ cZ : ClassId} {ad : Nat → Nat} {r : Int32} {n : Nat} {σ : St} (C0 : cx p s m args meth c cX8_keyAt 4 RX8 (some .int)) (hK : va_K (dC, dI) vwCl (kT cI cJ cZ) s) (hX : xT s) (hA : ∀ q : Nat, s.heap.size ≤ q → A q)  : ∀ nn : Nat, ∀ (a : Int64 × Int32), loopF (fX8_keyAt_2 n σ ) nn a = some r → ∀ (H : Heap) (locs : List Loc) (ls : Array Slot), va_P (dC, dI) vwCl (vX8 cI cJ cZ ad σ) H → va_D A (vX8 cI cJ cZ ad σ) → va_S A s.heap H locs → lv_has ls 4 [(0, .ref (ad 0)), (1, .long a.1), (3, .int a.2)] → W p l e ({ frames := 0, cells := 0, slots := 0, locals := 0 } : Room) s m args below meth c H locs 0 0 (MQ below (qI (dC, dI) (kT cI cJ cZ) (vX8 cI cJ cZ ad σ) A r) args s 0 0 A) (F0 m 2 ls []) := by
  intro nn
  induction nn with
  | zero => intro a hd; cases hd
  | succ nn ih => intro a hd; exact bX8_keyAt_2 C0 hK hX hA  _ ih a hd
def fX8_keyAt (n : Nat) (σ : St) (p1 : Int64) : Option (Int32) := loopF (fX8_keyAt_2 n σ ) n (p1, (0 : Int32))
set_option maxHeartbeats 4000000 in
set_option maxRecDepth 100000 in
theorem mX8_keyAt (l : Launch) (dC : Nat → ClassId) (dI : Nat → Nat → Nat) (cI cJ cZ : ClassId) (ad : Nat → Nat) (n : Nat) (σ : St) (p1 : Int64) {r : Int32} (hd : fX8_keyAt n σ p1 = some r) (sz : Nat)  : Met l yX8_keyAt (wS yX8_keyAt cX8_keyAt 4 (some .int)) { frames := 0, cells := 0, slots := 0, locals := 0 } (pC (dC, dI) (kT cI cJ cZ) xT (vX8 cI cJ cZ ad σ) sz [.ref (ad 0), .long p1]) (qI (dC, dI) (kT cI cJ cZ) (vX8 cI cJ cZ ad σ) (va_A (vX8 cI cJ cZ ad σ) sz) r) 0 0 (va_A (vX8 cI cJ cZ ad σ) sz) := by
  refine my_ent (fun A => qI (dC, dI) (kT cI cJ cZ) (vX8 cI cJ cZ ad σ) A r) (by decide) (Nat.le_of_ble_eq_true rfl) ?_
  intro p e s m below meth c A hAe hnm C0 hK hX hP hD hA hS ls hl
  obtain ⟨hx, hb, hml, hown, hT, hr, hlocks⟩ := id C0
  unfold fX8_keyAt at hd
  have hl : lv_has ls 4 [(0, .ref (ad 0)), (1, .long p1)] := hl
  refine lv_iconst (v := 0) hx hb dX8_keyAt_0 (by decide) ?_
  refine lv_istore_n (lv' := [(3, .int (0 : Int32)), (0, .ref (ad 0)), (1, .long p1)]) hx hb dX8_keyAt_1 rfl hl (by decide) rfl (fun ls hl => ?_)
  exact oX8_keyAt_2 C0 hK hX hA  _ _ hd _ _ _ hP hD hS (lv_sub hl [1, 2, 0] rfl)
def fX8_serve_104 (n : Nat)  (a : St × Int32 × Int32) : Option (Int32 × St) := ix a.2.1 300 ((fX8_send a.1 (1 : Int32) a.2.1 (0 : Int32) ((a.1.2.2 4) a.2.1.toNatClampNeg)).bind (fun u_21 => (fX8_goOn n u_21).bind (fun u_23 => if a.2.2 = 0 then (some ((0 : Int32), u_23)) else (some ((1 : Int32), u_23)))))
set_option maxHeartbeats 4000000 in
set_option maxRecDepth 100000 in
theorem bX8_serve_104 {p : Program} {l : Launch} {e : Env} {s : State} {m : MethodId} {args : Array Value} {below : List Frame} {meth : Method} {c : Code} {A : Nat → Prop} {dC : Nat → ClassId} {dI : Nat → Nat → Nat} {cI cJ cZ : ClassId} {ad : Nat → Nat} {r : Int32 × St} {n : Nat} (C0 : cx p s m args meth c cX8_serve 5 RX8 (some .int)) (hK : va_K (dC, dI) vwCl (kT cI cJ cZ) s) (hX : xT s) (hA : ∀ q : Nat, s.heap.size ≤ q → A q)  : ∀ (a : St × Int32 × Int32), fX8_serve_104 n  a = some r → ∀ (H : Heap) (locs : List Loc) (ls : Array Slot), va_P (dC, dI) vwCl (vX8 cI cJ cZ ad a.1) H → va_D A (vX8 cI cJ cZ ad a.1) → va_S A s.heap H locs → lv_has ls 5 [(0, .ref (ad 0)), (2, .int a.2.1), (3, .int a.2.2)] → W p l e ({ frames := 4, cells := 0, slots := 0, locals := 91 } : Room) s m args below meth c H locs 0 0 (MQ below (qI (dC, dI) (kT cI cJ cZ) (vX8 cI cJ cZ ad r.2) A r.1) args s 0 0 A) (F0 m 104 ls []) := by
  obtain ⟨hx, hb, hml, hown, hT, hr, hlocks⟩ := id C0
  intro a hd H locs ls hP hD hS hl
  unfold fX8_serve_104 at hd
  refine lv_aload_n hx hb dX8_serve_104 rfl (lv_at hl 0 rfl) ?_
  refine lv_iconst (v := 1) hx hb dX8_serve_105 (by decide) ?_
  refine lv_iload_n hx hb dX8_serve_106 rfl (lv_at hl 1 rfl) ?_
  refine lv_iconst (v := 0) hx hb dX8_serve_107 (by decide) ?_
  refine lv_aload_n hx hb dX8_serve_108 rfl (lv_at hl 0 rfl) ?_
  refine gX8_0_26 C0 hK hP wm_6_23 dX8_serve_109 ?_
  refine lv_iload_n hx hb dX8_serve_112 rfl (lv_at hl 1 rfl) ?_
  obtain ⟨g_20, hd⟩ := ix_some hd
  refine lX8_19 C0 hK hP rfl g_20 dX8_serve_113 ?_
  obtain ⟨u_21, hc_22, hd⟩ := bd hd
  refine cw_v (rest := []) C0 (mX8_send l dC dI cI cJ cZ ad a.1 (1 : Int32) a.2.1 (0 : Int32) ((a.1.2.2 4) a.2.1.toNatClampNeg) hc_22 _) gv_X8_138 yd_X8_send ⟨rfl, rfl, Nat.le_of_ble_eq_true rfl, Nat.le_of_ble_eq_true rfl, Nat.zero_le _, Nat.zero_le _⟩ xT_b xT_w hK hP hD hS hA hl.1 rfl (Nat.le_of_ble_eq_true rfl) dX8_serve_114 8 0 rfl rfl (fun H locs hP hD hS => ?_)
  refine lv_aload_n hx hb dX8_serve_117 rfl (lv_at hl 0 rfl) ?_
  obtain ⟨u_23, hc_24, hd⟩ := bd hd
  refine cw_v (rest := []) C0 (mX8_goOn l dC dI cI cJ cZ ad n u_21  hc_24 _) gv_X8_149 yd_X8_goOn ⟨rfl, rfl, Nat.le_of_ble_eq_true rfl, Nat.le_of_ble_eq_true rfl, Nat.zero_le _, Nat.zero_le _⟩ xT_b xT_w hK hP hD hS hA hl.1 rfl (Nat.le_of_ble_eq_true rfl) dX8_serve_118 8 0 rfl rfl (fun H locs hP hD hS => ?_)
  refine lv_iload_n hx hb dX8_serve_121 rfl (lv_at hl 2 rfl) ?_
  refine lv_if_eq (tgt := 129) hx hb dX8_serve_122 (by decide) (fun c_25 => ?_) (fun c_25 => ?_)
  · replace hd := i_t hd c_25
    refine lv_iconst (v := 0) hx hb dX8_serve_129 (by decide) ?_
    obtain rfl := Option.some.inj hd
    exact my_iret C0 hK hP hD hS dX8_serve_130
  · replace hd := i_e hd c_25
    refine lv_iconst (v := 1) hx hb dX8_serve_125 (by decide) ?_
    refine lv_goto (tgt := 130) hx hb dX8_serve_126 (by decide) ?_
    obtain rfl := Option.some.inj hd
    exact my_iret C0 hK hP hD hS dX8_serve_130
def fX8_serve_48 (n : Nat)  (a : St × Int32 × Int32) : Option (Int32 × St) := if a.2.2 = 0 then (fX8_serve_104 n  (a.1, a.2.1, a.2.2)) else (ix a.2.1 300 ((fX8_keyAt n a.1 ((a.1.2.2 0) a.2.1.toNatClampNeg)).bind (fun u_12 => ix u_12 300 (ix u_12 300 (ix a.2.1 300 (ix a.2.1 300 (ix u_12 300 (ix a.2.1 300 (fX8_serve_104 n  (sL (sA (sA a.1 12 (upd (a.1.2.1 12) u_12.toNatClampNeg (((a.1.2.1 12) u_12.toNatClampNeg) + (1 : Int32)))) 13 (upd (a.1.2.1 13) a.2.1.toNatClampNeg (vp_nar .boolean (1 : Int32)))) 4 (vp_updL (a.1.2.2 4) a.2.1.toNatClampNeg (((a.1.2.2 1) a.2.1.toNatClampNeg) + (((upd (a.1.2.1 12) u_12.toNatClampNeg (((a.1.2.1 12) u_12.toNatClampNeg) + (1 : Int32))) u_12.toNatClampNeg).toInt64))), a.2.1, a.2.2))))))))))
set_option maxHeartbeats 4000000 in
set_option maxRecDepth 100000 in
theorem bX8_serve_48 {p : Program} {l : Launch} {e : Env} {s : State} {m : MethodId} {args : Array Value} {below : List Frame} {meth : Method} {c : Code} {A : Nat → Prop} {dC : Nat → ClassId} {dI : Nat → Nat → Nat} {cI cJ cZ : ClassId} {ad : Nat → Nat} {r : Int32 × St} {n : Nat} (C0 : cx p s m args meth c cX8_serve 5 RX8 (some .int)) (hK : va_K (dC, dI) vwCl (kT cI cJ cZ) s) (hX : xT s) (hA : ∀ q : Nat, s.heap.size ≤ q → A q)  : ∀ (a : St × Int32 × Int32), fX8_serve_48 n  a = some r → ∀ (H : Heap) (locs : List Loc) (ls : Array Slot), va_P (dC, dI) vwCl (vX8 cI cJ cZ ad a.1) H → va_D A (vX8 cI cJ cZ ad a.1) → va_S A s.heap H locs → lv_has ls 5 [(0, .ref (ad 0)), (2, .int a.2.1)] → W p l e ({ frames := 4, cells := 0, slots := 0, locals := 91 } : Room) s m args below meth c H locs 0 0 (MQ below (qI (dC, dI) (kT cI cJ cZ) (vX8 cI cJ cZ ad r.2) A r.1) args s 0 0 A) (F0 m 48 ls [.int a.2.2]) := by
  obtain ⟨hx, hb, hml, hown, hT, hr, hlocks⟩ := id C0
  intro a hd H locs ls hP hD hS hl
  unfold fX8_serve_48 at hd
  refine lv_istore_n (lv' := [(3, .int a.2.2), (0, .ref (ad 0)), (2, .int a.2.1)]) hx hb dX8_serve_48 rfl hl (by decide) rfl (fun ls hl => ?_)
  refine lv_iload_n hx hb dX8_serve_49 rfl (lv_at hl 0 rfl) ?_
  refine lv_if_eq (tgt := 104) hx hb dX8_serve_50 (by decide) (fun c_10 => ?_) (fun c_10 => ?_)
  · replace hd := i_t hd c_10
    exact bX8_serve_104 C0 hK hX hA  _ hd _ _ _ hP hD hS (lv_sub hl [1, 2, 0] rfl)
  · replace hd := i_e hd c_10
    refine lv_aload_n hx hb dX8_serve_53 rfl (lv_at hl 1 rfl) ?_
    refine lv_aload_n hx hb dX8_serve_54 rfl (lv_at hl 1 rfl) ?_
    refine gX8_0_6 C0 hK hP wm_6_7 dX8_serve_55 ?_
    refine lv_iload_n hx hb dX8_serve_58 rfl (lv_at hl 2 rfl) ?_
    obtain ⟨g_11, hd⟩ := ix_some hd
    refine lX8_3 C0 hK hP rfl g_11 dX8_serve_59 ?_
    obtain ⟨u_12, hc_13, hd⟩ := bd hd
    refine cw_i (rest := []) C0 (mX8_keyAt l dC dI cI cJ cZ ad n a.1 ((a.1.2.2 0) a.2.1.toNatClampNeg) hc_13 _) gv_X8_169 yd_X8_keyAt ⟨rfl, rfl, Nat.le_of_ble_eq_true rfl, Nat.le_of_ble_eq_true rfl, Nat.zero_le _, Nat.zero_le _⟩ xT_b xT_w hK hP hD hS hA hl.1 rfl (Nat.le_of_ble_eq_true rfl) dX8_serve_60 8 0 rfl rfl (fun H locs hP hD hS => ?_)
    refine lv_istore (lv' := [(4, .int u_12), (3, .int a.2.2), (0, .ref (ad 0)), (2, .int a.2.1)]) hx hb dX8_serve_63 hl (by decide) rfl (fun ls hl => ?_)
    refine lv_aload_n hx hb dX8_serve_65 rfl (lv_at hl 2 rfl) ?_
    refine gX8_0_24 C0 hK hP wm_6_21 dX8_serve_66 ?_
    refine lv_iload hx hb dX8_serve_69 (lv_at hl 0 rfl) ?_
    refine lv_dup2_11 hx hb dX8_serve_71 rfl rfl ?_
    obtain ⟨g_14, hd⟩ := ix_some hd
    refine lX8_17 C0 hK hP rfl g_14 dX8_serve_72 ?_
    refine lv_iconst (v := 1) hx hb dX8_serve_73 (by decide) ?_
    refine lv_iadd hx hb dX8_serve_74 ?_
    obtain ⟨g_15, hd⟩ := ix_some hd
    refine aX8_17 C0 hK hP hD hS rfl g_15 dX8_serve_75 (fun H locs hP hD hS => ?_)
    refine lv_aload_n hx hb dX8_serve_76 rfl (lv_at hl 2 rfl) ?_
    refine gX8_0_25 C0 hK hP wm_6_22 dX8_serve_77 ?_
    refine lv_iload_n hx hb dX8_serve_80 rfl (lv_at hl 3 rfl) ?_
    refine lv_iconst (v := 1) hx hb dX8_serve_81 (by decide) ?_
    obtain ⟨g_16, hd⟩ := ix_some hd
    refine aX8_18 C0 hK hP hD hS (sA_n (by decide)) g_16 dX8_serve_82 (fun H locs hP hD hS => ?_)
    refine lv_aload_n hx hb dX8_serve_83 rfl (lv_at hl 2 rfl) ?_
    refine gX8_0_26 C0 hK hP wm_6_23 dX8_serve_84 ?_
    refine lv_iload_n hx hb dX8_serve_87 rfl (lv_at hl 3 rfl) ?_
    refine lv_aload_n hx hb dX8_serve_88 rfl (lv_at hl 2 rfl) ?_
    refine gX8_0_7 C0 hK hP wm_6_8 dX8_serve_89 ?_
    refine lv_iload_n hx hb dX8_serve_92 rfl (lv_at hl 3 rfl) ?_
    obtain ⟨g_17, hd⟩ := ix_some hd
    refine lX8_4 C0 hK hP ((sA_L).trans (sA_L)) g_17 dX8_serve_93 ?_
    refine lv_aload_n hx hb dX8_serve_94 rfl (lv_at hl 2 rfl) ?_
    refine gX8_0_24 C0 hK hP wm_6_21 dX8_serve_95 ?_
    refine lv_iload hx hb dX8_serve_98 (lv_at hl 0 rfl) ?_
    obtain ⟨g_18, hd⟩ := ix_some hd
    refine lX8_17 C0 hK hP ((sA_n (by decide)).trans sA_s) g_18 dX8_serve_100 ?_
    refine lv_i2l (v := ((upd (a.1.2.1 12) u_12.toNatClampNeg (((a.1.2.1 12) u_12.toNatClampNeg) + (1 : Int32))) u_12.toNatClampNeg).toInt64) hx hb dX8_serve_101 rfl ?_
    refine lv_ladd hx hb dX8_serve_102 ?_
    obtain ⟨g_19, hd⟩ := ix_some hd
    refine aX8_19 C0 hK hP hD hS ((sA_L).trans (sA_L)) g_19 dX8_serve_103 (fun H locs hP hD hS => ?_)
    exact bX8_serve_104 C0 hK hX hA  _ hd _ _ _ hP hD hS (lv_sub hl [2, 3, 1] rfl)
def fX8_serve_43 (n : Nat)  (a : St × Int32) : Option (Int32 × St) := fX8_serve_48 n  (a.1, a.2, (1 : Int32))
set_option maxHeartbeats 4000000 in
set_option maxRecDepth 100000 in
theorem bX8_serve_43 {p : Program} {l : Launch} {e : Env} {s : State} {m : MethodId} {args : Array Value} {below : List Frame} {meth : Method} {c : Code} {A : Nat → Prop} {dC : Nat → ClassId} {dI : Nat → Nat → Nat} {cI cJ cZ : ClassId} {ad : Nat → Nat} {r : Int32 × St} {n : Nat} (C0 : cx p s m args meth c cX8_serve 5 RX8 (some .int)) (hK : va_K (dC, dI) vwCl (kT cI cJ cZ) s) (hX : xT s) (hA : ∀ q : Nat, s.heap.size ≤ q → A q)  : ∀ (a : St × Int32), fX8_serve_43 n  a = some r → ∀ (H : Heap) (locs : List Loc) (ls : Array Slot), va_P (dC, dI) vwCl (vX8 cI cJ cZ ad a.1) H → va_D A (vX8 cI cJ cZ ad a.1) → va_S A s.heap H locs → lv_has ls 5 [(0, .ref (ad 0)), (2, .int a.2)] → W p l e ({ frames := 4, cells := 0, slots := 0, locals := 91 } : Room) s m args below meth c H locs 0 0 (MQ below (qI (dC, dI) (kT cI cJ cZ) (vX8 cI cJ cZ ad r.2) A r.1) args s 0 0 A) (F0 m 43 ls []) := by
  obtain ⟨hx, hb, hml, hown, hT, hr, hlocks⟩ := id C0
  intro a hd H locs ls hP hD hS hl
  unfold fX8_serve_43 at hd
  refine lv_iconst (v := 1) hx hb dX8_serve_43 (by decide) ?_
  refine lv_goto (tgt := 48) hx hb dX8_serve_44 (by decide) ?_
  exact bX8_serve_48 C0 hK hX hA  _ hd _ _ _ hP hD hS (lv_sub hl [0, 1] rfl)
def fX8_serve (n : Nat) (σ : St) (p1 : Int32) : Option (Int32 × St) := (fX8_isUnder σ (0 : Int32) p1).bind (fun u_1 => if u_1 = 0 then (some ((-1 : Int32), σ)) else (ix p1 200 ((fX8_take n σ (0 : Int32) p1).bind (fun u_5 => if ((u_5.2.1 0) (7 : Int32).toNatClampNeg) = 0 then (fX8_serve_43 n  (u_5, (σ.2.1 9) p1.toNatClampNeg)) else (ix ((σ.2.1 9) p1.toNatClampNeg) 300 (if ((u_5.2.1 13) ((σ.2.1 9) p1.toNatClampNeg).toNatClampNeg) = 0 then (fX8_serve_43 n  (u_5, (σ.2.1 9) p1.toNatClampNeg)) else (fX8_serve_48 n  (u_5, (σ.2.1 9) p1.toNatClampNeg, (0 : Int32)))))))))
set_option maxHeartbeats 4000000 in
set_option maxRecDepth 100000 in
theorem mX8_serve (l : Launch) (dC : Nat → ClassId) (dI : Nat → Nat → Nat) (cI cJ cZ : ClassId) (ad : Nat → Nat) (n : Nat) (σ : St) (p1 : Int32) {r : Int32 × St} (hd : fX8_serve n σ p1 = some r) (sz : Nat)  : Met l yX8_serve (wS yX8_serve cX8_serve 5 (some .int)) { frames := 4, cells := 0, slots := 0, locals := 91 } (pC (dC, dI) (kT cI cJ cZ) xT (vX8 cI cJ cZ ad σ) sz [.ref (ad 0), .int p1]) (qI (dC, dI) (kT cI cJ cZ) (vX8 cI cJ cZ ad r.2) (va_A (vX8 cI cJ cZ ad σ) sz) r.1) 0 0 (va_A (vX8 cI cJ cZ ad σ) sz) := by
  refine my_ent (fun A => qI (dC, dI) (kT cI cJ cZ) (vX8 cI cJ cZ ad r.2) A r.1) (by decide) (Nat.le_of_ble_eq_true rfl) ?_
  intro p e s m below meth c A hAe hnm C0 hK hX hP hD hA hS ls hl
  obtain ⟨hx, hb, hml, hown, hT, hr, hlocks⟩ := id C0
  unfold fX8_serve at hd
  have hl : lv_has ls 5 [(0, .ref (ad 0)), (1, .int p1)] := hl
  refine lv_aload_n hx hb dX8_serve_0 rfl (lv_at hl 0 rfl) ?_
  refine lv_iconst (v := 0) hx hb dX8_serve_1 (by decide) ?_
  refine lv_iload_n hx hb dX8_serve_2 rfl (lv_at hl 1 rfl) ?_
  obtain ⟨u_1, hc_2, hd⟩ := bd hd
  refine cw_i (rest := []) C0 (mX8_isUnder l dC dI cI cJ cZ ad σ (0 : Int32) p1 hc_2 _) gv_X8_161 yd_X8_isUnder ⟨rfl, rfl, Nat.le_of_ble_eq_true rfl, Nat.le_of_ble_eq_true rfl, Nat.zero_le _, Nat.zero_le _⟩ xT_b xT_w hK hP hD hS hA hl.1 rfl (Nat.le_of_ble_eq_true rfl) dX8_serve_3 8 0 rfl rfl (fun H locs hP hD hS => ?_)
  refine lv_if_ne (tgt := 11) hx hb dX8_serve_6 (by decide) (fun c_3 => ?_) (fun c_3 => ?_)
  · replace hd := i_e hd c_3
    refine lv_aload_n hx hb dX8_serve_11 rfl (lv_at hl 0 rfl) ?_
    refine gX8_0_20 C0 hK hP wm_6_17 dX8_serve_12 ?_
    refine lv_iload_n hx hb dX8_serve_15 rfl (lv_at hl 1 rfl) ?_
    obtain ⟨g_4, hd⟩ := ix_some hd
    refine lX8_13 C0 hK hP rfl g_4 dX8_serve_16 ?_
    refine lv_istore_n (lv' := [(2, .int ((σ.2.1 9) p1.toNatClampNeg)), (0, .ref (ad 0)), (1, .int p1)]) hx hb dX8_serve_17 rfl hl (by decide) rfl (fun ls hl => ?_)
    refine lv_aload_n hx hb dX8_serve_18 rfl (lv_at hl 1 rfl) ?_
    refine lv_iconst (v := 0) hx hb dX8_serve_19 (by decide) ?_
    refine lv_iload_n hx hb dX8_serve_20 rfl (lv_at hl 2 rfl) ?_
    obtain ⟨u_5, hc_6, hd⟩ := bd hd
    refine cw_v (rest := []) C0 (mX8_take l dC dI cI cJ cZ ad n σ (0 : Int32) p1 hc_6 _) gv_X8_165 yd_X8_take ⟨rfl, rfl, Nat.le_of_ble_eq_true rfl, Nat.le_of_ble_eq_true rfl, Nat.zero_le _, Nat.zero_le _⟩ xT_b xT_w hK hP hD hS hA hl.1 rfl (Nat.le_of_ble_eq_true rfl) dX8_serve_21 8 0 rfl rfl (fun H locs hP hD hS => ?_)
    refine lv_aload_n hx hb dX8_serve_24 rfl (lv_at hl 1 rfl) ?_
    refine gX8_0_3 C0 hK hP wm_6_5 dX8_serve_25 ?_
    refine lv_bipush (v := 7) hx hb dX8_serve_28 (by decide) ?_
    refine lX8_1 C0 hK hP rfl (by unfold vp_in; decide) dX8_serve_30 ?_
    refine lv_if_eq (tgt := 43) hx hb dX8_serve_31 (by decide) (fun c_7 => ?_) (fun c_7 => ?_)
    · replace hd := i_t hd c_7
      exact bX8_serve_43 C0 hK hX hA  _ hd _ _ _ hP hD hS (lv_sub hl [1, 0] rfl)
    · replace hd := i_e hd c_7
      refine lv_aload_n hx hb dX8_serve_34 rfl (lv_at hl 1 rfl) ?_
      refine gX8_0_25 C0 hK hP wm_6_22 dX8_serve_35 ?_
      refine lv_iload_n hx hb dX8_serve_38 rfl (lv_at hl 0 rfl) ?_
      obtain ⟨g_8, hd⟩ := ix_some hd
      refine lX8_18 C0 hK hP rfl g_8 dX8_serve_39 ?_
      refine lv_if_ne (tgt := 47) hx hb dX8_serve_40 (by decide) (fun c_9 => ?_) (fun c_9 => ?_)
      · replace hd := i_e hd c_9
        refine lv_iconst (v := 0) hx hb dX8_serve_47 (by decide) ?_
        exact bX8_serve_48 C0 hK hX hA  _ hd _ _ _ hP hD hS (lv_sub hl [1, 0] rfl)
      · replace hd := i_t hd c_9
        exact bX8_serve_43 C0 hK hX hA  _ hd _ _ _ hP hD hS (lv_sub hl [1, 0] rfl)
  · replace hd := i_t hd c_3
    refine lv_iconst (v := (-1)) hx hb dX8_serve_9 (by decide) ?_
    obtain rfl := Option.some.inj hd
    exact my_iret C0 hK hP hD hS dX8_serve_10
def fX8_refuse (n : Nat) (σ : St) (p1 : Int32) (p2 : Int32) : Option (Int32 × St) := (fX8_isUnder σ (0 : Int32) p1).bind (fun u_1 => if u_1 = 0 then (some ((-1 : Int32), σ)) else (if p2 < (1 : Int32) then (some ((-1 : Int32), σ)) else (if p2 ≤ (3 : Int32) then (ix p1 200 ((fX8_take n σ (0 : Int32) p1).bind (fun u_7 => (fX8_send u_7 (1 : Int32) ((σ.2.1 9) p1.toNatClampNeg) p2 (0 : Int64)).bind (fun u_9 => (fX8_goOn n u_9).bind (fun u_11 => some ((0 : Int32), u_11)))))) else (some ((-1 : Int32), σ)))))
set_option maxHeartbeats 4000000 in
set_option maxRecDepth 100000 in
theorem mX8_refuse (l : Launch) (dC : Nat → ClassId) (dI : Nat → Nat → Nat) (cI cJ cZ : ClassId) (ad : Nat → Nat) (n : Nat) (σ : St) (p1 : Int32) (p2 : Int32) {r : Int32 × St} (hd : fX8_refuse n σ p1 p2 = some r) (sz : Nat)  : Met l yX8_refuse (wS yX8_refuse cX8_refuse 4 (some .int)) { frames := 4, cells := 0, slots := 0, locals := 91 } (pC (dC, dI) (kT cI cJ cZ) xT (vX8 cI cJ cZ ad σ) sz [.ref (ad 0), .int p1, .int p2]) (qI (dC, dI) (kT cI cJ cZ) (vX8 cI cJ cZ ad r.2) (va_A (vX8 cI cJ cZ ad σ) sz) r.1) 0 0 (va_A (vX8 cI cJ cZ ad σ) sz) := by
  refine my_ent (fun A => qI (dC, dI) (kT cI cJ cZ) (vX8 cI cJ cZ ad r.2) A r.1) (by decide) (Nat.le_of_ble_eq_true rfl) ?_
  intro p e s m below meth c A hAe hnm C0 hK hX hP hD hA hS ls hl
  obtain ⟨hx, hb, hml, hown, hT, hr, hlocks⟩ := id C0
  unfold fX8_refuse at hd
  have hl : lv_has ls 4 [(0, .ref (ad 0)), (1, .int p1), (2, .int p2)] := hl
  refine lv_aload_n hx hb dX8_refuse_0 rfl (lv_at hl 0 rfl) ?_
  refine lv_iconst (v := 0) hx hb dX8_refuse_1 (by decide) ?_
  refine lv_iload_n hx hb dX8_refuse_2 rfl (lv_at hl 1 rfl) ?_
  obtain ⟨u_1, hc_2, hd⟩ := bd hd
  refine cw_i (rest := []) C0 (mX8_isUnder l dC dI cI cJ cZ ad σ (0 : Int32) p1 hc_2 _) gv_X8_161 yd_X8_isUnder ⟨rfl, rfl, Nat.le_of_ble_eq_true rfl, Nat.le_of_ble_eq_true rfl, Nat.zero_le _, Nat.zero_le _⟩ xT_b xT_w hK hP hD hS hA hl.1 rfl (Nat.le_of_ble_eq_true rfl) dX8_refuse_3 8 0 rfl rfl (fun H locs hP hD hS => ?_)
  refine lv_if_eq (tgt := 19) hx hb dX8_refuse_6 (by decide) (fun c_3 => ?_) (fun c_3 => ?_)
  · replace hd := i_t hd c_3
    refine lv_iconst (v := (-1)) hx hb dX8_refuse_19 (by decide) ?_
    obtain rfl := Option.some.inj hd
    exact my_iret C0 hK hP hD hS dX8_refuse_20
  · replace hd := i_e hd c_3
    refine lv_iload_n hx hb dX8_refuse_9 rfl (lv_at hl 2 rfl) ?_
    refine lv_iconst (v := 1) hx hb dX8_refuse_10 (by decide) ?_
    refine lv_icmp_lt (tgt := 19) hx hb dX8_refuse_11 (by decide) (fun c_4 => ?_) (fun c_4 => ?_)
    · replace hd := i_t hd c_4
      refine lv_iconst (v := (-1)) hx hb dX8_refuse_19 (by decide) ?_
      obtain rfl := Option.some.inj hd
      exact my_iret C0 hK hP hD hS dX8_refuse_20
    · replace hd := i_e hd c_4
      refine lv_iload_n hx hb dX8_refuse_14 rfl (lv_at hl 2 rfl) ?_
      refine lv_iconst (v := 3) hx hb dX8_refuse_15 (by decide) ?_
      refine lv_icmp_le (tgt := 21) hx hb dX8_refuse_16 (by decide) (fun c_5 => ?_) (fun c_5 => ?_)
      · replace hd := i_t hd c_5
        refine lv_aload_n hx hb dX8_refuse_21 rfl (lv_at hl 0 rfl) ?_
        refine gX8_0_20 C0 hK hP wm_6_17 dX8_refuse_22 ?_
        refine lv_iload_n hx hb dX8_refuse_25 rfl (lv_at hl 1 rfl) ?_
        obtain ⟨g_6, hd⟩ := ix_some hd
        refine lX8_13 C0 hK hP rfl g_6 dX8_refuse_26 ?_
        refine lv_istore_n (lv' := [(3, .int ((σ.2.1 9) p1.toNatClampNeg)), (0, .ref (ad 0)), (1, .int p1), (2, .int p2)]) hx hb dX8_refuse_27 rfl hl (by decide) rfl (fun ls hl => ?_)
        refine lv_aload_n hx hb dX8_refuse_28 rfl (lv_at hl 1 rfl) ?_
        refine lv_iconst (v := 0) hx hb dX8_refuse_29 (by decide) ?_
        refine lv_iload_n hx hb dX8_refuse_30 rfl (lv_at hl 2 rfl) ?_
        obtain ⟨u_7, hc_8, hd⟩ := bd hd
        refine cw_v (rest := []) C0 (mX8_take l dC dI cI cJ cZ ad n σ (0 : Int32) p1 hc_8 _) gv_X8_165 yd_X8_take ⟨rfl, rfl, Nat.le_of_ble_eq_true rfl, Nat.le_of_ble_eq_true rfl, Nat.zero_le _, Nat.zero_le _⟩ xT_b xT_w hK hP hD hS hA hl.1 rfl (Nat.le_of_ble_eq_true rfl) dX8_refuse_31 8 0 rfl rfl (fun H locs hP hD hS => ?_)
        refine lv_aload_n hx hb dX8_refuse_34 rfl (lv_at hl 1 rfl) ?_
        refine lv_iconst (v := 1) hx hb dX8_refuse_35 (by decide) ?_
        refine lv_iload_n hx hb dX8_refuse_36 rfl (lv_at hl 0 rfl) ?_
        refine lv_iload_n hx hb dX8_refuse_37 rfl (lv_at hl 3 rfl) ?_
        refine lv_lconst (v := 0) hx hb dX8_refuse_38 (by decide) ?_
        obtain ⟨u_9, hc_10, hd⟩ := bd hd
        refine cw_v (rest := []) C0 (mX8_send l dC dI cI cJ cZ ad u_7 (1 : Int32) ((σ.2.1 9) p1.toNatClampNeg) p2 (0 : Int64) hc_10 _) gv_X8_138 yd_X8_send ⟨rfl, rfl, Nat.le_of_ble_eq_true rfl, Nat.le_of_ble_eq_true rfl, Nat.zero_le _, Nat.zero_le _⟩ xT_b xT_w hK hP hD hS hA hl.1 rfl (Nat.le_of_ble_eq_true rfl) dX8_refuse_39 8 0 rfl rfl (fun H locs hP hD hS => ?_)
        refine lv_aload_n hx hb dX8_refuse_42 rfl (lv_at hl 1 rfl) ?_
        obtain ⟨u_11, hc_12, hd⟩ := bd hd
        refine cw_v (rest := []) C0 (mX8_goOn l dC dI cI cJ cZ ad n u_9  hc_12 _) gv_X8_149 yd_X8_goOn ⟨rfl, rfl, Nat.le_of_ble_eq_true rfl, Nat.le_of_ble_eq_true rfl, Nat.zero_le _, Nat.zero_le _⟩ xT_b xT_w hK hP hD hS hA hl.1 rfl (Nat.le_of_ble_eq_true rfl) dX8_refuse_43 8 0 rfl rfl (fun H locs hP hD hS => ?_)
        refine lv_iconst (v := 0) hx hb dX8_refuse_46 (by decide) ?_
        obtain rfl := Option.some.inj hd
        exact my_iret C0 hK hP hD hS dX8_refuse_47
      · replace hd := i_e hd c_5
        refine lv_iconst (v := (-1)) hx hb dX8_refuse_19 (by decide) ?_
        obtain rfl := Option.some.inj hd
        exact my_iret C0 hK hP hD hS dX8_refuse_20
def fX8_keep_135 (n : Nat)  (a : St × Int64 × Int64 × Int32) : Option (St) := ix a.2.2.2 8 (ix a.2.2.2 8 (ix a.2.2.2 8 (some (sA (sL (sL a.1 5 (vp_updL (a.1.2.2 5) a.2.2.2.toNatClampNeg a.2.1)) 6 (vp_updL (a.1.2.2 6) a.2.2.2.toNatClampNeg a.2.2.1)) 14 (upd (a.1.2.1 14) a.2.2.2.toNatClampNeg ((a.1.1 2) + ((a.1.2.1 0) (3 : Int32).toNatClampNeg)))))))
set_option maxHeartbeats 4000000 in
set_option maxRecDepth 100000 in
theorem bX8_keep_135 {p : Program} {l : Launch} {e : Env} {s : State} {m : MethodId} {args : Array Value} {below : List Frame} {meth : Method} {c : Code} {A : Nat → Prop} {dC : Nat → ClassId} {dI : Nat → Nat → Nat} {cI cJ cZ : ClassId} {ad : Nat → Nat} {r : St} {n : Nat} (C0 : cx p s m args meth c cX8_keep 7 RX8 none) (hK : va_K (dC, dI) vwCl (kT cI cJ cZ) s) (hX : xT s) (hA : ∀ q : Nat, s.heap.size ≤ q → A q)  : ∀ (a : St × Int64 × Int64 × Int32), fX8_keep_135 n  a = some r → ∀ (H : Heap) (locs : List Loc) (ls : Array Slot), va_P (dC, dI) vwCl (vX8 cI cJ cZ ad a.1) H → va_D A (vX8 cI cJ cZ ad a.1) → va_S A s.heap H locs → lv_has ls 7 [(0, .ref (ad 0)), (1, .long a.2.1), (3, .long a.2.2.1), (5, .int a.2.2.2)] → W p l e ({ frames := 1, cells := 0, slots := 0, locals := 23 } : Room) s m args below meth c H locs 0 0 (MQ below (qV (dC, dI) (kT cI cJ cZ) (vX8 cI cJ cZ ad r) A) args s 0 0 A) (F0 m 135 ls []) := by
  obtain ⟨hx, hb, hml, hown, hT, hr, hlocks⟩ := id C0
  intro a hd H locs ls hP hD hS hl
  unfold fX8_keep_135 at hd
  refine lv_aload_n hx hb dX8_keep_135 rfl (lv_at hl 0 rfl) ?_
  refine gX8_0_27 C0 hK hP wm_7_0 dX8_keep_136 ?_
  refine lv_iload hx hb dX8_keep_139 (lv_at hl 3 rfl) ?_
  refine lv_lload_n hx hb dX8_keep_141 rfl (lv_at hl 1 rfl) ?_
  obtain ⟨g_7, hd⟩ := ix_some hd
  refine aX8_20 C0 hK hP hD hS rfl g_7 dX8_keep_142 (fun H locs hP hD hS => ?_)
  refine lv_aload_n hx hb dX8_keep_143 rfl (lv_at hl 0 rfl) ?_
  refine gX8_0_28 C0 hK hP wm_7_1 dX8_keep_144 ?_
  refine lv_iload hx hb dX8_keep_147 (lv_at hl 3 rfl) ?_
  refine lv_lload_n hx hb dX8_keep_149 rfl (lv_at hl 2 rfl) ?_
  obtain ⟨g_8, hd⟩ := ix_some hd
  refine aX8_21 C0 hK hP hD hS (sL_n (by decide)) g_8 dX8_keep_150 (fun H locs hP hD hS => ?_)
  refine lv_aload_n hx hb dX8_keep_151 rfl (lv_at hl 0 rfl) ?_
  refine gX8_0_29 C0 hK hP wm_7_2 dX8_keep_152 ?_
  refine lv_iload hx hb dX8_keep_155 (lv_at hl 3 rfl) ?_
  refine lv_aload_n hx hb dX8_keep_157 rfl (lv_at hl 0 rfl) ?_
  refine gX8_0_2 C0 hK hP wm_11_19 ((sL_I).trans (sL_I)) dX8_keep_158 ?_
  refine lv_aload_n hx hb dX8_keep_161 rfl (lv_at hl 0 rfl) ?_
  refine gX8_0_3 C0 hK hP wm_6_5 dX8_keep_162 ?_
  refine lv_iconst (v := 3) hx hb dX8_keep_165 (by decide) ?_
  refine lX8_1 C0 hK hP ((sL_A).trans (sL_A)) (by unfold vp_in; decide) dX8_keep_166 ?_
  refine lv_iadd hx hb dX8_keep_167 ?_
  obtain ⟨g_9, hd⟩ := ix_some hd
  refine aX8_22 C0 hK hP hD hS ((sL_A).trans (sL_A)) g_9 dX8_keep_168 (fun H locs hP hD hS => ?_)
  obtain rfl := Option.some.inj hd
  exact my_vret C0 hK hP hD hS dX8_keep_169
def fX8_keep_127 (n : Nat) (k61 : (St × Int64 × Int64 × Int32 × Int32) → Option (St)) (a : St × Int64 × Int64 × Int32 × Int32) : Option (St) := k61 (a.1, a.2.1, a.2.2.1, a.2.2.2.2, a.2.2.2.1 + 1)
set_option maxHeartbeats 4000000 in
set_option maxRecDepth 100000 in
theorem bX8_keep_127 {p : Program} {l : Launch} {e : Env} {s : State} {m : MethodId} {args : Array Value} {below : List Frame} {meth : Method} {c : Code} {A : Nat → Prop} {dC : Nat → ClassId} {dI : Nat → Nat → Nat} {cI cJ cZ : ClassId} {ad : Nat → Nat} {r : St} {n : Nat} (C0 : cx p s m args meth c cX8_keep 7 RX8 none) (hK : va_K (dC, dI) vwCl (kT cI cJ cZ) s) (hX : xT s) (hA : ∀ q : Nat, s.heap.size ≤ q → A q) (k61 : (St × Int64 × Int64 × Int32 × Int32) → Option (St)) (ih61 : ∀ (a : St × Int64 × Int64 × Int32 × Int32), k61 a = some r → ∀ (H : Heap) (locs : List Loc) (ls : Array Slot), va_P (dC, dI) vwCl (vX8 cI cJ cZ ad a.1) H → va_D A (vX8 cI cJ cZ ad a.1) → va_S A s.heap H locs → lv_has ls 7 [(0, .ref (ad 0)), (1, .long a.2.1), (3, .long a.2.2.1), (5, .int a.2.2.2.1), (6, .int a.2.2.2.2)] → W p l e ({ frames := 1, cells := 0, slots := 0, locals := 23 } : Room) s m args below meth c H locs 0 0 (MQ below (qV (dC, dI) (kT cI cJ cZ) (vX8 cI cJ cZ ad r) A) args s 0 0 A) (F0 m 61 ls [])) : ∀ (a : St × Int64 × Int64 × Int32 × Int32), fX8_keep_127 n k61 a = some r → ∀ (H : Heap) (locs : List Loc) (ls : Array Slot), va_P (dC, dI) vwCl (vX8 cI cJ cZ ad a.1) H → va_D A (vX8 cI cJ cZ ad a.1) → va_S A s.heap H locs → lv_has ls 7 [(0, .ref (ad 0)), (1, .long a.2.1), (3, .long a.2.2.1), (6, .int a.2.2.2.1)] → W p l e ({ frames := 1, cells := 0, slots := 0, locals := 23 } : Room) s m args below meth c H locs 0 0 (MQ below (qV (dC, dI) (kT cI cJ cZ) (vX8 cI cJ cZ ad r) A) args s 0 0 A) (F0 m 127 ls [.int a.2.2.2.2]) := by
  obtain ⟨hx, hb, hml, hown, hT, hr, hlocks⟩ := id C0
  intro a hd H locs ls hP hD hS hl
  unfold fX8_keep_127 at hd
  refine lv_istore (lv' := [(5, .int a.2.2.2.2), (0, .ref (ad 0)), (1, .long a.2.1), (3, .long a.2.2.1), (6, .int a.2.2.2.1)]) hx hb dX8_keep_127 hl (by decide) rfl (fun ls hl => ?_)
  refine lv_iinc (v := a.2.2.2.1 + 1) (lv' := [(6, .int (a.2.2.2.1 + 1)), (5, .int a.2.2.2.2), (0, .ref (ad 0)), (1, .long a.2.1), (3, .long a.2.2.1)]) hx hb dX8_keep_129 hl (k := 4) rfl rfl (by decide) rfl (fun ls hl => ?_)
  refine lv_goto (tgt := 61) hx hb dX8_keep_132 (by decide) ?_
  exact ih61 _ hd _ _ _ hP hD hS (lv_sub hl [2, 3, 4, 1, 0] rfl)
def fX8_keep_120 (n : Nat) (k61 : (St × Int64 × Int64 × Int32 × Int32) → Option (St)) (a : St × Int64 × Int64 × Int32) : Option (St) := fX8_keep_127 n k61 (a.1, a.2.1, a.2.2.1, a.2.2.2, a.2.2.2)
set_option maxHeartbeats 4000000 in
set_option maxRecDepth 100000 in
theorem bX8_keep_120 {p : Program} {l : Launch} {e : Env} {s : State} {m : MethodId} {args : Array Value} {below : List Frame} {meth : Method} {c : Code} {A : Nat → Prop} {dC : Nat → ClassId} {dI : Nat → Nat → Nat} {cI cJ cZ : ClassId} {ad : Nat → Nat} {r : St} {n : Nat} (C0 : cx p s m args meth c cX8_keep 7 RX8 none) (hK : va_K (dC, dI) vwCl (kT cI cJ cZ) s) (hX : xT s) (hA : ∀ q : Nat, s.heap.size ≤ q → A q) (k61 : (St × Int64 × Int64 × Int32 × Int32) → Option (St)) (ih61 : ∀ (a : St × Int64 × Int64 × Int32 × Int32), k61 a = some r → ∀ (H : Heap) (locs : List Loc) (ls : Array Slot), va_P (dC, dI) vwCl (vX8 cI cJ cZ ad a.1) H → va_D A (vX8 cI cJ cZ ad a.1) → va_S A s.heap H locs → lv_has ls 7 [(0, .ref (ad 0)), (1, .long a.2.1), (3, .long a.2.2.1), (5, .int a.2.2.2.1), (6, .int a.2.2.2.2)] → W p l e ({ frames := 1, cells := 0, slots := 0, locals := 23 } : Room) s m args below meth c H locs 0 0 (MQ below (qV (dC, dI) (kT cI cJ cZ) (vX8 cI cJ cZ ad r) A) args s 0 0 A) (F0 m 61 ls [])) : ∀ (a : St × Int64 × Int64 × Int32), fX8_keep_120 n k61 a = some r → ∀ (H : Heap) (locs : List Loc) (ls : Array Slot), va_P (dC, dI) vwCl (vX8 cI cJ cZ ad a.1) H → va_D A (vX8 cI cJ cZ ad a.1) → va_S A s.heap H locs → lv_has ls 7 [(0, .ref (ad 0)), (1, .long a.2.1), (3, .long a.2.2.1), (6, .int a.2.2.2)] → W p l e ({ frames := 1, cells := 0, slots := 0, locals := 23 } : Room) s m args below meth c H locs 0 0 (MQ below (qV (dC, dI) (kT cI cJ cZ) (vX8 cI cJ cZ ad r) A) args s 0 0 A) (F0 m 120 ls []) := by
  obtain ⟨hx, hb, hml, hown, hT, hr, hlocks⟩ := id C0
  intro a hd H locs ls hP hD hS hl
  unfold fX8_keep_120 at hd
  refine lv_iload hx hb dX8_keep_120 (lv_at hl 3 rfl) ?_
  refine lv_goto (tgt := 127) hx hb dX8_keep_122 (by decide) ?_
  exact bX8_keep_127 C0 hK hX hA k61 ih61 _ hd _ _ _ hP hD hS (lv_sub hl [0, 1, 2, 3] rfl)
def fX8_keep_125 (n : Nat) (k61 : (St × Int64 × Int64 × Int32 × Int32) → Option (St)) (a : St × Int64 × Int64 × Int32 × Int32) : Option (St) := fX8_keep_127 n k61 (a.1, a.2.1, a.2.2.1, a.2.2.2.2, a.2.2.2.1)
set_option maxHeartbeats 4000000 in
set_option maxRecDepth 100000 in
theorem bX8_keep_125 {p : Program} {l : Launch} {e : Env} {s : State} {m : MethodId} {args : Array Value} {below : List Frame} {meth : Method} {c : Code} {A : Nat → Prop} {dC : Nat → ClassId} {dI : Nat → Nat → Nat} {cI cJ cZ : ClassId} {ad : Nat → Nat} {r : St} {n : Nat} (C0 : cx p s m args meth c cX8_keep 7 RX8 none) (hK : va_K (dC, dI) vwCl (kT cI cJ cZ) s) (hX : xT s) (hA : ∀ q : Nat, s.heap.size ≤ q → A q) (k61 : (St × Int64 × Int64 × Int32 × Int32) → Option (St)) (ih61 : ∀ (a : St × Int64 × Int64 × Int32 × Int32), k61 a = some r → ∀ (H : Heap) (locs : List Loc) (ls : Array Slot), va_P (dC, dI) vwCl (vX8 cI cJ cZ ad a.1) H → va_D A (vX8 cI cJ cZ ad a.1) → va_S A s.heap H locs → lv_has ls 7 [(0, .ref (ad 0)), (1, .long a.2.1), (3, .long a.2.2.1), (5, .int a.2.2.2.1), (6, .int a.2.2.2.2)] → W p l e ({ frames := 1, cells := 0, slots := 0, locals := 23 } : Room) s m args below meth c H locs 0 0 (MQ below (qV (dC, dI) (kT cI cJ cZ) (vX8 cI cJ cZ ad r) A) args s 0 0 A) (F0 m 61 ls [])) : ∀ (a : St × Int64 × Int64 × Int32 × Int32), fX8_keep_125 n k61 a = some r → ∀ (H : Heap) (locs : List Loc) (ls : Array Slot), va_P (dC, dI) vwCl (vX8 cI cJ cZ ad a.1) H → va_D A (vX8 cI cJ cZ ad a.1) → va_S A s.heap H locs → lv_has ls 7 [(0, .ref (ad 0)), (1, .long a.2.1), (3, .long a.2.2.1), (5, .int a.2.2.2.1), (6, .int a.2.2.2.2)] → W p l e ({ frames := 1, cells := 0, slots := 0, locals := 23 } : Room) s m args below meth c H locs 0 0 (MQ below (qV (dC, dI) (kT cI cJ cZ) (vX8 cI cJ cZ ad r) A) args s 0 0 A) (F0 m 125 ls []) := by
  obtain ⟨hx, hb, hml, hown, hT, hr, hlocks⟩ := id C0
  intro a hd H locs ls hP hD hS hl
  unfold fX8_keep_125 at hd
  refine lv_iload hx hb dX8_keep_125 (lv_at hl 3 rfl) ?_
  exact bX8_keep_127 C0 hK hX hA k61 ih61 _ hd _ _ _ hP hD hS (lv_sub hl [0, 1, 2, 4] rfl)
def fX8_keep_61 (n : Nat) (k61 : (St × Int64 × Int64 × Int32 × Int32) → Option (St)) (a : St × Int64 × Int64 × Int32 × Int32) : Option (St) := if (8 : Int32) ≤ a.2.2.2.2 then (fX8_keep_135 n  (a.1, a.2.1, a.2.2.1, a.2.2.2.1)) else (ix a.2.2.2.2 8 (ix a.2.2.2.1 8 (if ((a.1.2.1 14) a.2.2.2.2.toNatClampNeg) < ((a.1.2.1 14) a.2.2.2.1.toNatClampNeg) then (fX8_keep_120 n k61 (a.1, a.2.1, a.2.2.1, a.2.2.2.2)) else (ix a.2.2.2.2 8 (ix a.2.2.2.1 8 (if ((a.1.2.1 14) a.2.2.2.2.toNatClampNeg) = ((a.1.2.1 14) a.2.2.2.1.toNatClampNeg) then (ix a.2.2.2.2 8 (ix a.2.2.2.1 8 (if ((a.1.2.2 5) a.2.2.2.1.toNatClampNeg) ≤ ((a.1.2.2 5) a.2.2.2.2.toNatClampNeg) then (fX8_keep_125 n k61 (a.1, a.2.1, a.2.2.1, a.2.2.2.1, a.2.2.2.2)) else (fX8_keep_120 n k61 (a.1, a.2.1, a.2.2.1, a.2.2.2.2))))) else (fX8_keep_125 n k61 (a.1, a.2.1, a.2.2.1, a.2.2.2.1, a.2.2.2.2))))))))
set_option maxHeartbeats 4000000 in
set_option maxRecDepth 100000 in
theorem bX8_keep_61 {p : Program} {l : Launch} {e : Env} {s : State} {m : MethodId} {args : Array Value} {below : List Frame} {meth : Method} {c : Code} {A : Nat → Prop} {dC : Nat → ClassId} {dI : Nat → Nat → Nat} {cI cJ cZ : ClassId} {ad : Nat → Nat} {r : St} {n : Nat} (C0 : cx p s m args meth c cX8_keep 7 RX8 none) (hK : va_K (dC, dI) vwCl (kT cI cJ cZ) s) (hX : xT s) (hA : ∀ q : Nat, s.heap.size ≤ q → A q) (k61 : (St × Int64 × Int64 × Int32 × Int32) → Option (St)) (ih61 : ∀ (a : St × Int64 × Int64 × Int32 × Int32), k61 a = some r → ∀ (H : Heap) (locs : List Loc) (ls : Array Slot), va_P (dC, dI) vwCl (vX8 cI cJ cZ ad a.1) H → va_D A (vX8 cI cJ cZ ad a.1) → va_S A s.heap H locs → lv_has ls 7 [(0, .ref (ad 0)), (1, .long a.2.1), (3, .long a.2.2.1), (5, .int a.2.2.2.1), (6, .int a.2.2.2.2)] → W p l e ({ frames := 1, cells := 0, slots := 0, locals := 23 } : Room) s m args below meth c H locs 0 0 (MQ below (qV (dC, dI) (kT cI cJ cZ) (vX8 cI cJ cZ ad r) A) args s 0 0 A) (F0 m 61 ls [])) : ∀ (a : St × Int64 × Int64 × Int32 × Int32), fX8_keep_61 n k61 a = some r → ∀ (H : Heap) (locs : List Loc) (ls : Array Slot), va_P (dC, dI) vwCl (vX8 cI cJ cZ ad a.1) H → va_D A (vX8 cI cJ cZ ad a.1) → va_S A s.heap H locs → lv_has ls 7 [(0, .ref (ad 0)), (1, .long a.2.1), (3, .long a.2.2.1), (5, .int a.2.2.2.1), (6, .int a.2.2.2.2)] → W p l e ({ frames := 1, cells := 0, slots := 0, locals := 23 } : Room) s m args below meth c H locs 0 0 (MQ below (qV (dC, dI) (kT cI cJ cZ) (vX8 cI cJ cZ ad r) A) args s 0 0 A) (F0 m 61 ls []) := by
  obtain ⟨hx, hb, hml, hown, hT, hr, hlocks⟩ := id C0
  intro a hd H locs ls hP hD hS hl
  unfold fX8_keep_61 at hd
  refine lv_iload hx hb dX8_keep_61 (lv_at hl 4 rfl) ?_
  refine lv_bipush (v := 8) hx hb dX8_keep_63 (by decide) ?_
  refine lv_icmp_ge (tgt := 135) hx hb dX8_keep_65 (by decide) (fun c_10 => ?_) (fun c_10 => ?_)
  · replace hd := i_t hd c_10
    exact bX8_keep_135 C0 hK hX hA  _ hd _ _ _ hP hD hS (lv_sub hl [0, 1, 2, 3] rfl)
  · replace hd := i_e hd c_10
    refine lv_aload_n hx hb dX8_keep_68 rfl (lv_at hl 0 rfl) ?_
    refine gX8_0_29 C0 hK hP wm_7_2 dX8_keep_69 ?_
    refine lv_iload hx hb dX8_keep_72 (lv_at hl 4 rfl) ?_
    obtain ⟨g_11, hd⟩ := ix_some hd
    refine lX8_22 C0 hK hP rfl g_11 dX8_keep_74 ?_
    refine lv_aload_n hx hb dX8_keep_75 rfl (lv_at hl 0 rfl) ?_
    refine gX8_0_29 C0 hK hP wm_7_2 dX8_keep_76 ?_
    refine lv_iload hx hb dX8_keep_79 (lv_at hl 3 rfl) ?_
    obtain ⟨g_12, hd⟩ := ix_some hd
    refine lX8_22 C0 hK hP rfl g_12 dX8_keep_81 ?_
    refine lv_icmp_lt (tgt := 120) hx hb dX8_keep_82 (by decide) (fun c_13 => ?_) (fun c_13 => ?_)
    · replace hd := i_t hd c_13
      exact bX8_keep_120 C0 hK hX hA k61 ih61 _ hd _ _ _ hP hD hS (lv_sub hl [0, 1, 2, 4] rfl)
    · replace hd := i_e hd c_13
      refine lv_aload_n hx hb dX8_keep_85 rfl (lv_at hl 0 rfl) ?_
      refine gX8_0_29 C0 hK hP wm_7_2 dX8_keep_86 ?_
      refine lv_iload hx hb dX8_keep_89 (lv_at hl 4 rfl) ?_
      obtain ⟨g_14, hd⟩ := ix_some hd
      refine lX8_22 C0 hK hP rfl g_14 dX8_keep_91 ?_
      refine lv_aload_n hx hb dX8_keep_92 rfl (lv_at hl 0 rfl) ?_
      refine gX8_0_29 C0 hK hP wm_7_2 dX8_keep_93 ?_
      refine lv_iload hx hb dX8_keep_96 (lv_at hl 3 rfl) ?_
      obtain ⟨g_15, hd⟩ := ix_some hd
      refine lX8_22 C0 hK hP rfl g_15 dX8_keep_98 ?_
      refine lv_icmp_ne (tgt := 125) hx hb dX8_keep_99 (by decide) (fun c_16 => ?_) (fun c_16 => ?_)
      · replace hd := i_e hd c_16
        exact bX8_keep_125 C0 hK hX hA k61 ih61 _ hd _ _ _ hP hD hS (lv_sub hl [0, 1, 2, 3, 4] rfl)
      · replace hd := i_t hd c_16
        refine lv_aload_n hx hb dX8_keep_102 rfl (lv_at hl 0 rfl) ?_
        refine gX8_0_27 C0 hK hP wm_7_0 dX8_keep_103 ?_
        refine lv_iload hx hb dX8_keep_106 (lv_at hl 4 rfl) ?_
        obtain ⟨g_17, hd⟩ := ix_some hd
        refine lX8_20 C0 hK hP rfl g_17 dX8_keep_108 ?_
        refine lv_aload_n hx hb dX8_keep_109 rfl (lv_at hl 0 rfl) ?_
        refine gX8_0_27 C0 hK hP wm_7_0 dX8_keep_110 ?_
        refine lv_iload hx hb dX8_keep_113 (lv_at hl 3 rfl) ?_
        obtain ⟨g_18, hd⟩ := ix_some hd
        refine lX8_20 C0 hK hP rfl g_18 dX8_keep_115 ?_
        refine lc_ge (tgt := 125) hx hb dX8_keep_116 dX8_keep_117 (by decide) (fun c_19 => ?_) (fun c_19 => ?_)
        · replace hd := i_t hd c_19
          exact bX8_keep_125 C0 hK hX hA k61 ih61 _ hd _ _ _ hP hD hS (lv_sub hl [0, 1, 2, 3, 4] rfl)
        · replace hd := i_e hd c_19
          exact bX8_keep_120 C0 hK hX hA k61 ih61 _ hd _ _ _ hP hD hS (lv_sub hl [0, 1, 2, 4] rfl)
set_option maxHeartbeats 4000000 in
set_option maxRecDepth 100000 in
theorem oX8_keep_61 {p : Program} {l : Launch} {e : Env} {s : State} {m : MethodId} {args : Array Value} {below : List Frame} {meth : Method} {c : Code} {A : Nat → Prop} {dC : Nat → ClassId} {dI : Nat → Nat → Nat} {cI cJ cZ : ClassId} {ad : Nat → Nat} {r : St} {n : Nat} (C0 : cx p s m args meth c cX8_keep 7 RX8 none) (hK : va_K (dC, dI) vwCl (kT cI cJ cZ) s) (hX : xT s) (hA : ∀ q : Nat, s.heap.size ≤ q → A q)  : ∀ nn : Nat, ∀ (a : St × Int64 × Int64 × Int32 × Int32), loopF (fX8_keep_61 n ) nn a = some r → ∀ (H : Heap) (locs : List Loc) (ls : Array Slot), va_P (dC, dI) vwCl (vX8 cI cJ cZ ad a.1) H → va_D A (vX8 cI cJ cZ ad a.1) → va_S A s.heap H locs → lv_has ls 7 [(0, .ref (ad 0)), (1, .long a.2.1), (3, .long a.2.2.1), (5, .int a.2.2.2.1), (6, .int a.2.2.2.2)] → W p l e ({ frames := 1, cells := 0, slots := 0, locals := 23 } : Room) s m args below meth c H locs 0 0 (MQ below (qV (dC, dI) (kT cI cJ cZ) (vX8 cI cJ cZ ad r) A) args s 0 0 A) (F0 m 61 ls []) := by
  intro nn
  induction nn with
  | zero => intro a hd; cases hd
  | succ nn ih => intro a hd; exact bX8_keep_61 C0 hK hX hA  _ ih a hd
def fX8_keep_50 (n : Nat)  (a : St × Int64 × Int64 × Int32) : Option (St) := if 0 ≤ a.2.2.2 then (fX8_keep_135 n  (a.1, a.2.1, a.2.2.1, a.2.2.2)) else (loopF (fX8_keep_61 n ) n (a.1, a.2.1, a.2.2.1, (0 : Int32), (1 : Int32)))
set_option maxHeartbeats 4000000 in
set_option maxRecDepth 100000 in
theorem bX8_keep_50 {p : Program} {l : Launch} {e : Env} {s : State} {m : MethodId} {args : Array Value} {below : List Frame} {meth : Method} {c : Code} {A : Nat → Prop} {dC : Nat → ClassId} {dI : Nat → Nat → Nat} {cI cJ cZ : ClassId} {ad : Nat → Nat} {r : St} {n : Nat} (C0 : cx p s m args meth c cX8_keep 7 RX8 none) (hK : va_K (dC, dI) vwCl (kT cI cJ cZ) s) (hX : xT s) (hA : ∀ q : Nat, s.heap.size ≤ q → A q)  : ∀ (a : St × Int64 × Int64 × Int32), fX8_keep_50 n  a = some r → ∀ (H : Heap) (locs : List Loc) (ls : Array Slot), va_P (dC, dI) vwCl (vX8 cI cJ cZ ad a.1) H → va_D A (vX8 cI cJ cZ ad a.1) → va_S A s.heap H locs → lv_has ls 7 [(0, .ref (ad 0)), (1, .long a.2.1), (3, .long a.2.2.1), (5, .int a.2.2.2)] → W p l e ({ frames := 1, cells := 0, slots := 0, locals := 23 } : Room) s m args below meth c H locs 0 0 (MQ below (qV (dC, dI) (kT cI cJ cZ) (vX8 cI cJ cZ ad r) A) args s 0 0 A) (F0 m 50 ls []) := by
  obtain ⟨hx, hb, hml, hown, hT, hr, hlocks⟩ := id C0
  intro a hd H locs ls hP hD hS hl
  unfold fX8_keep_50 at hd
  refine lv_iload hx hb dX8_keep_50 (lv_at hl 3 rfl) ?_
  refine lv_if_ge (tgt := 135) hx hb dX8_keep_52 (by decide) (fun c_6 => ?_) (fun c_6 => ?_)
  · replace hd := i_t hd c_6
    exact bX8_keep_135 C0 hK hX hA  _ hd _ _ _ hP hD hS (lv_sub hl [0, 1, 2, 3] rfl)
  · replace hd := i_e hd c_6
    refine lv_iconst (v := 0) hx hb dX8_keep_55 (by decide) ?_
    refine lv_istore (lv' := [(5, .int (0 : Int32)), (0, .ref (ad 0)), (1, .long a.2.1), (3, .long a.2.2.1)]) hx hb dX8_keep_56 hl (by decide) rfl (fun ls hl => ?_)
    refine lv_iconst (v := 1) hx hb dX8_keep_58 (by decide) ?_
    refine lv_istore (lv' := [(6, .int (1 : Int32)), (5, .int (0 : Int32)), (0, .ref (ad 0)), (1, .long a.2.1), (3, .long a.2.2.1)]) hx hb dX8_keep_59 hl (by decide) rfl (fun ls hl => ?_)
    exact oX8_keep_61 C0 hK hX hA  _ _ hd _ _ _ hP hD hS (lv_sub hl [2, 3, 4, 1, 0] rfl)
def fX8_keep (n : Nat) (σ : St) (p1 : Int64) (p3 : Int64) : Option (St) := if ((σ.2.1 0) (3 : Int32).toNatClampNeg) = 0 then (some σ) else ((fX8_keptFor n σ p1).bind (fun u_2 => if 0 ≤ u_2 then (fX8_keep_50 n  (σ, p1, p3, u_2)) else (if (8 : Int32) ≤ (σ.1 8) then (fX8_keep_50 n  (σ, p1, p3, u_2)) else (fX8_keep_135 n  (sI σ 8 ((σ.1 8) + (1 : Int32)), p1, p3, σ.1 8)))))
set_option maxHeartbeats 4000000 in
set_option maxRecDepth 100000 in
theorem mX8_keep (l : Launch) (dC : Nat → ClassId) (dI : Nat → Nat → Nat) (cI cJ cZ : ClassId) (ad : Nat → Nat) (n : Nat) (σ : St) (p1 : Int64) (p3 : Int64) {r : St} (hd : fX8_keep n σ p1 p3 = some r) (sz : Nat)  : Met l yX8_keep (wS yX8_keep cX8_keep 7 none) { frames := 1, cells := 0, slots := 0, locals := 23 } (pC (dC, dI) (kT cI cJ cZ) xT (vX8 cI cJ cZ ad σ) sz [.ref (ad 0), .long p1, .long p3]) (qV (dC, dI) (kT cI cJ cZ) (vX8 cI cJ cZ ad r) (va_A (vX8 cI cJ cZ ad σ) sz)) 0 0 (va_A (vX8 cI cJ cZ ad σ) sz) := by
  refine my_ent (fun A => qV (dC, dI) (kT cI cJ cZ) (vX8 cI cJ cZ ad r) A) (by decide) (Nat.le_of_ble_eq_true rfl) ?_
  intro p e s m below meth c A hAe hnm C0 hK hX hP hD hA hS ls hl
  obtain ⟨hx, hb, hml, hown, hT, hr, hlocks⟩ := id C0
  unfold fX8_keep at hd
  have hl : lv_has ls 7 [(0, .ref (ad 0)), (1, .long p1), (3, .long p3)] := hl
  refine lv_aload_n hx hb dX8_keep_0 rfl (lv_at hl 0 rfl) ?_
  refine gX8_0_3 C0 hK hP wm_6_5 dX8_keep_1 ?_
  refine lv_iconst (v := 3) hx hb dX8_keep_4 (by decide) ?_
  refine lX8_1 C0 hK hP rfl (by unfold vp_in; decide) dX8_keep_5 ?_
  refine lv_if_ne (tgt := 10) hx hb dX8_keep_6 (by decide) (fun c_1 => ?_) (fun c_1 => ?_)
  · replace hd := i_e hd c_1
    refine lv_aload_n hx hb dX8_keep_10 rfl (lv_at hl 0 rfl) ?_
    refine lv_lload_n hx hb dX8_keep_11 rfl (lv_at hl 1 rfl) ?_
    obtain ⟨u_2, hc_3, hd⟩ := bd hd
    refine cw_i (rest := []) C0 (mX8_keptFor l dC dI cI cJ cZ ad n σ p1 hc_3 _) gv_X8_121 yd_X8_keptFor ⟨rfl, rfl, Nat.le_of_ble_eq_true rfl, Nat.le_of_ble_eq_true rfl, Nat.zero_le _, Nat.zero_le _⟩ xT_b xT_w hK hP hD hS hA hl.1 rfl (Nat.le_of_ble_eq_true rfl) dX8_keep_12 8 0 rfl rfl (fun H locs hP hD hS => ?_)
    refine lv_istore (lv' := [(5, .int u_2), (0, .ref (ad 0)), (1, .long p1), (3, .long p3)]) hx hb dX8_keep_15 hl (by decide) rfl (fun ls hl => ?_)
    refine lv_iload hx hb dX8_keep_17 (lv_at hl 0 rfl) ?_
    refine lv_if_ge (tgt := 50) hx hb dX8_keep_19 (by decide) (fun c_4 => ?_) (fun c_4 => ?_)
    · replace hd := i_t hd c_4
      exact bX8_keep_50 C0 hK hX hA  _ hd _ _ _ hP hD hS (lv_sub hl [1, 2, 3, 0] rfl)
    · replace hd := i_e hd c_4
      refine lv_aload_n hx hb dX8_keep_22 rfl (lv_at hl 1 rfl) ?_
      refine gX8_0_30 C0 hK hP wm_12_13 rfl dX8_keep_23 ?_
      refine lv_bipush (v := 8) hx hb dX8_keep_26 (by decide) ?_
      refine lv_icmp_ge (tgt := 50) hx hb dX8_keep_28 (by decide) (fun c_5 => ?_) (fun c_5 => ?_)
      · replace hd := i_t hd c_5
        exact bX8_keep_50 C0 hK hX hA  _ hd _ _ _ hP hD hS (lv_sub hl [1, 2, 3, 0] rfl)
      · replace hd := i_e hd c_5
        refine lv_aload_n hx hb dX8_keep_31 rfl (lv_at hl 1 rfl) ?_
        refine gX8_0_30 C0 hK hP wm_12_13 rfl dX8_keep_32 ?_
        refine lv_istore (lv' := [(5, .int (σ.1 8)), (0, .ref (ad 0)), (1, .long p1), (3, .long p3)]) hx hb dX8_keep_35 hl (by decide) rfl (fun ls hl => ?_)
        refine lv_aload_n hx hb dX8_keep_37 rfl (lv_at hl 1 rfl) ?_
        refine lv_dup hx hb dX8_keep_38 rfl ?_
        refine gX8_0_30 C0 hK hP wm_12_13 rfl dX8_keep_39 ?_
        refine lv_iconst (v := 1) hx hb dX8_keep_42 (by decide) ?_
        refine lv_iadd hx hb dX8_keep_43 ?_
        refine pX8_0_30 C0 hK hP hD hS wm_12_13 dX8_keep_44 (fun H locs hP hD hS => ?_)
        refine lv_goto (tgt := 135) hx hb dX8_keep_47 (by decide) ?_
        exact bX8_keep_135 C0 hK hX hA  _ hd _ _ _ hP hD hS (lv_sub hl [1, 2, 3, 0] rfl)
  · replace hd := i_t hd c_1
    obtain rfl := Option.some.inj hd
    exact my_vret C0 hK hP hD hS dX8_keep_9
def fX8_arrive_175 (n : Nat)  (a : St × Int32) : Option (Int32 × St) := (fX8_goOn n a.1).bind (fun u_26 => if a.2 = 0 then (some ((0 : Int32), u_26)) else (some ((1 : Int32), u_26)))
set_option maxHeartbeats 4000000 in
set_option maxRecDepth 100000 in
theorem bX8_arrive_175 {p : Program} {l : Launch} {e : Env} {s : State} {m : MethodId} {args : Array Value} {below : List Frame} {meth : Method} {c : Code} {A : Nat → Prop} {dC : Nat → ClassId} {dI : Nat → Nat → Nat} {cI cJ cZ : ClassId} {ad : Nat → Nat} {r : Int32 × St} {n : Nat} (C0 : cx p s m args meth c cX8_arrive 9 RX8 (some .int)) (hK : va_K (dC, dI) vwCl (kT cI cJ cZ) s) (hX : xT s) (hA : ∀ q : Nat, s.heap.size ≤ q → A q)  : ∀ (a : St × Int32), fX8_arrive_175 n  a = some r → ∀ (H : Heap) (locs : List Loc) (ls : Array Slot), va_P (dC, dI) vwCl (vX8 cI cJ cZ ad a.1) H → va_D A (vX8 cI cJ cZ ad a.1) → va_S A s.heap H locs → lv_has ls 9 [(0, .ref (ad 0)), (6, .int a.2)] → W p l e ({ frames := 4, cells := 0, slots := 0, locals := 91 } : Room) s m args below meth c H locs 0 0 (MQ below (qI (dC, dI) (kT cI cJ cZ) (vX8 cI cJ cZ ad r.2) A r.1) args s 0 0 A) (F0 m 175 ls []) := by
  obtain ⟨hx, hb, hml, hown, hT, hr, hlocks⟩ := id C0
  intro a hd H locs ls hP hD hS hl
  unfold fX8_arrive_175 at hd
  refine lv_aload_n hx hb dX8_arrive_175 rfl (lv_at hl 0 rfl) ?_
  obtain ⟨u_26, hc_27, hd⟩ := bd hd
  refine cw_v (rest := []) C0 (mX8_goOn l dC dI cI cJ cZ ad n a.1  hc_27 _) gv_X8_149 yd_X8_goOn ⟨rfl, rfl, Nat.le_of_ble_eq_true rfl, Nat.le_of_ble_eq_true rfl, Nat.zero_le _, Nat.zero_le _⟩ xT_b xT_w hK hP hD hS hA hl.1 rfl (Nat.le_of_ble_eq_true rfl) dX8_arrive_176 8 0 rfl rfl (fun H locs hP hD hS => ?_)
  refine lv_iload hx hb dX8_arrive_179 (lv_at hl 1 rfl) ?_
  refine lv_if_eq (tgt := 188) hx hb dX8_arrive_181 (by decide) (fun c_28 => ?_) (fun c_28 => ?_)
  · replace hd := i_t hd c_28
    refine lv_iconst (v := 0) hx hb dX8_arrive_188 (by decide) ?_
    obtain rfl := Option.some.inj hd
    exact my_iret C0 hK hP hD hS dX8_arrive_189
  · replace hd := i_e hd c_28
    refine lv_iconst (v := 1) hx hb dX8_arrive_184 (by decide) ?_
    refine lv_goto (tgt := 189) hx hb dX8_arrive_185 (by decide) ?_
    obtain rfl := Option.some.inj hd
    exact my_iret C0 hK hP hD hS dX8_arrive_189
def fX8_arrive_169 (n : Nat)  (a : St × Int32 × Int32 × Int64) : Option (Int32 × St) := (fX8_settle n a.1 a.2.1 a.2.2.1 a.2.2.2).bind (fun u_33 => fX8_arrive_175 n  (u_33, (1 : Int32)))
set_option maxHeartbeats 4000000 in
set_option maxRecDepth 100000 in
theorem bX8_arrive_169 {p : Program} {l : Launch} {e : Env} {s : State} {m : MethodId} {args : Array Value} {below : List Frame} {meth : Method} {c : Code} {A : Nat → Prop} {dC : Nat → ClassId} {dI : Nat → Nat → Nat} {cI cJ cZ : ClassId} {ad : Nat → Nat} {r : Int32 × St} {n : Nat} (C0 : cx p s m args meth c cX8_arrive 9 RX8 (some .int)) (hK : va_K (dC, dI) vwCl (kT cI cJ cZ) s) (hX : xT s) (hA : ∀ q : Nat, s.heap.size ≤ q → A q)  : ∀ (a : St × Int32 × Int32 × Int64), fX8_arrive_169 n  a = some r → ∀ (H : Heap) (locs : List Loc) (ls : Array Slot), va_P (dC, dI) vwCl (vX8 cI cJ cZ ad a.1) H → va_D A (vX8 cI cJ cZ ad a.1) → va_S A s.heap H locs → lv_has ls 9 [(0, .ref (ad 0))] → W p l e ({ frames := 4, cells := 0, slots := 0, locals := 91 } : Room) s m args below meth c H locs 0 0 (MQ below (qI (dC, dI) (kT cI cJ cZ) (vX8 cI cJ cZ ad r.2) A r.1) args s 0 0 A) (F0 m 169 ls [.long a.2.2.2, .int a.2.2.1, .int a.2.1, .ref (ad 0)]) := by
  obtain ⟨hx, hb, hml, hown, hT, hr, hlocks⟩ := id C0
  intro a hd H locs ls hP hD hS hl
  unfold fX8_arrive_169 at hd
  obtain ⟨u_33, hc_34, hd⟩ := bd hd
  refine cw_v (rest := []) C0 (mX8_settle l dC dI cI cJ cZ ad n a.1 a.2.1 a.2.2.1 a.2.2.2 hc_34 _) gv_X8_128 yd_X8_settle ⟨rfl, rfl, Nat.le_of_ble_eq_true rfl, Nat.le_of_ble_eq_true rfl, Nat.zero_le _, Nat.zero_le _⟩ xT_b xT_w hK hP hD hS hA hl.1 rfl (Nat.le_of_ble_eq_true rfl) dX8_arrive_169 8 0 rfl rfl (fun H locs hP hD hS => ?_)
  refine lv_iconst (v := 1) hx hb dX8_arrive_172 (by decide) ?_
  refine lv_istore (lv' := [(6, .int (1 : Int32)), (0, .ref (ad 0))]) hx hb dX8_arrive_173 hl (by decide) rfl (fun ls hl => ?_)
  exact bX8_arrive_175 C0 hK hX hA  _ hd _ _ _ hP hD hS (lv_sub hl [1, 0] rfl)
def fX8_arrive_158 (n : Nat)  (a : St × Int32 × Int32 × Int32 × Int32) : Option (Int32 × St) := if a.2.2.1 = 0 then (fX8_arrive_169 n  (a.1, a.2.2.2.1, a.2.2.2.2, (0 : Int64))) else (fX8_arrive_169 n  (a.1, a.2.2.2.1, a.2.2.2.2, a.2.1.toInt64))
set_option maxHeartbeats 4000000 in
set_option maxRecDepth 100000 in
theorem bX8_arrive_158 {p : Program} {l : Launch} {e : Env} {s : State} {m : MethodId} {args : Array Value} {below : List Frame} {meth : Method} {c : Code} {A : Nat → Prop} {dC : Nat → ClassId} {dI : Nat → Nat → Nat} {cI cJ cZ : ClassId} {ad : Nat → Nat} {r : Int32 × St} {n : Nat} (C0 : cx p s m args meth c cX8_arrive 9 RX8 (some .int)) (hK : va_K (dC, dI) vwCl (kT cI cJ cZ) s) (hX : xT s) (hA : ∀ q : Nat, s.heap.size ≤ q → A q)  : ∀ (a : St × Int32 × Int32 × Int32 × Int32), fX8_arrive_158 n  a = some r → ∀ (H : Heap) (locs : List Loc) (ls : Array Slot), va_P (dC, dI) vwCl (vX8 cI cJ cZ ad a.1) H → va_D A (vX8 cI cJ cZ ad a.1) → va_S A s.heap H locs → lv_has ls 9 [(0, .ref (ad 0)), (3, .int a.2.1), (8, .int a.2.2.1)] → W p l e ({ frames := 4, cells := 0, slots := 0, locals := 91 } : Room) s m args below meth c H locs 0 0 (MQ below (qI (dC, dI) (kT cI cJ cZ) (vX8 cI cJ cZ ad r.2) A r.1) args s 0 0 A) (F0 m 158 ls [.int a.2.2.2.2, .int a.2.2.2.1, .ref (ad 0)]) := by
  obtain ⟨hx, hb, hml, hown, hT, hr, hlocks⟩ := id C0
  intro a hd H locs ls hP hD hS hl
  unfold fX8_arrive_158 at hd
  refine lv_iload hx hb dX8_arrive_158 (lv_at hl 2 rfl) ?_
  refine lv_if_eq (tgt := 168) hx hb dX8_arrive_160 (by decide) (fun c_32 => ?_) (fun c_32 => ?_)
  · replace hd := i_t hd c_32
    refine lv_lconst (v := 0) hx hb dX8_arrive_168 (by decide) ?_
    exact bX8_arrive_169 C0 hK hX hA  _ hd _ _ _ hP hD hS (lv_sub hl [0] rfl)
  · replace hd := i_e hd c_32
    refine lv_iload_n hx hb dX8_arrive_163 rfl (lv_at hl 1 rfl) ?_
    refine lv_i2l (v := a.2.1.toInt64) hx hb dX8_arrive_164 rfl ?_
    refine lv_goto (tgt := 169) hx hb dX8_arrive_165 (by decide) ?_
    exact bX8_arrive_169 C0 hK hX hA  _ hd _ _ _ hP hD hS (lv_sub hl [0] rfl)
def fX8_arrive_146 (n : Nat)  (a : St × Int32 × Int32 × Int32) : Option (Int32 × St) := if a.2.2.2 = 0 then (fX8_arrive_158 n  (a.1, a.2.2.1, a.2.2.2, a.2.1, (4 : Int32))) else (fX8_arrive_158 n  (a.1, a.2.2.1, a.2.2.2, a.2.1, (2 : Int32)))
set_option maxHeartbeats 4000000 in
set_option maxRecDepth 100000 in
theorem bX8_arrive_146 {p : Program} {l : Launch} {e : Env} {s : State} {m : MethodId} {args : Array Value} {below : List Frame} {meth : Method} {c : Code} {A : Nat → Prop} {dC : Nat → ClassId} {dI : Nat → Nat → Nat} {cI cJ cZ : ClassId} {ad : Nat → Nat} {r : Int32 × St} {n : Nat} (C0 : cx p s m args meth c cX8_arrive 9 RX8 (some .int)) (hK : va_K (dC, dI) vwCl (kT cI cJ cZ) s) (hX : xT s) (hA : ∀ q : Nat, s.heap.size ≤ q → A q)  : ∀ (a : St × Int32 × Int32 × Int32), fX8_arrive_146 n  a = some r → ∀ (H : Heap) (locs : List Loc) (ls : Array Slot), va_P (dC, dI) vwCl (vX8 cI cJ cZ ad a.1) H → va_D A (vX8 cI cJ cZ ad a.1) → va_S A s.heap H locs → lv_has ls 9 [(0, .ref (ad 0)), (2, .int a.2.1), (3, .int a.2.2.1), (8, .int a.2.2.2)] → W p l e ({ frames := 4, cells := 0, slots := 0, locals := 91 } : Room) s m args below meth c H locs 0 0 (MQ below (qI (dC, dI) (kT cI cJ cZ) (vX8 cI cJ cZ ad r.2) A r.1) args s 0 0 A) (F0 m 146 ls []) := by
  obtain ⟨hx, hb, hml, hown, hT, hr, hlocks⟩ := id C0
  intro a hd H locs ls hP hD hS hl
  unfold fX8_arrive_146 at hd
  refine lv_aload_n hx hb dX8_arrive_146 rfl (lv_at hl 0 rfl) ?_
  refine lv_iload_n hx hb dX8_arrive_147 rfl (lv_at hl 1 rfl) ?_
  refine lv_iload hx hb dX8_arrive_148 (lv_at hl 3 rfl) ?_
  refine lv_if_eq (tgt := 157) hx hb dX8_arrive_150 (by decide) (fun c_31 => ?_) (fun c_31 => ?_)
  · replace hd := i_t hd c_31
    refine lv_iconst (v := 4) hx hb dX8_arrive_157 (by decide) ?_
    exact bX8_arrive_158 C0 hK hX hA  _ hd _ _ _ hP hD hS (lv_sub hl [0, 2, 3] rfl)
  · replace hd := i_e hd c_31
    refine lv_iconst (v := 2) hx hb dX8_arrive_153 (by decide) ?_
    refine lv_goto (tgt := 158) hx hb dX8_arrive_154 (by decide) ?_
    exact bX8_arrive_158 C0 hK hX hA  _ hd _ _ _ hP hD hS (lv_sub hl [0, 2, 3] rfl)
def fX8_arrive_133 (n : Nat)  (a : St × Int32 × Int32 × Int32 × Int32 × Int32) : Option (Int32 × St) := if a.2.2.2.2.2 = 0 then (if a.2.2.2.2.1 = (2 : Int32) then (fX8_arrive_146 n  (a.1, a.2.1, a.2.2.1, a.2.2.2.2.2)) else (fX8_arrive_175 n  (a.1, a.2.2.2.1))) else (fX8_arrive_146 n  (a.1, a.2.1, a.2.2.1, a.2.2.2.2.2))
set_option maxHeartbeats 4000000 in
set_option maxRecDepth 100000 in
theorem bX8_arrive_133 {p : Program} {l : Launch} {e : Env} {s : State} {m : MethodId} {args : Array Value} {below : List Frame} {meth : Method} {c : Code} {A : Nat → Prop} {dC : Nat → ClassId} {dI : Nat → Nat → Nat} {cI cJ cZ : ClassId} {ad : Nat → Nat} {r : Int32 × St} {n : Nat} (C0 : cx p s m args meth c cX8_arrive 9 RX8 (some .int)) (hK : va_K (dC, dI) vwCl (kT cI cJ cZ) s) (hX : xT s) (hA : ∀ q : Nat, s.heap.size ≤ q → A q)  : ∀ (a : St × Int32 × Int32 × Int32 × Int32 × Int32), fX8_arrive_133 n  a = some r → ∀ (H : Heap) (locs : List Loc) (ls : Array Slot), va_P (dC, dI) vwCl (vX8 cI cJ cZ ad a.1) H → va_D A (vX8 cI cJ cZ ad a.1) → va_S A s.heap H locs → lv_has ls 9 [(0, .ref (ad 0)), (2, .int a.2.1), (3, .int a.2.2.1), (6, .int a.2.2.2.1), (7, .int a.2.2.2.2.1)] → W p l e ({ frames := 4, cells := 0, slots := 0, locals := 91 } : Room) s m args below meth c H locs 0 0 (MQ below (qI (dC, dI) (kT cI cJ cZ) (vX8 cI cJ cZ ad r.2) A r.1) args s 0 0 A) (F0 m 133 ls [.int a.2.2.2.2.2]) := by
  obtain ⟨hx, hb, hml, hown, hT, hr, hlocks⟩ := id C0
  intro a hd H locs ls hP hD hS hl
  unfold fX8_arrive_133 at hd
  refine lv_istore (lv' := [(8, .int a.2.2.2.2.2), (0, .ref (ad 0)), (2, .int a.2.1), (3, .int a.2.2.1), (6, .int a.2.2.2.1), (7, .int a.2.2.2.2.1)]) hx hb dX8_arrive_133 hl (by decide) rfl (fun ls hl => ?_)
  refine lv_iload hx hb dX8_arrive_135 (lv_at hl 0 rfl) ?_
  refine lv_if_ne (tgt := 146) hx hb dX8_arrive_137 (by decide) (fun c_29 => ?_) (fun c_29 => ?_)
  · replace hd := i_e hd c_29
    exact bX8_arrive_146 C0 hK hX hA  _ hd _ _ _ hP hD hS (lv_sub hl [1, 2, 3, 0] rfl)
  · replace hd := i_t hd c_29
    refine lv_iload hx hb dX8_arrive_140 (lv_at hl 5 rfl) ?_
    refine lv_iconst (v := 2) hx hb dX8_arrive_142 (by decide) ?_
    refine lv_icmp_ne (tgt := 175) hx hb dX8_arrive_143 (by decide) (fun c_30 => ?_) (fun c_30 => ?_)
    · replace hd := i_e hd c_30
      exact bX8_arrive_175 C0 hK hX hA  _ hd _ _ _ hP hD hS (lv_sub hl [1, 4] rfl)
    · replace hd := i_t hd c_30
      exact bX8_arrive_146 C0 hK hX hA  _ hd _ _ _ hP hD hS (lv_sub hl [1, 2, 3, 0] rfl)
def fX8_arrive_128 (n : Nat)  (a : St × Int32 × Int32 × Int32 × Int32) : Option (Int32 × St) := fX8_arrive_133 n  (a.1, a.2.1, a.2.2.1, a.2.2.2.1, a.2.2.2.2, (1 : Int32))
set_option maxHeartbeats 4000000 in
set_option maxRecDepth 100000 in
theorem bX8_arrive_128 {p : Program} {l : Launch} {e : Env} {s : State} {m : MethodId} {args : Array Value} {below : List Frame} {meth : Method} {c : Code} {A : Nat → Prop} {dC : Nat → ClassId} {dI : Nat → Nat → Nat} {cI cJ cZ : ClassId} {ad : Nat → Nat} {r : Int32 × St} {n : Nat} (C0 : cx p s m args meth c cX8_arrive 9 RX8 (some .int)) (hK : va_K (dC, dI) vwCl (kT cI cJ cZ) s) (hX : xT s) (hA : ∀ q : Nat, s.heap.size ≤ q → A q)  : ∀ (a : St × Int32 × Int32 × Int32 × Int32), fX8_arrive_128 n  a = some r → ∀ (H : Heap) (locs : List Loc) (ls : Array Slot), va_P (dC, dI) vwCl (vX8 cI cJ cZ ad a.1) H → va_D A (vX8 cI cJ cZ ad a.1) → va_S A s.heap H locs → lv_has ls 9 [(0, .ref (ad 0)), (2, .int a.2.1), (3, .int a.2.2.1), (6, .int a.2.2.2.1), (7, .int a.2.2.2.2)] → W p l e ({ frames := 4, cells := 0, slots := 0, locals := 91 } : Room) s m args below meth c H locs 0 0 (MQ below (qI (dC, dI) (kT cI cJ cZ) (vX8 cI cJ cZ ad r.2) A r.1) args s 0 0 A) (F0 m 128 ls []) := by
  obtain ⟨hx, hb, hml, hown, hT, hr, hlocks⟩ := id C0
  intro a hd H locs ls hP hD hS hl
  unfold fX8_arrive_128 at hd
  refine lv_iconst (v := 1) hx hb dX8_arrive_128 (by decide) ?_
  refine lv_goto (tgt := 133) hx hb dX8_arrive_129 (by decide) ?_
  exact bX8_arrive_133 C0 hK hX hA  _ hd _ _ _ hP hD hS (lv_sub hl [0, 1, 2, 3, 4] rfl)
def fX8_arrive_132 (n : Nat)  (a : St × Int32 × Int32 × Int32 × Int32) : Option (Int32 × St) := fX8_arrive_133 n  (a.1, a.2.1, a.2.2.1, a.2.2.2.1, a.2.2.2.2, (0 : Int32))
set_option maxHeartbeats 4000000 in
set_option maxRecDepth 100000 in
theorem bX8_arrive_132 {p : Program} {l : Launch} {e : Env} {s : State} {m : MethodId} {args : Array Value} {below : List Frame} {meth : Method} {c : Code} {A : Nat → Prop} {dC : Nat → ClassId} {dI : Nat → Nat → Nat} {cI cJ cZ : ClassId} {ad : Nat → Nat} {r : Int32 × St} {n : Nat} (C0 : cx p s m args meth c cX8_arrive 9 RX8 (some .int)) (hK : va_K (dC, dI) vwCl (kT cI cJ cZ) s) (hX : xT s) (hA : ∀ q : Nat, s.heap.size ≤ q → A q)  : ∀ (a : St × Int32 × Int32 × Int32 × Int32), fX8_arrive_132 n  a = some r → ∀ (H : Heap) (locs : List Loc) (ls : Array Slot), va_P (dC, dI) vwCl (vX8 cI cJ cZ ad a.1) H → va_D A (vX8 cI cJ cZ ad a.1) → va_S A s.heap H locs → lv_has ls 9 [(0, .ref (ad 0)), (2, .int a.2.1), (3, .int a.2.2.1), (6, .int a.2.2.2.1), (7, .int a.2.2.2.2)] → W p l e ({ frames := 4, cells := 0, slots := 0, locals := 91 } : Room) s m args below meth c H locs 0 0 (MQ below (qI (dC, dI) (kT cI cJ cZ) (vX8 cI cJ cZ ad r.2) A r.1) args s 0 0 A) (F0 m 132 ls []) := by
  obtain ⟨hx, hb, hml, hown, hT, hr, hlocks⟩ := id C0
  intro a hd H locs ls hP hD hS hl
  unfold fX8_arrive_132 at hd
  refine lv_iconst (v := 0) hx hb dX8_arrive_132 (by decide) ?_
  exact bX8_arrive_133 C0 hK hX hA  _ hd _ _ _ hP hD hS (lv_sub hl [0, 1, 2, 3, 4] rfl)
def fX8_arrive (n : Nat) (σ : St) (p1 : Int32) : Option (Int32 × St) := (fX8_isUnder σ (1 : Int32) p1).bind (fun u_1 => if u_1 = 0 then (some ((-1 : Int32), σ)) else (ix ((100 : Int32) + p1) 200 (ix ((100 : Int32) + p1) 200 (ix ((100 : Int32) + p1) 200 ((fX8_take n σ (1 : Int32) p1).bind (fun u_7 => ix ((σ.2.1 9) ((100 : Int32) + p1).toNatClampNeg) 300 (if ((u_7.2.1 2) ((σ.2.1 9) ((100 : Int32) + p1).toNatClampNeg).toNatClampNeg) = (1 : Int32) then (if ((σ.2.1 10) ((100 : Int32) + p1).toNatClampNeg) = 0 then ((fX8_settle n u_7 ((σ.2.1 9) ((100 : Int32) + p1).toNatClampNeg) (0 : Int32) ((σ.2.2 3) ((100 : Int32) + p1).toNatClampNeg)).bind (fun u_21 => ix ((σ.2.1 9) ((100 : Int32) + p1).toNatClampNeg) 300 ((fX8_keep n u_21 ((u_21.2.2 0) ((σ.2.1 9) ((100 : Int32) + p1).toNatClampNeg).toNatClampNeg) ((σ.2.2 3) ((100 : Int32) + p1).toNatClampNeg)).bind (fun u_24 => fX8_arrive_175 n  (u_24, (1 : Int32)))))) else (ix ((3 : Int32) + ((σ.2.1 10) ((100 : Int32) + p1).toNatClampNeg)) 8 (if ((u_7.2.1 0) ((3 : Int32) + ((σ.2.1 10) ((100 : Int32) + p1).toNatClampNeg)).toNatClampNeg) = 0 then (fX8_arrive_128 n  (u_7, (σ.2.1 9) ((100 : Int32) + p1).toNatClampNeg, (σ.2.1 10) ((100 : Int32) + p1).toNatClampNeg, (0 : Int32), (u_7.2.1 0) ((3 : Int32) + ((σ.2.1 10) ((100 : Int32) + p1).toNatClampNeg)).toNatClampNeg)) else (if ((u_7.2.1 0) ((3 : Int32) + ((σ.2.1 10) ((100 : Int32) + p1).toNatClampNeg)).toNatClampNeg) = (1 : Int32) then ((fX8_placeInQueue n u_7 ((σ.2.1 9) ((100 : Int32) + p1).toNatClampNeg)).bind (fun u_15 => if 0 ≤ u_15 then (fX8_arrive_132 n  (u_7, (σ.2.1 9) ((100 : Int32) + p1).toNatClampNeg, (σ.2.1 10) ((100 : Int32) + p1).toNatClampNeg, (0 : Int32), (u_7.2.1 0) ((3 : Int32) + ((σ.2.1 10) ((100 : Int32) + p1).toNatClampNeg)).toNatClampNeg)) else ((fX8_again u_7 ((σ.2.1 9) ((100 : Int32) + p1).toNatClampNeg)).bind (fun u_18 => if u_18.1 = 0 then (fX8_arrive_128 n  (u_18.2, (σ.2.1 9) ((100 : Int32) + p1).toNatClampNeg, (σ.2.1 10) ((100 : Int32) + p1).toNatClampNeg, (0 : Int32), (u_7.2.1 0) ((3 : Int32) + ((σ.2.1 10) ((100 : Int32) + p1).toNatClampNeg)).toNatClampNeg)) else (fX8_arrive_132 n  (u_18.2, (σ.2.1 9) ((100 : Int32) + p1).toNatClampNeg, (σ.2.1 10) ((100 : Int32) + p1).toNatClampNeg, (0 : Int32), (u_7.2.1 0) ((3 : Int32) + ((σ.2.1 10) ((100 : Int32) + p1).toNatClampNeg)).toNatClampNeg)))))) else (fX8_arrive_132 n  (u_7, (σ.2.1 9) ((100 : Int32) + p1).toNatClampNeg, (σ.2.1 10) ((100 : Int32) + p1).toNatClampNeg, (0 : Int32), (u_7.2.1 0) ((3 : Int32) + ((σ.2.1 10) ((100 : Int32) + p1).toNatClampNeg)).toNatClampNeg)))))) else (fX8_arrive_175 n  (u_7, (0 : Int32))))))))))
set_option maxHeartbeats 4000000 in
set_option maxRecDepth 100000 in
theorem mX8_arrive (l : Launch) (dC : Nat → ClassId) (dI : Nat → Nat → Nat) (cI cJ cZ : ClassId) (ad : Nat → Nat) (n : Nat) (σ : St) (p1 : Int32) {r : Int32 × St} (hd : fX8_arrive n σ p1 = some r) (sz : Nat)  : Met l yX8_arrive (wS yX8_arrive cX8_arrive 9 (some .int)) { frames := 4, cells := 0, slots := 0, locals := 91 } (pC (dC, dI) (kT cI cJ cZ) xT (vX8 cI cJ cZ ad σ) sz [.ref (ad 0), .int p1]) (qI (dC, dI) (kT cI cJ cZ) (vX8 cI cJ cZ ad r.2) (va_A (vX8 cI cJ cZ ad σ) sz) r.1) 0 0 (va_A (vX8 cI cJ cZ ad σ) sz) := by
  refine my_ent (fun A => qI (dC, dI) (kT cI cJ cZ) (vX8 cI cJ cZ ad r.2) A r.1) (by decide) (Nat.le_of_ble_eq_true rfl) ?_
  intro p e s m below meth c A hAe hnm C0 hK hX hP hD hA hS ls hl
  obtain ⟨hx, hb, hml, hown, hT, hr, hlocks⟩ := id C0
  unfold fX8_arrive at hd
  have hl : lv_has ls 9 [(0, .ref (ad 0)), (1, .int p1)] := hl
  refine lv_aload_n hx hb dX8_arrive_0 rfl (lv_at hl 0 rfl) ?_
  refine lv_iconst (v := 1) hx hb dX8_arrive_1 (by decide) ?_
  refine lv_iload_n hx hb dX8_arrive_2 rfl (lv_at hl 1 rfl) ?_
  obtain ⟨u_1, hc_2, hd⟩ := bd hd
  refine cw_i (rest := []) C0 (mX8_isUnder l dC dI cI cJ cZ ad σ (1 : Int32) p1 hc_2 _) gv_X8_161 yd_X8_isUnder ⟨rfl, rfl, Nat.le_of_ble_eq_true rfl, Nat.le_of_ble_eq_true rfl, Nat.zero_le _, Nat.zero_le _⟩ xT_b xT_w hK hP hD hS hA hl.1 rfl (Nat.le_of_ble_eq_true rfl) dX8_arrive_3 8 0 rfl rfl (fun H locs hP hD hS => ?_)
  refine lv_if_ne (tgt := 11) hx hb dX8_arrive_6 (by decide) (fun c_3 => ?_) (fun c_3 => ?_)
  · replace hd := i_e hd c_3
    refine lv_aload_n hx hb dX8_arrive_11 rfl (lv_at hl 0 rfl) ?_
    refine gX8_0_20 C0 hK hP wm_6_17 dX8_arrive_12 ?_
    refine lv_bipush (v := 100) hx hb dX8_arrive_15 (by decide) ?_
    refine lv_iload_n hx hb dX8_arrive_17 rfl (lv_at hl 1 rfl) ?_
    refine lv_iadd hx hb dX8_arrive_18 ?_
    obtain ⟨g_4, hd⟩ := ix_some hd
    refine lX8_13 C0 hK hP rfl g_4 dX8_arrive_19 ?_
    refine lv_istore_n (lv' := [(2, .int ((σ.2.1 9) ((100 : Int32) + p1).toNatClampNeg)), (0, .ref (ad 0)), (1, .int p1)]) hx hb dX8_arrive_20 rfl hl (by decide) rfl (fun ls hl => ?_)
    refine lv_aload_n hx hb dX8_arrive_21 rfl (lv_at hl 1 rfl) ?_
    refine gX8_0_21 C0 hK hP wm_6_18 dX8_arrive_22 ?_
    refine lv_bipush (v := 100) hx hb dX8_arrive_25 (by decide) ?_
    refine lv_iload_n hx hb dX8_arrive_27 rfl (lv_at hl 2 rfl) ?_
    refine lv_iadd hx hb dX8_arrive_28 ?_
    obtain ⟨g_5, hd⟩ := ix_some hd
    refine lX8_14 C0 hK hP rfl g_5 dX8_arrive_29 ?_
    refine lv_istore_n (lv' := [(3, .int ((σ.2.1 10) ((100 : Int32) + p1).toNatClampNeg)), (2, .int ((σ.2.1 9) ((100 : Int32) + p1).toNatClampNeg)), (0, .ref (ad 0)), (1, .int p1)]) hx hb dX8_arrive_30 rfl hl (by decide) rfl (fun ls hl => ?_)
    refine lv_aload_n hx hb dX8_arrive_31 rfl (lv_at hl 2 rfl) ?_
    refine gX8_0_22 C0 hK hP wm_6_19 dX8_arrive_32 ?_
    refine lv_bipush (v := 100) hx hb dX8_arrive_35 (by decide) ?_
    refine lv_iload_n hx hb dX8_arrive_37 rfl (lv_at hl 3 rfl) ?_
    refine lv_iadd hx hb dX8_arrive_38 ?_
    obtain ⟨g_6, hd⟩ := ix_some hd
    refine lX8_15 C0 hK hP rfl g_6 dX8_arrive_39 ?_
    refine lv_lstore (lv' := [(4, .long ((σ.2.2 3) ((100 : Int32) + p1).toNatClampNeg)), (3, .int ((σ.2.1 10) ((100 : Int32) + p1).toNatClampNeg)), (2, .int ((σ.2.1 9) ((100 : Int32) + p1).toNatClampNeg)), (0, .ref (ad 0)), (1, .int p1)]) hx hb dX8_arrive_40 hl (by decide) rfl (fun ls hl => ?_)
    refine lv_aload_n hx hb dX8_arrive_42 rfl (lv_at hl 3 rfl) ?_
    refine lv_iconst (v := 1) hx hb dX8_arrive_43 (by decide) ?_
    refine lv_iload_n hx hb dX8_arrive_44 rfl (lv_at hl 4 rfl) ?_
    obtain ⟨u_7, hc_8, hd⟩ := bd hd
    refine cw_v (rest := []) C0 (mX8_take l dC dI cI cJ cZ ad n σ (1 : Int32) p1 hc_8 _) gv_X8_165 yd_X8_take ⟨rfl, rfl, Nat.le_of_ble_eq_true rfl, Nat.le_of_ble_eq_true rfl, Nat.zero_le _, Nat.zero_le _⟩ xT_b xT_w hK hP hD hS hA hl.1 rfl (Nat.le_of_ble_eq_true rfl) dX8_arrive_45 8 0 rfl rfl (fun H locs hP hD hS => ?_)
    refine lv_iconst (v := 0) hx hb dX8_arrive_48 (by decide) ?_
    refine lv_istore (lv' := [(6, .int (0 : Int32)), (4, .long ((σ.2.2 3) ((100 : Int32) + p1).toNatClampNeg)), (3, .int ((σ.2.1 10) ((100 : Int32) + p1).toNatClampNeg)), (2, .int ((σ.2.1 9) ((100 : Int32) + p1).toNatClampNeg)), (0, .ref (ad 0)), (1, .int p1)]) hx hb dX8_arrive_49 hl (by decide) rfl (fun ls hl => ?_)
    refine lv_aload_n hx hb dX8_arrive_51 rfl (lv_at hl 4 rfl) ?_
    refine gX8_0_8 C0 hK hP wm_6_9 dX8_arrive_52 ?_
    refine lv_iload_n hx hb dX8_arrive_55 rfl (lv_at hl 3 rfl) ?_
    obtain ⟨g_9, hd⟩ := ix_some hd
    refine lX8_5 C0 hK hP rfl g_9 dX8_arrive_56 ?_
    refine lv_iconst (v := 1) hx hb dX8_arrive_57 (by decide) ?_
    refine lv_icmp_ne (tgt := 175) hx hb dX8_arrive_58 (by decide) (fun c_10 => ?_) (fun c_10 => ?_)
    · replace hd := i_e hd c_10
      exact bX8_arrive_175 C0 hK hX hA  _ hd _ _ _ hP hD hS (lv_sub hl [4, 0] rfl)
    · replace hd := i_t hd c_10
      refine lv_iload_n hx hb dX8_arrive_61 rfl (lv_at hl 2 rfl) ?_
      refine lv_if_ne (tgt := 91) hx hb dX8_arrive_62 (by decide) (fun c_11 => ?_) (fun c_11 => ?_)
      · replace hd := i_e hd c_11
        refine lv_aload_n hx hb dX8_arrive_91 rfl (lv_at hl 4 rfl) ?_
        refine gX8_0_3 C0 hK hP wm_6_5 dX8_arrive_92 ?_
        refine lv_iconst (v := 3) hx hb dX8_arrive_95 (by decide) ?_
        refine lv_iload_n hx hb dX8_arrive_96 rfl (lv_at hl 2 rfl) ?_
        refine lv_iadd hx hb dX8_arrive_97 ?_
        obtain ⟨g_12, hd⟩ := ix_some hd
        refine lX8_1 C0 hK hP rfl g_12 dX8_arrive_98 ?_
        refine lv_istore (lv' := [(7, .int ((u_7.2.1 0) ((3 : Int32) + ((σ.2.1 10) ((100 : Int32) + p1).toNatClampNeg)).toNatClampNeg)), (6, .int (0 : Int32)), (4, .long ((σ.2.2 3) ((100 : Int32) + p1).toNatClampNeg)), (3, .int ((σ.2.1 10) ((100 : Int32) + p1).toNatClampNeg)), (2, .int ((σ.2.1 9) ((100 : Int32) + p1).toNatClampNeg)), (0, .ref (ad 0)), (1, .int p1)]) hx hb dX8_arrive_99 hl (by decide) rfl (fun ls hl => ?_)
        refine lv_iload hx hb dX8_arrive_101 (lv_at hl 0 rfl) ?_
        refine lv_if_eq (tgt := 128) hx hb dX8_arrive_103 (by decide) (fun c_13 => ?_) (fun c_13 => ?_)
        · replace hd := i_t hd c_13
          exact bX8_arrive_128 C0 hK hX hA  _ hd _ _ _ hP hD hS (lv_sub hl [5, 4, 3, 1, 0] rfl)
        · replace hd := i_e hd c_13
          refine lv_iload hx hb dX8_arrive_106 (lv_at hl 0 rfl) ?_
          refine lv_iconst (v := 1) hx hb dX8_arrive_108 (by decide) ?_
          refine lv_icmp_ne (tgt := 132) hx hb dX8_arrive_109 (by decide) (fun c_14 => ?_) (fun c_14 => ?_)
          · replace hd := i_e hd c_14
            exact bX8_arrive_132 C0 hK hX hA  _ hd _ _ _ hP hD hS (lv_sub hl [5, 4, 3, 1, 0] rfl)
          · replace hd := i_t hd c_14
            refine lv_aload_n hx hb dX8_arrive_112 rfl (lv_at hl 5 rfl) ?_
            refine lv_iload_n hx hb dX8_arrive_113 rfl (lv_at hl 4 rfl) ?_
            obtain ⟨u_15, hc_16, hd⟩ := bd hd
            refine cw_i (rest := []) C0 (mX8_placeInQueue l dC dI cI cJ cZ ad n u_7 ((σ.2.1 9) ((100 : Int32) + p1).toNatClampNeg) hc_16 _) gv_X8_111 yd_X8_placeInQueue ⟨rfl, rfl, Nat.le_of_ble_eq_true rfl, Nat.le_of_ble_eq_true rfl, Nat.zero_le _, Nat.zero_le _⟩ xT_b xT_w hK hP hD hS hA hl.1 rfl (Nat.le_of_ble_eq_true rfl) dX8_arrive_114 8 0 rfl rfl (fun H locs hP hD hS => ?_)
            refine lv_if_ge (tgt := 132) hx hb dX8_arrive_117 (by decide) (fun c_17 => ?_) (fun c_17 => ?_)
            · replace hd := i_t hd c_17
              exact bX8_arrive_132 C0 hK hX hA  _ hd _ _ _ hP hD hS (lv_sub hl [5, 4, 3, 1, 0] rfl)
            · replace hd := i_e hd c_17
              refine lv_aload_n hx hb dX8_arrive_120 rfl (lv_at hl 5 rfl) ?_
              refine lv_iload_n hx hb dX8_arrive_121 rfl (lv_at hl 4 rfl) ?_
              obtain ⟨u_18, hc_19, hd⟩ := bd hd
              refine cw_i (rest := []) C0 (mX8_again l dC dI cI cJ cZ ad u_7 ((σ.2.1 9) ((100 : Int32) + p1).toNatClampNeg) hc_19 _) gv_X8_157 yd_X8_again ⟨rfl, rfl, Nat.le_of_ble_eq_true rfl, Nat.le_of_ble_eq_true rfl, Nat.zero_le _, Nat.zero_le _⟩ xT_b xT_w hK hP hD hS hA hl.1 rfl (Nat.le_of_ble_eq_true rfl) dX8_arrive_122 8 0 rfl rfl (fun H locs hP hD hS => ?_)
              refine lv_if_ne (tgt := 132) hx hb dX8_arrive_125 (by decide) (fun c_20 => ?_) (fun c_20 => ?_)
              · replace hd := i_e hd c_20
                exact bX8_arrive_132 C0 hK hX hA  _ hd _ _ _ hP hD hS (lv_sub hl [5, 4, 3, 1, 0] rfl)
              · replace hd := i_t hd c_20
                exact bX8_arrive_128 C0 hK hX hA  _ hd _ _ _ hP hD hS (lv_sub hl [5, 4, 3, 1, 0] rfl)
      · replace hd := i_t hd c_11
        refine lv_aload_n hx hb dX8_arrive_65 rfl (lv_at hl 4 rfl) ?_
        refine lv_iload_n hx hb dX8_arrive_66 rfl (lv_at hl 3 rfl) ?_
        refine lv_iconst (v := 0) hx hb dX8_arrive_67 (by decide) ?_
        refine lv_lload hx hb dX8_arrive_68 (lv_at hl 1 rfl) ?_
        obtain ⟨u_21, hc_22, hd⟩ := bd hd
        refine cw_v (rest := []) C0 (mX8_settle l dC dI cI cJ cZ ad n u_7 ((σ.2.1 9) ((100 : Int32) + p1).toNatClampNeg) (0 : Int32) ((σ.2.2 3) ((100 : Int32) + p1).toNatClampNeg) hc_22 _) gv_X8_128 yd_X8_settle ⟨rfl, rfl, Nat.le_of_ble_eq_true rfl, Nat.le_of_ble_eq_true rfl, Nat.zero_le _, Nat.zero_le _⟩ xT_b xT_w hK hP hD hS hA hl.1 rfl (Nat.le_of_ble_eq_true rfl) dX8_arrive_70 8 0 rfl rfl (fun H locs hP hD hS => ?_)
        refine lv_aload_n hx hb dX8_arrive_73 rfl (lv_at hl 4 rfl) ?_
        refine lv_aload_n hx hb dX8_arrive_74 rfl (lv_at hl 4 rfl) ?_
        refine gX8_0_6 C0 hK hP wm_6_7 dX8_arrive_75 ?_
        refine lv_iload_n hx hb dX8_arrive_78 rfl (lv_at hl 3 rfl) ?_
        obtain ⟨g_23, hd⟩ := ix_some hd
        refine lX8_3 C0 hK hP rfl g_23 dX8_arrive_79 ?_
        refine lv_lload hx hb dX8_arrive_80 (lv_at hl 1 rfl) ?_
        obtain ⟨u_24, hc_25, hd⟩ := bd hd
        refine cw_v (rest := []) C0 (mX8_keep l dC dI cI cJ cZ ad n u_21 ((u_21.2.2 0) ((σ.2.1 9) ((100 : Int32) + p1).toNatClampNeg).toNatClampNeg) ((σ.2.2 3) ((100 : Int32) + p1).toNatClampNeg) hc_25 _) gv_X8_172 yd_X8_keep ⟨rfl, rfl, Nat.le_of_ble_eq_true rfl, Nat.le_of_ble_eq_true rfl, Nat.zero_le _, Nat.zero_le _⟩ xT_b xT_w hK hP hD hS hA hl.1 rfl (Nat.le_of_ble_eq_true rfl) dX8_arrive_82 8 0 rfl rfl (fun H locs hP hD hS => ?_)
        refine lv_iconst (v := 1) hx hb dX8_arrive_85 (by decide) ?_
        refine lv_istore (lv' := [(6, .int (1 : Int32)), (4, .long ((σ.2.2 3) ((100 : Int32) + p1).toNatClampNeg)), (3, .int ((σ.2.1 10) ((100 : Int32) + p1).toNatClampNeg)), (2, .int ((σ.2.1 9) ((100 : Int32) + p1).toNatClampNeg)), (0, .ref (ad 0)), (1, .int p1)]) hx hb dX8_arrive_86 hl (by decide) rfl (fun ls hl => ?_)
        refine lv_goto (tgt := 175) hx hb dX8_arrive_88 (by decide) ?_
        exact bX8_arrive_175 C0 hK hX hA  _ hd _ _ _ hP hD hS (lv_sub hl [4, 0] rfl)
  · replace hd := i_t hd c_3
    refine lv_iconst (v := (-1)) hx hb dX8_arrive_9 (by decide) ?_
    obtain rfl := Option.some.inj hd
    exact my_iret C0 hK hP hD hS dX8_arrive_10
def fX8_lose (n : Nat) (σ : St) (p1 : Int32) (p2 : Int32) : Option (Int32 × St) := (fX8_isUnder σ p1 p2).bind (fun u_1 => if u_1 = 0 then (some ((-1 : Int32), σ)) else ((fX8_take n σ p1 p2).bind (fun u_4 => (fX8_goOn n u_4).bind (fun u_6 => ix p1 2 (some ((u_6.2.1 11) p1.toNatClampNeg, u_6))))))
set_option maxHeartbeats 4000000 in
set_option maxRecDepth 100000 in
theorem mX8_lose (l : Launch) (dC : Nat → ClassId) (dI : Nat → Nat → Nat) (cI cJ cZ : ClassId) (ad : Nat → Nat) (n : Nat) (σ : St) (p1 : Int32) (p2 : Int32) {r : Int32 × St} (hd : fX8_lose n σ p1 p2 = some r) (sz : Nat)  : Met l yX8_lose (wS yX8_lose cX8_lose 3 (some .int)) { frames := 4, cells := 0, slots := 0, locals := 91 } (pC (dC, dI) (kT cI cJ cZ) xT (vX8 cI cJ cZ ad σ) sz [.ref (ad 0), .int p1, .int p2]) (qI (dC, dI) (kT cI cJ cZ) (vX8 cI cJ cZ ad r.2) (va_A (vX8 cI cJ cZ ad σ) sz) r.1) 0 0 (va_A (vX8 cI cJ cZ ad σ) sz) := by
  refine my_ent (fun A => qI (dC, dI) (kT cI cJ cZ) (vX8 cI cJ cZ ad r.2) A r.1) (by decide) (Nat.le_of_ble_eq_true rfl) ?_
  intro p e s m below meth c A hAe hnm C0 hK hX hP hD hA hS ls hl
  obtain ⟨hx, hb, hml, hown, hT, hr, hlocks⟩ := id C0
  unfold fX8_lose at hd
  have hl : lv_has ls 3 [(0, .ref (ad 0)), (1, .int p1), (2, .int p2)] := hl
  refine lv_aload_n hx hb dX8_lose_0 rfl (lv_at hl 0 rfl) ?_
  refine lv_iload_n hx hb dX8_lose_1 rfl (lv_at hl 1 rfl) ?_
  refine lv_iload_n hx hb dX8_lose_2 rfl (lv_at hl 2 rfl) ?_
  obtain ⟨u_1, hc_2, hd⟩ := bd hd
  refine cw_i (rest := []) C0 (mX8_isUnder l dC dI cI cJ cZ ad σ p1 p2 hc_2 _) gv_X8_161 yd_X8_isUnder ⟨rfl, rfl, Nat.le_of_ble_eq_true rfl, Nat.le_of_ble_eq_true rfl, Nat.zero_le _, Nat.zero_le _⟩ xT_b xT_w hK hP hD hS hA hl.1 rfl (Nat.le_of_ble_eq_true rfl) dX8_lose_3 8 0 rfl rfl (fun H locs hP hD hS => ?_)
  refine lv_if_ne (tgt := 11) hx hb dX8_lose_6 (by decide) (fun c_3 => ?_) (fun c_3 => ?_)
  · replace hd := i_e hd c_3
    refine lv_aload_n hx hb dX8_lose_11 rfl (lv_at hl 0 rfl) ?_
    refine lv_iload_n hx hb dX8_lose_12 rfl (lv_at hl 1 rfl) ?_
    refine lv_iload_n hx hb dX8_lose_13 rfl (lv_at hl 2 rfl) ?_
    obtain ⟨u_4, hc_5, hd⟩ := bd hd
    refine cw_v (rest := []) C0 (mX8_take l dC dI cI cJ cZ ad n σ p1 p2 hc_5 _) gv_X8_165 yd_X8_take ⟨rfl, rfl, Nat.le_of_ble_eq_true rfl, Nat.le_of_ble_eq_true rfl, Nat.zero_le _, Nat.zero_le _⟩ xT_b xT_w hK hP hD hS hA hl.1 rfl (Nat.le_of_ble_eq_true rfl) dX8_lose_14 8 0 rfl rfl (fun H locs hP hD hS => ?_)
    refine lv_aload_n hx hb dX8_lose_17 rfl (lv_at hl 0 rfl) ?_
    obtain ⟨u_6, hc_7, hd⟩ := bd hd
    refine cw_v (rest := []) C0 (mX8_goOn l dC dI cI cJ cZ ad n u_4  hc_7 _) gv_X8_149 yd_X8_goOn ⟨rfl, rfl, Nat.le_of_ble_eq_true rfl, Nat.le_of_ble_eq_true rfl, Nat.zero_le _, Nat.zero_le _⟩ xT_b xT_w hK hP hD hS hA hl.1 rfl (Nat.le_of_ble_eq_true rfl) dX8_lose_18 8 0 rfl rfl (fun H locs hP hD hS => ?_)
    refine lv_aload_n hx hb dX8_lose_21 rfl (lv_at hl 0 rfl) ?_
    refine gX8_0_23 C0 hK hP wm_6_20 dX8_lose_22 ?_
    refine lv_iload_n hx hb dX8_lose_25 rfl (lv_at hl 1 rfl) ?_
    obtain ⟨g_8, hd⟩ := ix_some hd
    refine lX8_16 C0 hK hP rfl g_8 dX8_lose_26 ?_
    obtain rfl := Option.some.inj hd
    exact my_iret C0 hK hP hD hS dX8_lose_27
  · replace hd := i_t hd c_3
    refine lv_iconst (v := (-1)) hx hb dX8_lose_9 (by decide) ?_
    obtain rfl := Option.some.inj hd
    exact my_iret C0 hK hP hD hS dX8_lose_10
def fX8_twice (n : Nat) (σ : St) (p1 : Int32) (p2 : Int32) : Option (Int32 × St) := (fX8_isUnder σ p1 p2).bind (fun u_1 => if u_1 = 0 then (some ((-1 : Int32), σ)) else (ix p1 2 (if ((σ.2.1 11) p1.toNatClampNeg) = (100 : Int32) then (some ((-4 : Int32), σ)) else (ix (((100 : Int32) * p1) + p2) 200 (ix (((100 : Int32) * p1) + p2) 200 (ix (((100 : Int32) * p1) + p2) 200 ((fX8_send σ p1 ((σ.2.1 9) (((100 : Int32) * p1) + p2).toNatClampNeg) ((σ.2.1 10) (((100 : Int32) * p1) + p2).toNatClampNeg) ((σ.2.2 3) (((100 : Int32) * p1) + p2).toNatClampNeg)).bind (fun u_9 => (fX8_goOn n u_9).bind (fun u_11 => ix p1 2 (some ((u_11.2.1 11) p1.toNatClampNeg, u_11)))))))))))
set_option maxHeartbeats 4000000 in
set_option maxRecDepth 100000 in
theorem mX8_twice (l : Launch) (dC : Nat → ClassId) (dI : Nat → Nat → Nat) (cI cJ cZ : ClassId) (ad : Nat → Nat) (n : Nat) (σ : St) (p1 : Int32) (p2 : Int32) {r : Int32 × St} (hd : fX8_twice n σ p1 p2 = some r) (sz : Nat)  : Met l yX8_twice (wS yX8_twice cX8_twice 4 (some .int)) { frames := 4, cells := 0, slots := 0, locals := 91 } (pC (dC, dI) (kT cI cJ cZ) xT (vX8 cI cJ cZ ad σ) sz [.ref (ad 0), .int p1, .int p2]) (qI (dC, dI) (kT cI cJ cZ) (vX8 cI cJ cZ ad r.2) (va_A (vX8 cI cJ cZ ad σ) sz) r.1) 0 0 (va_A (vX8 cI cJ cZ ad σ) sz) := by
  refine my_ent (fun A => qI (dC, dI) (kT cI cJ cZ) (vX8 cI cJ cZ ad r.2) A r.1) (by decide) (Nat.le_of_ble_eq_true rfl) ?_
  intro p e s m below meth c A hAe hnm C0 hK hX hP hD hA hS ls hl
  obtain ⟨hx, hb, hml, hown, hT, hr, hlocks⟩ := id C0
  unfold fX8_twice at hd
  have hl : lv_has ls 4 [(0, .ref (ad 0)), (1, .int p1), (2, .int p2)] := hl
  refine lv_aload_n hx hb dX8_twice_0 rfl (lv_at hl 0 rfl) ?_
  refine lv_iload_n hx hb dX8_twice_1 rfl (lv_at hl 1 rfl) ?_
  refine lv_iload_n hx hb dX8_twice_2 rfl (lv_at hl 2 rfl) ?_
  obtain ⟨u_1, hc_2, hd⟩ := bd hd
  refine cw_i (rest := []) C0 (mX8_isUnder l dC dI cI cJ cZ ad σ p1 p2 hc_2 _) gv_X8_161 yd_X8_isUnder ⟨rfl, rfl, Nat.le_of_ble_eq_true rfl, Nat.le_of_ble_eq_true rfl, Nat.zero_le _, Nat.zero_le _⟩ xT_b xT_w hK hP hD hS hA hl.1 rfl (Nat.le_of_ble_eq_true rfl) dX8_twice_3 8 0 rfl rfl (fun H locs hP hD hS => ?_)
  refine lv_if_ne (tgt := 11) hx hb dX8_twice_6 (by decide) (fun c_3 => ?_) (fun c_3 => ?_)
  · replace hd := i_e hd c_3
    refine lv_aload_n hx hb dX8_twice_11 rfl (lv_at hl 0 rfl) ?_
    refine gX8_0_23 C0 hK hP wm_6_20 dX8_twice_12 ?_
    refine lv_iload_n hx hb dX8_twice_15 rfl (lv_at hl 1 rfl) ?_
    obtain ⟨g_4, hd⟩ := ix_some hd
    refine lX8_16 C0 hK hP rfl g_4 dX8_twice_16 ?_
    refine lv_bipush (v := 100) hx hb dX8_twice_17 (by decide) ?_
    refine lv_icmp_ne (tgt := 25) hx hb dX8_twice_19 (by decide) (fun c_5 => ?_) (fun c_5 => ?_)
    · replace hd := i_e hd c_5
      refine lv_bipush (v := 100) hx hb dX8_twice_25 (by decide) ?_
      refine lv_iload_n hx hb dX8_twice_27 rfl (lv_at hl 1 rfl) ?_
      refine lv_imul hx hb dX8_twice_28 ?_
      refine lv_iload_n hx hb dX8_twice_29 rfl (lv_at hl 2 rfl) ?_
      refine lv_iadd hx hb dX8_twice_30 ?_
      refine lv_istore_n (lv' := [(3, .int (((100 : Int32) * p1) + p2)), (0, .ref (ad 0)), (1, .int p1), (2, .int p2)]) hx hb dX8_twice_31 rfl hl (by decide) rfl (fun ls hl => ?_)
      refine lv_aload_n hx hb dX8_twice_32 rfl (lv_at hl 1 rfl) ?_
      refine lv_iload_n hx hb dX8_twice_33 rfl (lv_at hl 2 rfl) ?_
      refine lv_aload_n hx hb dX8_twice_34 rfl (lv_at hl 1 rfl) ?_
      refine gX8_0_20 C0 hK hP wm_6_17 dX8_twice_35 ?_
      refine lv_iload_n hx hb dX8_twice_38 rfl (lv_at hl 0 rfl) ?_
      obtain ⟨g_6, hd⟩ := ix_some hd
      refine lX8_13 C0 hK hP rfl g_6 dX8_twice_39 ?_
      refine lv_aload_n hx hb dX8_twice_40 rfl (lv_at hl 1 rfl) ?_
      refine gX8_0_21 C0 hK hP wm_6_18 dX8_twice_41 ?_
      refine lv_iload_n hx hb dX8_twice_44 rfl (lv_at hl 0 rfl) ?_
      obtain ⟨g_7, hd⟩ := ix_some hd
      refine lX8_14 C0 hK hP rfl g_7 dX8_twice_45 ?_
      refine lv_aload_n hx hb dX8_twice_46 rfl (lv_at hl 1 rfl) ?_
      refine gX8_0_22 C0 hK hP wm_6_19 dX8_twice_47 ?_
      refine lv_iload_n hx hb dX8_twice_50 rfl (lv_at hl 0 rfl) ?_
      obtain ⟨g_8, hd⟩ := ix_some hd
      refine lX8_15 C0 hK hP rfl g_8 dX8_twice_51 ?_
      obtain ⟨u_9, hc_10, hd⟩ := bd hd
      refine cw_v (rest := []) C0 (mX8_send l dC dI cI cJ cZ ad σ p1 ((σ.2.1 9) (((100 : Int32) * p1) + p2).toNatClampNeg) ((σ.2.1 10) (((100 : Int32) * p1) + p2).toNatClampNeg) ((σ.2.2 3) (((100 : Int32) * p1) + p2).toNatClampNeg) hc_10 _) gv_X8_138 yd_X8_send ⟨rfl, rfl, Nat.le_of_ble_eq_true rfl, Nat.le_of_ble_eq_true rfl, Nat.zero_le _, Nat.zero_le _⟩ xT_b xT_w hK hP hD hS hA hl.1 rfl (Nat.le_of_ble_eq_true rfl) dX8_twice_52 8 0 rfl rfl (fun H locs hP hD hS => ?_)
      refine lv_aload_n hx hb dX8_twice_55 rfl (lv_at hl 1 rfl) ?_
      obtain ⟨u_11, hc_12, hd⟩ := bd hd
      refine cw_v (rest := []) C0 (mX8_goOn l dC dI cI cJ cZ ad n u_9  hc_12 _) gv_X8_149 yd_X8_goOn ⟨rfl, rfl, Nat.le_of_ble_eq_true rfl, Nat.le_of_ble_eq_true rfl, Nat.zero_le _, Nat.zero_le _⟩ xT_b xT_w hK hP hD hS hA hl.1 rfl (Nat.le_of_ble_eq_true rfl) dX8_twice_56 8 0 rfl rfl (fun H locs hP hD hS => ?_)
      refine lv_aload_n hx hb dX8_twice_59 rfl (lv_at hl 1 rfl) ?_
      refine gX8_0_23 C0 hK hP wm_6_20 dX8_twice_60 ?_
      refine lv_iload_n hx hb dX8_twice_63 rfl (lv_at hl 2 rfl) ?_
      obtain ⟨g_13, hd⟩ := ix_some hd
      refine lX8_16 C0 hK hP rfl g_13 dX8_twice_64 ?_
      obtain rfl := Option.some.inj hd
      exact my_iret C0 hK hP hD hS dX8_twice_65
    · replace hd := i_t hd c_5
      refine lv_bipush (v := (-4)) hx hb dX8_twice_22 (by decide) ?_
      obtain rfl := Option.some.inj hd
      exact my_iret C0 hK hP hD hS dX8_twice_24
  · replace hd := i_t hd c_3
    refine lv_iconst (v := (-1)) hx hb dX8_twice_9 (by decide) ?_
    obtain rfl := Option.some.inj hd
    exact my_iret C0 hK hP hD hS dX8_twice_10
def fX8_under (σ : St) (p1 : Int32) (p2 : Int32) : Option (Int32) := (fX8_isUnder σ p1 p2).bind (fun u_1 => if u_1 = 0 then (some (-1 : Int32)) else (ix (((100 : Int32) * p1) + p2) 200 (some ((σ.2.1 9) (((100 : Int32) * p1) + p2).toNatClampNeg))))
set_option maxHeartbeats 4000000 in
set_option maxRecDepth 100000 in
theorem mX8_under (l : Launch) (dC : Nat → ClassId) (dI : Nat → Nat → Nat) (cI cJ cZ : ClassId) (ad : Nat → Nat) (σ : St) (p1 : Int32) (p2 : Int32) {r : Int32} (hd : fX8_under σ p1 p2 = some r) (sz : Nat)  : Met l yX8_under (wS yX8_under cX8_under 3 (some .int)) { frames := 1, cells := 0, slots := 0, locals := 22 } (pC (dC, dI) (kT cI cJ cZ) xT (vX8 cI cJ cZ ad σ) sz [.ref (ad 0), .int p1, .int p2]) (qI (dC, dI) (kT cI cJ cZ) (vX8 cI cJ cZ ad σ) (va_A (vX8 cI cJ cZ ad σ) sz) r) 0 0 (va_A (vX8 cI cJ cZ ad σ) sz) := by
  refine my_ent (fun A => qI (dC, dI) (kT cI cJ cZ) (vX8 cI cJ cZ ad σ) A r) (by decide) (Nat.le_of_ble_eq_true rfl) ?_
  intro p e s m below meth c A hAe hnm C0 hK hX hP hD hA hS ls hl
  obtain ⟨hx, hb, hml, hown, hT, hr, hlocks⟩ := id C0
  unfold fX8_under at hd
  have hl : lv_has ls 3 [(0, .ref (ad 0)), (1, .int p1), (2, .int p2)] := hl
  refine lv_aload_n hx hb dX8_under_0 rfl (lv_at hl 0 rfl) ?_
  refine lv_iload_n hx hb dX8_under_1 rfl (lv_at hl 1 rfl) ?_
  refine lv_iload_n hx hb dX8_under_2 rfl (lv_at hl 2 rfl) ?_
  obtain ⟨u_1, hc_2, hd⟩ := bd hd
  refine cw_i (rest := []) C0 (mX8_isUnder l dC dI cI cJ cZ ad σ p1 p2 hc_2 _) gv_X8_161 yd_X8_isUnder ⟨rfl, rfl, Nat.le_of_ble_eq_true rfl, Nat.le_of_ble_eq_true rfl, Nat.zero_le _, Nat.zero_le _⟩ xT_b xT_w hK hP hD hS hA hl.1 rfl (Nat.le_of_ble_eq_true rfl) dX8_under_3 8 0 rfl rfl (fun H locs hP hD hS => ?_)
  refine lv_if_eq (tgt := 23) hx hb dX8_under_6 (by decide) (fun c_3 => ?_) (fun c_3 => ?_)
  · replace hd := i_t hd c_3
    refine lv_iconst (v := (-1)) hx hb dX8_under_23 (by decide) ?_
    obtain rfl := Option.some.inj hd
    exact my_iret C0 hK hP hD hS dX8_under_24
  · replace hd := i_e hd c_3
    refine lv_aload_n hx hb dX8_under_9 rfl (lv_at hl 0 rfl) ?_
    refine gX8_0_20 C0 hK hP wm_6_17 dX8_under_10 ?_
    refine lv_bipush (v := 100) hx hb dX8_under_13 (by decide) ?_
    refine lv_iload_n hx hb dX8_under_15 rfl (lv_at hl 1 rfl) ?_
    refine lv_imul hx hb dX8_under_16 ?_
    refine lv_iload_n hx hb dX8_under_17 rfl (lv_at hl 2 rfl) ?_
    refine lv_iadd hx hb dX8_under_18 ?_
    obtain ⟨g_4, hd⟩ := ix_some hd
    refine lX8_13 C0 hK hP rfl g_4 dX8_under_19 ?_
    refine lv_goto (tgt := 24) hx hb dX8_under_20 (by decide) ?_
    obtain rfl := Option.some.inj hd
    exact my_iret C0 hK hP hD hS dX8_under_24
def fX8_out (σ : St) (p1 : Int32) (p2 : Int32) : Option (Int32) := if p1 < 0 then (some (-1 : Int32)) else (if (σ.1 7) ≤ p1 then (some (-1 : Int32)) else (if p2 < 0 then (some (-1 : Int32)) else (if p2 ≤ (2 : Int32) then (if p2 = 0 then (ix p1 300 (some ((σ.2.1 7) p1.toNatClampNeg))) else (if p2 = (1 : Int32) then (ix p1 300 (ix ((σ.2.1 7) p1.toNatClampNeg) 300 (some ((σ.2.1 3) ((σ.2.1 7) p1.toNatClampNeg).toNatClampNeg)))) else (ix p1 300 (some ((σ.2.1 8) p1.toNatClampNeg))))) else (some (-1 : Int32)))))
set_option maxHeartbeats 4000000 in
set_option maxRecDepth 100000 in
theorem mX8_out (l : Launch) (dC : Nat → ClassId) (dI : Nat → Nat → Nat) (cI cJ cZ : ClassId) (ad : Nat → Nat) (σ : St) (p1 : Int32) (p2 : Int32) {r : Int32} (hd : fX8_out σ p1 p2 = some r) (sz : Nat)  : Met l yX8_out (wS yX8_out cX8_out 3 (some .int)) { frames := 0, cells := 0, slots := 0, locals := 0 } (pC (dC, dI) (kT cI cJ cZ) xT (vX8 cI cJ cZ ad σ) sz [.ref (ad 0), .int p1, .int p2]) (qI (dC, dI) (kT cI cJ cZ) (vX8 cI cJ cZ ad σ) (va_A (vX8 cI cJ cZ ad σ) sz) r) 0 0 (va_A (vX8 cI cJ cZ ad σ) sz) := by
  refine my_ent (fun A => qI (dC, dI) (kT cI cJ cZ) (vX8 cI cJ cZ ad σ) A r) (by decide) (Nat.le_of_ble_eq_true rfl) ?_
  intro p e s m below meth c A hAe hnm C0 hK hX hP hD hA hS ls hl
  obtain ⟨hx, hb, hml, hown, hT, hr, hlocks⟩ := id C0
  unfold fX8_out at hd
  have hl : lv_has ls 3 [(0, .ref (ad 0)), (1, .int p1), (2, .int p2)] := hl
  refine lv_iload_n hx hb dX8_out_0 rfl (lv_at hl 1 rfl) ?_
  refine lv_if_lt (tgt := 21) hx hb dX8_out_1 (by decide) (fun c_1 => ?_) (fun c_1 => ?_)
  · replace hd := i_t hd c_1
    refine lv_iconst (v := (-1)) hx hb dX8_out_21 (by decide) ?_
    obtain rfl := Option.some.inj hd
    exact my_iret C0 hK hP hD hS dX8_out_22
  · replace hd := i_e hd c_1
    refine lv_iload_n hx hb dX8_out_4 rfl (lv_at hl 1 rfl) ?_
    refine lv_aload_n hx hb dX8_out_5 rfl (lv_at hl 0 rfl) ?_
    refine gX8_0_19 C0 hK hP wm_11_23 rfl dX8_out_6 ?_
    refine lv_icmp_ge (tgt := 21) hx hb dX8_out_9 (by decide) (fun c_2 => ?_) (fun c_2 => ?_)
    · replace hd := i_t hd c_2
      refine lv_iconst (v := (-1)) hx hb dX8_out_21 (by decide) ?_
      obtain rfl := Option.some.inj hd
      exact my_iret C0 hK hP hD hS dX8_out_22
    · replace hd := i_e hd c_2
      refine lv_iload_n hx hb dX8_out_12 rfl (lv_at hl 2 rfl) ?_
      refine lv_if_lt (tgt := 21) hx hb dX8_out_13 (by decide) (fun c_3 => ?_) (fun c_3 => ?_)
      · replace hd := i_t hd c_3
        refine lv_iconst (v := (-1)) hx hb dX8_out_21 (by decide) ?_
        obtain rfl := Option.some.inj hd
        exact my_iret C0 hK hP hD hS dX8_out_22
      · replace hd := i_e hd c_3
        refine lv_iload_n hx hb dX8_out_16 rfl (lv_at hl 2 rfl) ?_
        refine lv_iconst (v := 2) hx hb dX8_out_17 (by decide) ?_
        refine lv_icmp_le (tgt := 23) hx hb dX8_out_18 (by decide) (fun c_4 => ?_) (fun c_4 => ?_)
        · replace hd := i_t hd c_4
          refine lv_iload_n hx hb dX8_out_23 rfl (lv_at hl 2 rfl) ?_
          refine lv_if_ne (tgt := 36) hx hb dX8_out_24 (by decide) (fun c_5 => ?_) (fun c_5 => ?_)
          · replace hd := i_e hd c_5
            refine lv_iload_n hx hb dX8_out_36 rfl (lv_at hl 2 rfl) ?_
            refine lv_iconst (v := 1) hx hb dX8_out_37 (by decide) ?_
            refine lv_icmp_ne (tgt := 55) hx hb dX8_out_38 (by decide) (fun c_6 => ?_) (fun c_6 => ?_)
            · replace hd := i_e hd c_6
              refine lv_aload_n hx hb dX8_out_55 rfl (lv_at hl 0 rfl) ?_
              refine gX8_0_18 C0 hK hP wm_6_16 dX8_out_56 ?_
              refine lv_iload_n hx hb dX8_out_59 rfl (lv_at hl 1 rfl) ?_
              obtain ⟨g_7, hd⟩ := ix_some hd
              refine lX8_12 C0 hK hP rfl g_7 dX8_out_60 ?_
              obtain rfl := Option.some.inj hd
              exact my_iret C0 hK hP hD hS dX8_out_61
            · replace hd := i_t hd c_6
              refine lv_aload_n hx hb dX8_out_41 rfl (lv_at hl 0 rfl) ?_
              refine gX8_0_9 C0 hK hP wm_6_10 dX8_out_42 ?_
              refine lv_aload_n hx hb dX8_out_45 rfl (lv_at hl 0 rfl) ?_
              refine gX8_0_17 C0 hK hP wm_6_15 dX8_out_46 ?_
              refine lv_iload_n hx hb dX8_out_49 rfl (lv_at hl 1 rfl) ?_
              obtain ⟨g_8, hd⟩ := ix_some hd
              refine lX8_11 C0 hK hP rfl g_8 dX8_out_50 ?_
              obtain ⟨g_9, hd⟩ := ix_some hd
              refine lX8_6 C0 hK hP rfl g_9 dX8_out_51 ?_
              refine lv_goto (tgt := 61) hx hb dX8_out_52 (by decide) ?_
              obtain rfl := Option.some.inj hd
              exact my_iret C0 hK hP hD hS dX8_out_61
          · replace hd := i_t hd c_5
            refine lv_aload_n hx hb dX8_out_27 rfl (lv_at hl 0 rfl) ?_
            refine gX8_0_17 C0 hK hP wm_6_15 dX8_out_28 ?_
            refine lv_iload_n hx hb dX8_out_31 rfl (lv_at hl 1 rfl) ?_
            obtain ⟨g_10, hd⟩ := ix_some hd
            refine lX8_11 C0 hK hP rfl g_10 dX8_out_32 ?_
            refine lv_goto (tgt := 61) hx hb dX8_out_33 (by decide) ?_
            obtain rfl := Option.some.inj hd
            exact my_iret C0 hK hP hD hS dX8_out_61
        · replace hd := i_e hd c_4
          refine lv_iconst (v := (-1)) hx hb dX8_out_21 (by decide) ?_
          obtain rfl := Option.some.inj hd
          exact my_iret C0 hK hP hD hS dX8_out_22
def fX8_isItem (σ : St) (p1 : Int32) : Option (Int32) := if p1 < 0 then (some (0 : Int32)) else (if (σ.1 3) ≤ p1 then (some (0 : Int32)) else (some (1 : Int32)))
set_option maxHeartbeats 4000000 in
set_option maxRecDepth 100000 in
theorem mX8_isItem (l : Launch) (dC : Nat → ClassId) (dI : Nat → Nat → Nat) (cI cJ cZ : ClassId) (ad : Nat → Nat) (σ : St) (p1 : Int32) {r : Int32} (hd : fX8_isItem σ p1 = some r) (sz : Nat)  : Met l yX8_isItem (wS yX8_isItem cX8_isItem 2 (some .boolean)) { frames := 0, cells := 0, slots := 0, locals := 0 } (pC (dC, dI) (kT cI cJ cZ) xT (vX8 cI cJ cZ ad σ) sz [.ref (ad 0), .int p1]) (qI (dC, dI) (kT cI cJ cZ) (vX8 cI cJ cZ ad σ) (va_A (vX8 cI cJ cZ ad σ) sz) r) 0 0 (va_A (vX8 cI cJ cZ ad σ) sz) := by
  refine my_ent (fun A => qI (dC, dI) (kT cI cJ cZ) (vX8 cI cJ cZ ad σ) A r) (by decide) (Nat.le_of_ble_eq_true rfl) ?_
  intro p e s m below meth c A hAe hnm C0 hK hX hP hD hA hS ls hl
  obtain ⟨hx, hb, hml, hown, hT, hr, hlocks⟩ := id C0
  unfold fX8_isItem at hd
  have hl : lv_has ls 2 [(0, .ref (ad 0)), (1, .int p1)] := hl
  refine lv_iload_n hx hb dX8_isItem_0 rfl (lv_at hl 1 rfl) ?_
  refine lv_if_lt (tgt := 16) hx hb dX8_isItem_1 (by decide) (fun c_1 => ?_) (fun c_1 => ?_)
  · replace hd := i_t hd c_1
    refine lv_iconst (v := 0) hx hb dX8_isItem_16 (by decide) ?_
    obtain rfl := Option.some.inj hd
    exact my_zret C0 hK hP hD hS (Or.inl rfl) dX8_isItem_17
  · replace hd := i_e hd c_1
    refine lv_iload_n hx hb dX8_isItem_4 rfl (lv_at hl 1 rfl) ?_
    refine lv_aload_n hx hb dX8_isItem_5 rfl (lv_at hl 0 rfl) ?_
    refine gX8_0_4 C0 hK hP wm_12_4 rfl dX8_isItem_6 ?_
    refine lv_icmp_ge (tgt := 16) hx hb dX8_isItem_9 (by decide) (fun c_2 => ?_) (fun c_2 => ?_)
    · replace hd := i_t hd c_2
      refine lv_iconst (v := 0) hx hb dX8_isItem_16 (by decide) ?_
      obtain rfl := Option.some.inj hd
      exact my_zret C0 hK hP hD hS (Or.inl rfl) dX8_isItem_17
    · replace hd := i_e hd c_2
      refine lv_iconst (v := 1) hx hb dX8_isItem_12 (by decide) ?_
      refine lv_goto (tgt := 17) hx hb dX8_isItem_13 (by decide) ?_
      obtain rfl := Option.some.inj hd
      exact my_zret C0 hK hP hD hS (Or.inr rfl) dX8_isItem_17
def fX8_value_28 (σ : St)  (a : Int32) : Option (Int64) := ix a 300 (some ((σ.2.2 2) a.toNatClampNeg))
set_option maxHeartbeats 4000000 in
set_option maxRecDepth 100000 in
theorem bX8_value_28 {p : Program} {l : Launch} {e : Env} {s : State} {m : MethodId} {args : Array Value} {below : List Frame} {meth : Method} {c : Code} {A : Nat → Prop} {dC : Nat → ClassId} {dI : Nat → Nat → Nat} {cI cJ cZ : ClassId} {ad : Nat → Nat} {r : Int64} {σ : St} (C0 : cx p s m args meth c cX8_value 2 RX8 (some .long)) (hK : va_K (dC, dI) vwCl (kT cI cJ cZ) s) (hX : xT s) (hA : ∀ q : Nat, s.heap.size ≤ q → A q)  : ∀ (a : Int32), fX8_value_28 σ  a = some r → ∀ (H : Heap) (locs : List Loc) (ls : Array Slot), va_P (dC, dI) vwCl (vX8 cI cJ cZ ad σ) H → va_D A (vX8 cI cJ cZ ad σ) → va_S A s.heap H locs → lv_has ls 2 [(0, .ref (ad 0)), (1, .int a)] → W p l e ({ frames := 1, cells := 0, slots := 0, locals := 21 } : Room) s m args below meth c H locs 0 0 (MQ below (qL (dC, dI) (kT cI cJ cZ) (vX8 cI cJ cZ ad σ) A r) args s 0 0 A) (F0 m 28 ls []) := by
  obtain ⟨hx, hb, hml, hown, hT, hr, hlocks⟩ := id C0
  intro a hd H locs ls hP hD hS hl
  unfold fX8_value_28 at hd
  refine lv_aload_n hx hb dX8_value_28 rfl (lv_at hl 0 rfl) ?_
  refine gX8_0_10 C0 hK hP wm_6_11 dX8_value_29 ?_
  refine lv_iload_n hx hb dX8_value_32 rfl (lv_at hl 1 rfl) ?_
  obtain ⟨g_8, hd⟩ := ix_some hd
  refine lX8_7 C0 hK hP rfl g_8 dX8_value_33 ?_
  refine lv_goto (tgt := 38) hx hb dX8_value_34 (by decide) ?_
  obtain rfl := Option.some.inj hd
  exact my_lret C0 hK hP hD hS dX8_value_38
def fX8_value (σ : St) (p1 : Int32) : Option (Int64) := (fX8_isItem σ p1).bind (fun u_1 => if u_1 = 0 then (some (0 : Int64)) else (ix p1 300 (if ((σ.2.1 2) p1.toNatClampNeg) = (2 : Int32) then (fX8_value_28 σ  p1) else (ix p1 300 (if ((σ.2.1 2) p1.toNatClampNeg) = (3 : Int32) then (fX8_value_28 σ  p1) else (some (0 : Int64)))))))
set_option maxHeartbeats 4000000 in
set_option maxRecDepth 100000 in
theorem mX8_value (l : Launch) (dC : Nat → ClassId) (dI : Nat → Nat → Nat) (cI cJ cZ : ClassId) (ad : Nat → Nat) (σ : St) (p1 : Int32) {r : Int64} (hd : fX8_value σ p1 = some r) (sz : Nat)  : Met l yX8_value (wS yX8_value cX8_value 2 (some .long)) { frames := 1, cells := 0, slots := 0, locals := 21 } (pC (dC, dI) (kT cI cJ cZ) xT (vX8 cI cJ cZ ad σ) sz [.ref (ad 0), .int p1]) (qL (dC, dI) (kT cI cJ cZ) (vX8 cI cJ cZ ad σ) (va_A (vX8 cI cJ cZ ad σ) sz) r) 0 0 (va_A (vX8 cI cJ cZ ad σ) sz) := by
  refine my_ent (fun A => qL (dC, dI) (kT cI cJ cZ) (vX8 cI cJ cZ ad σ) A r) (by decide) (Nat.le_of_ble_eq_true rfl) ?_
  intro p e s m below meth c A hAe hnm C0 hK hX hP hD hA hS ls hl
  obtain ⟨hx, hb, hml, hown, hT, hr, hlocks⟩ := id C0
  unfold fX8_value at hd
  have hl : lv_has ls 2 [(0, .ref (ad 0)), (1, .int p1)] := hl
  refine lv_aload_n hx hb dX8_value_0 rfl (lv_at hl 0 rfl) ?_
  refine lv_iload_n hx hb dX8_value_1 rfl (lv_at hl 1 rfl) ?_
  obtain ⟨u_1, hc_2, hd⟩ := bd hd
  refine cw_i (rest := []) C0 (mX8_isItem l dC dI cI cJ cZ ad σ p1 hc_2 _) gv_X8_176 yd_X8_isItem ⟨rfl, rfl, Nat.le_of_ble_eq_true rfl, Nat.le_of_ble_eq_true rfl, Nat.zero_le _, Nat.zero_le _⟩ xT_b xT_w hK hP hD hS hA hl.1 rfl (Nat.le_of_ble_eq_true rfl) dX8_value_2 8 0 rfl rfl (fun H locs hP hD hS => ?_)
  refine lv_if_eq (tgt := 37) hx hb dX8_value_5 (by decide) (fun c_3 => ?_) (fun c_3 => ?_)
  · replace hd := i_t hd c_3
    refine lv_lconst (v := 0) hx hb dX8_value_37 (by decide) ?_
    obtain rfl := Option.some.inj hd
    exact my_lret C0 hK hP hD hS dX8_value_38
  · replace hd := i_e hd c_3
    refine lv_aload_n hx hb dX8_value_8 rfl (lv_at hl 0 rfl) ?_
    refine gX8_0_8 C0 hK hP wm_6_9 dX8_value_9 ?_
    refine lv_iload_n hx hb dX8_value_12 rfl (lv_at hl 1 rfl) ?_
    obtain ⟨g_4, hd⟩ := ix_some hd
    refine lX8_5 C0 hK hP rfl g_4 dX8_value_13 ?_
    refine lv_iconst (v := 2) hx hb dX8_value_14 (by decide) ?_
    refine lv_icmp_eq (tgt := 28) hx hb dX8_value_15 (by decide) (fun c_5 => ?_) (fun c_5 => ?_)
    · replace hd := i_t hd c_5
      exact bX8_value_28 C0 hK hX hA  _ hd _ _ _ hP hD hS (lv_sub hl [0, 1] rfl)
    · replace hd := i_e hd c_5
      refine lv_aload_n hx hb dX8_value_18 rfl (lv_at hl 0 rfl) ?_
      refine gX8_0_8 C0 hK hP wm_6_9 dX8_value_19 ?_
      refine lv_iload_n hx hb dX8_value_22 rfl (lv_at hl 1 rfl) ?_
      obtain ⟨g_6, hd⟩ := ix_some hd
      refine lX8_5 C0 hK hP rfl g_6 dX8_value_23 ?_
      refine lv_iconst (v := 3) hx hb dX8_value_24 (by decide) ?_
      refine lv_icmp_ne (tgt := 37) hx hb dX8_value_25 (by decide) (fun c_7 => ?_) (fun c_7 => ?_)
      · replace hd := i_e hd c_7
        refine lv_lconst (v := 0) hx hb dX8_value_37 (by decide) ?_
        obtain rfl := Option.some.inj hd
        exact my_lret C0 hK hP hD hS dX8_value_38
      · replace hd := i_t hd c_7
        exact bX8_value_28 C0 hK hX hA  _ hd _ _ _ hP hD hS (lv_sub hl [0, 1] rfl)
def fX8_item_44 (n : Nat) (σ : St)  (a : Int32) : Option (Int32) := ix a 300 (some ((σ.2.1 3) a.toNatClampNeg))
set_option maxHeartbeats 4000000 in
set_option maxRecDepth 100000 in
theorem bX8_item_44 {p : Program} {l : Launch} {e : Env} {s : State} {m : MethodId} {args : Array Value} {below : List Frame} {meth : Method} {c : Code} {A : Nat → Prop} {dC : Nat → ClassId} {dI : Nat → Nat → Nat} {cI cJ cZ : ClassId} {ad : Nat → Nat} {r : Int32} {n : Nat} {σ : St} (C0 : cx p s m args meth c cX8_item 3 RX8 (some .int)) (hK : va_K (dC, dI) vwCl (kT cI cJ cZ) s) (hX : xT s) (hA : ∀ q : Nat, s.heap.size ≤ q → A q)  : ∀ (a : Int32), fX8_item_44 n σ  a = some r → ∀ (H : Heap) (locs : List Loc) (ls : Array Slot), va_P (dC, dI) vwCl (vX8 cI cJ cZ ad σ) H → va_D A (vX8 cI cJ cZ ad σ) → va_S A s.heap H locs → lv_has ls 3 [(0, .ref (ad 0)), (1, .int a)] → W p l e ({ frames := 1, cells := 0, slots := 0, locals := 22 } : Room) s m args below meth c H locs 0 0 (MQ below (qI (dC, dI) (kT cI cJ cZ) (vX8 cI cJ cZ ad σ) A r) args s 0 0 A) (F0 m 44 ls []) := by
  obtain ⟨hx, hb, hml, hown, hT, hr, hlocks⟩ := id C0
  intro a hd H locs ls hP hD hS hl
  unfold fX8_item_44 at hd
  refine lv_aload_n hx hb dX8_item_44 rfl (lv_at hl 0 rfl) ?_
  refine gX8_0_9 C0 hK hP wm_6_10 dX8_item_45 ?_
  refine lv_iload_n hx hb dX8_item_48 rfl (lv_at hl 1 rfl) ?_
  obtain ⟨g_21, hd⟩ := ix_some hd
  refine lX8_6 C0 hK hP rfl g_21 dX8_item_49 ?_
  refine lv_goto (tgt := 54) hx hb dX8_item_50 (by decide) ?_
  obtain rfl := Option.some.inj hd
  exact my_iret C0 hK hP hD hS dX8_item_54
def fX8_item (n : Nat) (σ : St) (p1 : Int32) (p2 : Int32) : Option (Int32) := (fX8_isItem σ p1).bind (fun u_1 => if u_1 = 0 then (some (-1 : Int32)) else (if p2 < 0 then (some (-1 : Int32)) else (if p2 ≤ (4 : Int32) then (if p2 = (1 : Int32) then (ix p1 300 (if ((σ.2.1 2) p1.toNatClampNeg) = (2 : Int32) then (fX8_item_44 n σ  p1) else (ix p1 300 (if ((σ.2.1 2) p1.toNatClampNeg) = (3 : Int32) then (fX8_item_44 n σ  p1) else (some (-1 : Int32)))))) else (if p2 = 0 then (ix p1 300 (some ((σ.2.1 2) p1.toNatClampNeg))) else (if p2 = (2 : Int32) then (ix p1 300 (some ((σ.2.1 4) p1.toNatClampNeg))) else (if p2 = (3 : Int32) then (ix p1 300 (if ((σ.2.1 1) p1.toNatClampNeg) = 0 then (some (0 : Int32)) else (some (1 : Int32)))) else ((fX8_placeInQueue n σ p1).bind (fun u_10 => if u_10 < 0 then (some (0 : Int32)) else (some (1 : Int32)))))))) else (some (-1 : Int32)))))
set_option maxHeartbeats 4000000 in
set_option maxRecDepth 100000 in
theorem mX8_item (l : Launch) (dC : Nat → ClassId) (dI : Nat → Nat → Nat) (cI cJ cZ : ClassId) (ad : Nat → Nat) (n : Nat) (σ : St) (p1 : Int32) (p2 : Int32) {r : Int32} (hd : fX8_item n σ p1 p2 = some r) (sz : Nat)  : Met l yX8_item (wS yX8_item cX8_item 3 (some .int)) { frames := 1, cells := 0, slots := 0, locals := 22 } (pC (dC, dI) (kT cI cJ cZ) xT (vX8 cI cJ cZ ad σ) sz [.ref (ad 0), .int p1, .int p2]) (qI (dC, dI) (kT cI cJ cZ) (vX8 cI cJ cZ ad σ) (va_A (vX8 cI cJ cZ ad σ) sz) r) 0 0 (va_A (vX8 cI cJ cZ ad σ) sz) := by
  refine my_ent (fun A => qI (dC, dI) (kT cI cJ cZ) (vX8 cI cJ cZ ad σ) A r) (by decide) (Nat.le_of_ble_eq_true rfl) ?_
  intro p e s m below meth c A hAe hnm C0 hK hX hP hD hA hS ls hl
  obtain ⟨hx, hb, hml, hown, hT, hr, hlocks⟩ := id C0
  unfold fX8_item at hd
  have hl : lv_has ls 3 [(0, .ref (ad 0)), (1, .int p1), (2, .int p2)] := hl
  refine lv_aload_n hx hb dX8_item_0 rfl (lv_at hl 0 rfl) ?_
  refine lv_iload_n hx hb dX8_item_1 rfl (lv_at hl 1 rfl) ?_
  obtain ⟨u_1, hc_2, hd⟩ := bd hd
  refine cw_i (rest := []) C0 (mX8_isItem l dC dI cI cJ cZ ad σ p1 hc_2 _) gv_X8_176 yd_X8_isItem ⟨rfl, rfl, Nat.le_of_ble_eq_true rfl, Nat.le_of_ble_eq_true rfl, Nat.zero_le _, Nat.zero_le _⟩ xT_b xT_w hK hP hD hS hA hl.1 rfl (Nat.le_of_ble_eq_true rfl) dX8_item_2 8 0 rfl rfl (fun H locs hP hD hS => ?_)
  refine lv_if_eq (tgt := 17) hx hb dX8_item_5 (by decide) (fun c_3 => ?_) (fun c_3 => ?_)
  · replace hd := i_t hd c_3
    refine lv_iconst (v := (-1)) hx hb dX8_item_17 (by decide) ?_
    obtain rfl := Option.some.inj hd
    exact my_iret C0 hK hP hD hS dX8_item_18
  · replace hd := i_e hd c_3
    refine lv_iload_n hx hb dX8_item_8 rfl (lv_at hl 2 rfl) ?_
    refine lv_if_lt (tgt := 17) hx hb dX8_item_9 (by decide) (fun c_4 => ?_) (fun c_4 => ?_)
    · replace hd := i_t hd c_4
      refine lv_iconst (v := (-1)) hx hb dX8_item_17 (by decide) ?_
      obtain rfl := Option.some.inj hd
      exact my_iret C0 hK hP hD hS dX8_item_18
    · replace hd := i_e hd c_4
      refine lv_iload_n hx hb dX8_item_12 rfl (lv_at hl 2 rfl) ?_
      refine lv_iconst (v := 4) hx hb dX8_item_13 (by decide) ?_
      refine lv_icmp_le (tgt := 19) hx hb dX8_item_14 (by decide) (fun c_5 => ?_) (fun c_5 => ?_)
      · replace hd := i_t hd c_5
        refine lv_iload_n hx hb dX8_item_19 rfl (lv_at hl 2 rfl) ?_
        refine lv_iconst (v := 1) hx hb dX8_item_20 (by decide) ?_
        refine lv_icmp_ne (tgt := 55) hx hb dX8_item_21 (by decide) (fun c_6 => ?_) (fun c_6 => ?_)
        · replace hd := i_e hd c_6
          refine lv_iload_n hx hb dX8_item_55 rfl (lv_at hl 2 rfl) ?_
          refine lv_if_ne (tgt := 68) hx hb dX8_item_56 (by decide) (fun c_7 => ?_) (fun c_7 => ?_)
          · replace hd := i_e hd c_7
            refine lv_iload_n hx hb dX8_item_68 rfl (lv_at hl 2 rfl) ?_
            refine lv_iconst (v := 2) hx hb dX8_item_69 (by decide) ?_
            refine lv_icmp_ne (tgt := 82) hx hb dX8_item_70 (by decide) (fun c_8 => ?_) (fun c_8 => ?_)
            · replace hd := i_e hd c_8
              refine lv_iload_n hx hb dX8_item_82 rfl (lv_at hl 2 rfl) ?_
              refine lv_iconst (v := 3) hx hb dX8_item_83 (by decide) ?_
              refine lv_icmp_ne (tgt := 104) hx hb dX8_item_84 (by decide) (fun c_9 => ?_) (fun c_9 => ?_)
              · replace hd := i_e hd c_9
                refine lv_aload_n hx hb dX8_item_104 rfl (lv_at hl 0 rfl) ?_
                refine lv_iload_n hx hb dX8_item_105 rfl (lv_at hl 1 rfl) ?_
                obtain ⟨u_10, hc_11, hd⟩ := bd hd
                refine cw_i (rest := []) C0 (mX8_placeInQueue l dC dI cI cJ cZ ad n σ p1 hc_11 _) gv_X8_111 yd_X8_placeInQueue ⟨rfl, rfl, Nat.le_of_ble_eq_true rfl, Nat.le_of_ble_eq_true rfl, Nat.zero_le _, Nat.zero_le _⟩ xT_b xT_w hK hP hD hS hA hl.1 rfl (Nat.le_of_ble_eq_true rfl) dX8_item_106 8 0 rfl rfl (fun H locs hP hD hS => ?_)
                refine lv_if_lt (tgt := 116) hx hb dX8_item_109 (by decide) (fun c_12 => ?_) (fun c_12 => ?_)
                · replace hd := i_t hd c_12
                  refine lv_iconst (v := 0) hx hb dX8_item_116 (by decide) ?_
                  obtain rfl := Option.some.inj hd
                  exact my_iret C0 hK hP hD hS dX8_item_117
                · replace hd := i_e hd c_12
                  refine lv_iconst (v := 1) hx hb dX8_item_112 (by decide) ?_
                  refine lv_goto (tgt := 117) hx hb dX8_item_113 (by decide) ?_
                  obtain rfl := Option.some.inj hd
                  exact my_iret C0 hK hP hD hS dX8_item_117
              · replace hd := i_t hd c_9
                refine lv_aload_n hx hb dX8_item_87 rfl (lv_at hl 0 rfl) ?_
                refine gX8_0_5 C0 hK hP wm_6_6 dX8_item_88 ?_
                refine lv_iload_n hx hb dX8_item_91 rfl (lv_at hl 1 rfl) ?_
                obtain ⟨g_13, hd⟩ := ix_some hd
                refine lX8_2 C0 hK hP rfl g_13 dX8_item_92 ?_
                refine lv_if_eq (tgt := 100) hx hb dX8_item_93 (by decide) (fun c_14 => ?_) (fun c_14 => ?_)
                · replace hd := i_t hd c_14
                  refine lv_iconst (v := 0) hx hb dX8_item_100 (by decide) ?_
                  refine lv_goto (tgt := 117) hx hb dX8_item_101 (by decide) ?_
                  obtain rfl := Option.some.inj hd
                  exact my_iret C0 hK hP hD hS dX8_item_117
                · replace hd := i_e hd c_14
                  refine lv_iconst (v := 1) hx hb dX8_item_96 (by decide) ?_
                  refine lv_goto (tgt := 117) hx hb dX8_item_97 (by decide) ?_
                  obtain rfl := Option.some.inj hd
                  exact my_iret C0 hK hP hD hS dX8_item_117
            · replace hd := i_t hd c_8
              refine lv_aload_n hx hb dX8_item_73 rfl (lv_at hl 0 rfl) ?_
              refine gX8_0_11 C0 hK hP wm_6_12 dX8_item_74 ?_
              refine lv_iload_n hx hb dX8_item_77 rfl (lv_at hl 1 rfl) ?_
              obtain ⟨g_15, hd⟩ := ix_some hd
              refine lX8_8 C0 hK hP rfl g_15 dX8_item_78 ?_
              refine lv_goto (tgt := 117) hx hb dX8_item_79 (by decide) ?_
              obtain rfl := Option.some.inj hd
              exact my_iret C0 hK hP hD hS dX8_item_117
          · replace hd := i_t hd c_7
            refine lv_aload_n hx hb dX8_item_59 rfl (lv_at hl 0 rfl) ?_
            refine gX8_0_8 C0 hK hP wm_6_9 dX8_item_60 ?_
            refine lv_iload_n hx hb dX8_item_63 rfl (lv_at hl 1 rfl) ?_
            obtain ⟨g_16, hd⟩ := ix_some hd
            refine lX8_5 C0 hK hP rfl g_16 dX8_item_64 ?_
            refine lv_goto (tgt := 117) hx hb dX8_item_65 (by decide) ?_
            obtain rfl := Option.some.inj hd
            exact my_iret C0 hK hP hD hS dX8_item_117
        · replace hd := i_t hd c_6
          refine lv_aload_n hx hb dX8_item_24 rfl (lv_at hl 0 rfl) ?_
          refine gX8_0_8 C0 hK hP wm_6_9 dX8_item_25 ?_
          refine lv_iload_n hx hb dX8_item_28 rfl (lv_at hl 1 rfl) ?_
          obtain ⟨g_17, hd⟩ := ix_some hd
          refine lX8_5 C0 hK hP rfl g_17 dX8_item_29 ?_
          refine lv_iconst (v := 2) hx hb dX8_item_30 (by decide) ?_
          refine lv_icmp_eq (tgt := 44) hx hb dX8_item_31 (by decide) (fun c_18 => ?_) (fun c_18 => ?_)
          · replace hd := i_t hd c_18
            exact bX8_item_44 C0 hK hX hA  _ hd _ _ _ hP hD hS (lv_sub hl [0, 1] rfl)
          · replace hd := i_e hd c_18
            refine lv_aload_n hx hb dX8_item_34 rfl (lv_at hl 0 rfl) ?_
            refine gX8_0_8 C0 hK hP wm_6_9 dX8_item_35 ?_
            refine lv_iload_n hx hb dX8_item_38 rfl (lv_at hl 1 rfl) ?_
            obtain ⟨g_19, hd⟩ := ix_some hd
            refine lX8_5 C0 hK hP rfl g_19 dX8_item_39 ?_
            refine lv_iconst (v := 3) hx hb dX8_item_40 (by decide) ?_
            refine lv_icmp_ne (tgt := 53) hx hb dX8_item_41 (by decide) (fun c_20 => ?_) (fun c_20 => ?_)
            · replace hd := i_e hd c_20
              refine lv_iconst (v := (-1)) hx hb dX8_item_53 (by decide) ?_
              obtain rfl := Option.some.inj hd
              exact my_iret C0 hK hP hD hS dX8_item_54
            · replace hd := i_t hd c_20
              exact bX8_item_44 C0 hK hX hA  _ hd _ _ _ hP hD hS (lv_sub hl [0, 1] rfl)
      · replace hd := i_e hd c_5
        refine lv_iconst (v := (-1)) hx hb dX8_item_17 (by decide) ?_
        obtain rfl := Option.some.inj hd
        exact my_iret C0 hK hP hD hS dX8_item_18
def fX8_count (n : Nat) (σ : St) (p1 : Int64) : Option (Int32) := (fX8_keyAt n σ p1).bind (fun u_1 => if 0 ≤ u_1 then (ix u_1 300 (some ((σ.2.1 12) u_1.toNatClampNeg))) else (some (0 : Int32)))
set_option maxHeartbeats 4000000 in
set_option maxRecDepth 100000 in
theorem mX8_count (l : Launch) (dC : Nat → ClassId) (dI : Nat → Nat → Nat) (cI cJ cZ : ClassId) (ad : Nat → Nat) (n : Nat) (σ : St) (p1 : Int64) {r : Int32} (hd : fX8_count n σ p1 = some r) (sz : Nat)  : Met l yX8_count (wS yX8_count cX8_count 4 (some .int)) { frames := 1, cells := 0, slots := 0, locals := 23 } (pC (dC, dI) (kT cI cJ cZ) xT (vX8 cI cJ cZ ad σ) sz [.ref (ad 0), .long p1]) (qI (dC, dI) (kT cI cJ cZ) (vX8 cI cJ cZ ad σ) (va_A (vX8 cI cJ cZ ad σ) sz) r) 0 0 (va_A (vX8 cI cJ cZ ad σ) sz) := by
  refine my_ent (fun A => qI (dC, dI) (kT cI cJ cZ) (vX8 cI cJ cZ ad σ) A r) (by decide) (Nat.le_of_ble_eq_true rfl) ?_
  intro p e s m below meth c A hAe hnm C0 hK hX hP hD hA hS ls hl
  obtain ⟨hx, hb, hml, hown, hT, hr, hlocks⟩ := id C0
  unfold fX8_count at hd
  have hl : lv_has ls 4 [(0, .ref (ad 0)), (1, .long p1)] := hl
  refine lv_aload_n hx hb dX8_count_0 rfl (lv_at hl 0 rfl) ?_
  refine lv_lload_n hx hb dX8_count_1 rfl (lv_at hl 1 rfl) ?_
  obtain ⟨u_1, hc_2, hd⟩ := bd hd
  refine cw_i (rest := []) C0 (mX8_keyAt l dC dI cI cJ cZ ad n σ p1 hc_2 _) gv_X8_169 yd_X8_keyAt ⟨rfl, rfl, Nat.le_of_ble_eq_true rfl, Nat.le_of_ble_eq_true rfl, Nat.zero_le _, Nat.zero_le _⟩ xT_b xT_w hK hP hD hS hA hl.1 rfl (Nat.le_of_ble_eq_true rfl) dX8_count_2 8 0 rfl rfl (fun H locs hP hD hS => ?_)
  refine lv_istore_n (lv' := [(3, .int u_1), (0, .ref (ad 0)), (1, .long p1)]) hx hb dX8_count_5 rfl hl (by decide) rfl (fun ls hl => ?_)
  refine lv_iload_n hx hb dX8_count_6 rfl (lv_at hl 0 rfl) ?_
  refine lv_if_ge (tgt := 14) hx hb dX8_count_7 (by decide) (fun c_3 => ?_) (fun c_3 => ?_)
  · replace hd := i_t hd c_3
    refine lv_aload_n hx hb dX8_count_14 rfl (lv_at hl 1 rfl) ?_
    refine gX8_0_24 C0 hK hP wm_6_21 dX8_count_15 ?_
    refine lv_iload_n hx hb dX8_count_18 rfl (lv_at hl 0 rfl) ?_
    obtain ⟨g_4, hd⟩ := ix_some hd
    refine lX8_17 C0 hK hP rfl g_4 dX8_count_19 ?_
    obtain rfl := Option.some.inj hd
    exact my_iret C0 hK hP hD hS dX8_count_20
  · replace hd := i_e hd c_3
    refine lv_iconst (v := 0) hx hb dX8_count_10 (by decide) ?_
    refine lv_goto (tgt := 20) hx hb dX8_count_11 (by decide) ?_
    obtain rfl := Option.some.inj hd
    exact my_iret C0 hK hP hD hS dX8_count_20
def fX8_kept (n : Nat) (σ : St) (p1 : Int64) : Option (Int32) := (fX8_keptFor n σ p1).bind (fun u_1 => if 0 ≤ u_1 then (ix u_1 8 (some ((σ.2.1 14) u_1.toNatClampNeg))) else (some (-1 : Int32)))
set_option maxHeartbeats 4000000 in
set_option maxRecDepth 100000 in
theorem mX8_kept (l : Launch) (dC : Nat → ClassId) (dI : Nat → Nat → Nat) (cI cJ cZ : ClassId) (ad : Nat → Nat) (n : Nat) (σ : St) (p1 : Int64) {r : Int32} (hd : fX8_kept n σ p1 = some r) (sz : Nat)  : Met l yX8_kept (wS yX8_kept cX8_kept 4 (some .int)) { frames := 1, cells := 0, slots := 0, locals := 23 } (pC (dC, dI) (kT cI cJ cZ) xT (vX8 cI cJ cZ ad σ) sz [.ref (ad 0), .long p1]) (qI (dC, dI) (kT cI cJ cZ) (vX8 cI cJ cZ ad σ) (va_A (vX8 cI cJ cZ ad σ) sz) r) 0 0 (va_A (vX8 cI cJ cZ ad σ) sz) := by
  refine my_ent (fun A => qI (dC, dI) (kT cI cJ cZ) (vX8 cI cJ cZ ad σ) A r) (by decide) (Nat.le_of_ble_eq_true rfl) ?_
  intro p e s m below meth c A hAe hnm C0 hK hX hP hD hA hS ls hl
  obtain ⟨hx, hb, hml, hown, hT, hr, hlocks⟩ := id C0
  unfold fX8_kept at hd
  have hl : lv_has ls 4 [(0, .ref (ad 0)), (1, .long p1)] := hl
  refine lv_aload_n hx hb dX8_kept_0 rfl (lv_at hl 0 rfl) ?_
  refine lv_lload_n hx hb dX8_kept_1 rfl (lv_at hl 1 rfl) ?_
  obtain ⟨u_1, hc_2, hd⟩ := bd hd
  refine cw_i (rest := []) C0 (mX8_keptFor l dC dI cI cJ cZ ad n σ p1 hc_2 _) gv_X8_121 yd_X8_keptFor ⟨rfl, rfl, Nat.le_of_ble_eq_true rfl, Nat.le_of_ble_eq_true rfl, Nat.zero_le _, Nat.zero_le _⟩ xT_b xT_w hK hP hD hS hA hl.1 rfl (Nat.le_of_ble_eq_true rfl) dX8_kept_2 8 0 rfl rfl (fun H locs hP hD hS => ?_)
  refine lv_istore_n (lv' := [(3, .int u_1), (0, .ref (ad 0)), (1, .long p1)]) hx hb dX8_kept_5 rfl hl (by decide) rfl (fun ls hl => ?_)
  refine lv_iload_n hx hb dX8_kept_6 rfl (lv_at hl 0 rfl) ?_
  refine lv_if_ge (tgt := 14) hx hb dX8_kept_7 (by decide) (fun c_3 => ?_) (fun c_3 => ?_)
  · replace hd := i_t hd c_3
    refine lv_aload_n hx hb dX8_kept_14 rfl (lv_at hl 1 rfl) ?_
    refine gX8_0_29 C0 hK hP wm_7_2 dX8_kept_15 ?_
    refine lv_iload_n hx hb dX8_kept_18 rfl (lv_at hl 0 rfl) ?_
    obtain ⟨g_4, hd⟩ := ix_some hd
    refine lX8_22 C0 hK hP rfl g_4 dX8_kept_19 ?_
    obtain rfl := Option.some.inj hd
    exact my_iret C0 hK hP hD hS dX8_kept_20
  · replace hd := i_e hd c_3
    refine lv_iconst (v := (-1)) hx hb dX8_kept_10 (by decide) ?_
    refine lv_goto (tgt := 20) hx hb dX8_kept_11 (by decide) ?_
    obtain rfl := Option.some.inj hd
    exact my_iret C0 hK hP hD hS dX8_kept_20
def fX8_save_76 (n : Nat) (k4 : (St × Int32 × Int32) → Option (Int32 × St)) (a : St × Int32 × Int32 × Int32) : Option (Int32 × St) := k4 (a.1, a.2.2.1 + a.2.2.2, a.2.1 + 1)
set_option maxHeartbeats 4000000 in
set_option maxRecDepth 100000 in
theorem bX8_save_76 {p : Program} {l : Launch} {e : Env} {s : State} {m : MethodId} {args : Array Value} {below : List Frame} {meth : Method} {c : Code} {A : Nat → Prop} {dC : Nat → ClassId} {dI : Nat → Nat → Nat} {cI cJ cZ : ClassId} {ad : Nat → Nat} {r : Int32 × St} {n : Nat} (C0 : cx p s m args meth c cX8_save 3 RX8 (some .int)) (hK : va_K (dC, dI) vwCl (kT cI cJ cZ) s) (hX : xT s) (hA : ∀ q : Nat, s.heap.size ≤ q → A q) (k4 : (St × Int32 × Int32) → Option (Int32 × St)) (ih4 : ∀ (a : St × Int32 × Int32), k4 a = some r → ∀ (H : Heap) (locs : List Loc) (ls : Array Slot), va_P (dC, dI) vwCl (vX8 cI cJ cZ ad a.1) H → va_D A (vX8 cI cJ cZ ad a.1) → va_S A s.heap H locs → lv_has ls 3 [(0, .ref (ad 0)), (1, .int a.2.1), (2, .int a.2.2)] → W p l e ({ frames := 0, cells := 0, slots := 0, locals := 0 } : Room) s m args below meth c H locs 0 0 (MQ below (qI (dC, dI) (kT cI cJ cZ) (vX8 cI cJ cZ ad r.2) A r.1) args s 0 0 A) (F0 m 4 ls [])) : ∀ (a : St × Int32 × Int32 × Int32), fX8_save_76 n k4 a = some r → ∀ (H : Heap) (locs : List Loc) (ls : Array Slot), va_P (dC, dI) vwCl (vX8 cI cJ cZ ad a.1) H → va_D A (vX8 cI cJ cZ ad a.1) → va_S A s.heap H locs → lv_has ls 3 [(0, .ref (ad 0)), (2, .int a.2.1)] → W p l e ({ frames := 0, cells := 0, slots := 0, locals := 0 } : Room) s m args below meth c H locs 0 0 (MQ below (qI (dC, dI) (kT cI cJ cZ) (vX8 cI cJ cZ ad r.2) A r.1) args s 0 0 A) (F0 m 76 ls [.int a.2.2.2, .int a.2.2.1]) := by
  obtain ⟨hx, hb, hml, hown, hT, hr, hlocks⟩ := id C0
  intro a hd H locs ls hP hD hS hl
  unfold fX8_save_76 at hd
  refine lv_iadd hx hb dX8_save_76 ?_
  refine lv_istore_n (lv' := [(1, .int (a.2.2.1 + a.2.2.2)), (0, .ref (ad 0)), (2, .int a.2.1)]) hx hb dX8_save_77 rfl hl (by decide) rfl (fun ls hl => ?_)
  refine lv_iinc (v := a.2.1 + 1) (lv' := [(2, .int (a.2.1 + 1)), (1, .int (a.2.2.1 + a.2.2.2)), (0, .ref (ad 0))]) hx hb dX8_save_78 hl (k := 2) rfl rfl (by decide) rfl (fun ls hl => ?_)
  refine lv_goto (tgt := 4) hx hb dX8_save_81 (by decide) ?_
  exact ih4 _ hd _ _ _ hP hD hS (lv_sub hl [2, 1, 0] rfl)
def fX8_save_4 (n : Nat) (k4 : (St × Int32 × Int32) → Option (Int32 × St)) (a : St × Int32 × Int32) : Option (Int32 × St) := if (a.1.1 3) ≤ a.2.2 then (some (a.2.1, sI (sI a.1 9 (a.1.1 3)) 10 (a.1.1 7))) else (ix a.2.2 300 (ix a.2.2 300 (ix a.2.2 300 (ix a.2.2 300 (ix a.2.2 300 (ix a.2.2 300 (ix a.2.2 300 (ix a.2.2 300 (ix a.2.2 300 (if (3 : Int32) ≤ ((a.1.2.1 2) a.2.2.toNatClampNeg) then (fX8_save_76 n k4 (sA (sL (sA (sA a.1 15 (upd (a.1.2.1 15) a.2.2.toNatClampNeg ((a.1.2.1 2) a.2.2.toNatClampNeg))) 16 (upd (a.1.2.1 16) a.2.2.toNatClampNeg ((a.1.2.1 3) a.2.2.toNatClampNeg))) 7 (vp_updL (a.1.2.2 7) a.2.2.toNatClampNeg ((a.1.2.2 2) a.2.2.toNatClampNeg))) 17 (upd (a.1.2.1 17) a.2.2.toNatClampNeg ((a.1.2.1 4) a.2.2.toNatClampNeg)), a.2.2, a.2.1, (0 : Int32))) else (fX8_save_76 n k4 (sA (sL (sA (sA a.1 15 (upd (a.1.2.1 15) a.2.2.toNatClampNeg ((a.1.2.1 2) a.2.2.toNatClampNeg))) 16 (upd (a.1.2.1 16) a.2.2.toNatClampNeg ((a.1.2.1 3) a.2.2.toNatClampNeg))) 7 (vp_updL (a.1.2.2 7) a.2.2.toNatClampNeg ((a.1.2.2 2) a.2.2.toNatClampNeg))) 17 (upd (a.1.2.1 17) a.2.2.toNatClampNeg ((a.1.2.1 4) a.2.2.toNatClampNeg)), a.2.2, a.2.1, (1 : Int32)))))))))))))
set_option maxHeartbeats 4000000 in
set_option maxRecDepth 100000 in
theorem bX8_save_4 {p : Program} {l : Launch} {e : Env} {s : State} {m : MethodId} {args : Array Value} {below : List Frame} {meth : Method} {c : Code} {A : Nat → Prop} {dC : Nat → ClassId} {dI : Nat → Nat → Nat} {cI cJ cZ : ClassId} {ad : Nat → Nat} {r : Int32 × St} {n : Nat} (C0 : cx p s m args meth c cX8_save 3 RX8 (some .int)) (hK : va_K (dC, dI) vwCl (kT cI cJ cZ) s) (hX : xT s) (hA : ∀ q : Nat, s.heap.size ≤ q → A q) (k4 : (St × Int32 × Int32) → Option (Int32 × St)) (ih4 : ∀ (a : St × Int32 × Int32), k4 a = some r → ∀ (H : Heap) (locs : List Loc) (ls : Array Slot), va_P (dC, dI) vwCl (vX8 cI cJ cZ ad a.1) H → va_D A (vX8 cI cJ cZ ad a.1) → va_S A s.heap H locs → lv_has ls 3 [(0, .ref (ad 0)), (1, .int a.2.1), (2, .int a.2.2)] → W p l e ({ frames := 0, cells := 0, slots := 0, locals := 0 } : Room) s m args below meth c H locs 0 0 (MQ below (qI (dC, dI) (kT cI cJ cZ) (vX8 cI cJ cZ ad r.2) A r.1) args s 0 0 A) (F0 m 4 ls [])) : ∀ (a : St × Int32 × Int32), fX8_save_4 n k4 a = some r → ∀ (H : Heap) (locs : List Loc) (ls : Array Slot), va_P (dC, dI) vwCl (vX8 cI cJ cZ ad a.1) H → va_D A (vX8 cI cJ cZ ad a.1) → va_S A s.heap H locs → lv_has ls 3 [(0, .ref (ad 0)), (1, .int a.2.1), (2, .int a.2.2)] → W p l e ({ frames := 0, cells := 0, slots := 0, locals := 0 } : Room) s m args below meth c H locs 0 0 (MQ below (qI (dC, dI) (kT cI cJ cZ) (vX8 cI cJ cZ ad r.2) A r.1) args s 0 0 A) (F0 m 4 ls []) := by
  obtain ⟨hx, hb, hml, hown, hT, hr, hlocks⟩ := id C0
  intro a hd H locs ls hP hD hS hl
  unfold fX8_save_4 at hd
  refine lv_iload_n hx hb dX8_save_4 rfl (lv_at hl 2 rfl) ?_
  refine lv_aload_n hx hb dX8_save_5 rfl (lv_at hl 0 rfl) ?_
  refine gX8_0_4 C0 hK hP wm_12_4 rfl dX8_save_6 ?_
  refine lv_icmp_ge (tgt := 84) hx hb dX8_save_9 (by decide) (fun c_1 => ?_) (fun c_1 => ?_)
  · replace hd := i_t hd c_1
    refine lv_aload_n hx hb dX8_save_84 rfl (lv_at hl 0 rfl) ?_
    refine lv_aload_n hx hb dX8_save_85 rfl (lv_at hl 0 rfl) ?_
    refine gX8_0_4 C0 hK hP wm_12_4 rfl dX8_save_86 ?_
    refine pX8_0_31 C0 hK hP hD hS wm_25_21 dX8_save_89 (fun H locs hP hD hS => ?_)
    refine lv_aload_n hx hb dX8_save_92 rfl (lv_at hl 0 rfl) ?_
    refine lv_aload_n hx hb dX8_save_93 rfl (lv_at hl 0 rfl) ?_
    refine gX8_0_19 C0 hK hP wm_11_23 (sI_n (by decide)) dX8_save_94 ?_
    refine pX8_0_32 C0 hK hP hD hS wm_25_22 dX8_save_97 (fun H locs hP hD hS => ?_)
    refine lv_iload_n hx hb dX8_save_100 rfl (lv_at hl 1 rfl) ?_
    obtain rfl := Option.some.inj hd
    exact my_iret C0 hK hP hD hS dX8_save_101
  · replace hd := i_e hd c_1
    refine lv_aload_n hx hb dX8_save_12 rfl (lv_at hl 0 rfl) ?_
    refine gX8_0_33 C0 hK hP wm_7_3 dX8_save_13 ?_
    refine lv_iload_n hx hb dX8_save_16 rfl (lv_at hl 2 rfl) ?_
    refine lv_aload_n hx hb dX8_save_17 rfl (lv_at hl 0 rfl) ?_
    refine gX8_0_8 C0 hK hP wm_6_9 dX8_save_18 ?_
    refine lv_iload_n hx hb dX8_save_21 rfl (lv_at hl 2 rfl) ?_
    obtain ⟨g_2, hd⟩ := ix_some hd
    refine lX8_5 C0 hK hP rfl g_2 dX8_save_22 ?_
    obtain ⟨g_3, hd⟩ := ix_some hd
    refine aX8_23 C0 hK hP hD hS rfl g_3 dX8_save_23 (fun H locs hP hD hS => ?_)
    refine lv_aload_n hx hb dX8_save_24 rfl (lv_at hl 0 rfl) ?_
    refine gX8_0_34 C0 hK hP wm_7_4 dX8_save_25 ?_
    refine lv_iload_n hx hb dX8_save_28 rfl (lv_at hl 2 rfl) ?_
    refine lv_aload_n hx hb dX8_save_29 rfl (lv_at hl 0 rfl) ?_
    refine gX8_0_9 C0 hK hP wm_6_10 dX8_save_30 ?_
    refine lv_iload_n hx hb dX8_save_33 rfl (lv_at hl 2 rfl) ?_
    obtain ⟨g_4, hd⟩ := ix_some hd
    refine lX8_6 C0 hK hP (sA_n (by decide)) g_4 dX8_save_34 ?_
    obtain ⟨g_5, hd⟩ := ix_some hd
    refine aX8_24 C0 hK hP hD hS (sA_n (by decide)) g_5 dX8_save_35 (fun H locs hP hD hS => ?_)
    refine lv_aload_n hx hb dX8_save_36 rfl (lv_at hl 0 rfl) ?_
    refine gX8_0_35 C0 hK hP wm_7_5 dX8_save_37 ?_
    refine lv_iload_n hx hb dX8_save_40 rfl (lv_at hl 2 rfl) ?_
    refine lv_aload_n hx hb dX8_save_41 rfl (lv_at hl 0 rfl) ?_
    refine gX8_0_10 C0 hK hP wm_6_11 dX8_save_42 ?_
    refine lv_iload_n hx hb dX8_save_45 rfl (lv_at hl 2 rfl) ?_
    obtain ⟨g_6, hd⟩ := ix_some hd
    refine lX8_7 C0 hK hP ((sA_L).trans (sA_L)) g_6 dX8_save_46 ?_
    obtain ⟨g_7, hd⟩ := ix_some hd
    refine aX8_25 C0 hK hP hD hS ((sA_L).trans (sA_L)) g_7 dX8_save_47 (fun H locs hP hD hS => ?_)
    refine lv_aload_n hx hb dX8_save_48 rfl (lv_at hl 0 rfl) ?_
    refine gX8_0_36 C0 hK hP wm_7_6 dX8_save_49 ?_
    refine lv_iload_n hx hb dX8_save_52 rfl (lv_at hl 2 rfl) ?_
    refine lv_aload_n hx hb dX8_save_53 rfl (lv_at hl 0 rfl) ?_
    refine gX8_0_11 C0 hK hP wm_6_12 dX8_save_54 ?_
    refine lv_iload_n hx hb dX8_save_57 rfl (lv_at hl 2 rfl) ?_
    obtain ⟨g_8, hd⟩ := ix_some hd
    refine lX8_8 C0 hK hP ((sL_A).trans ((sA_n (by decide)).trans (sA_n (by decide)))) g_8 dX8_save_58 ?_
    obtain ⟨g_9, hd⟩ := ix_some hd
    refine aX8_26 C0 hK hP hD hS ((sL_A).trans ((sA_n (by decide)).trans (sA_n (by decide)))) g_9 dX8_save_59 (fun H locs hP hD hS => ?_)
    refine lv_iload_n hx hb dX8_save_60 rfl (lv_at hl 1 rfl) ?_
    refine lv_aload_n hx hb dX8_save_61 rfl (lv_at hl 0 rfl) ?_
    refine gX8_0_8 C0 hK hP wm_6_9 dX8_save_62 ?_
    refine lv_iload_n hx hb dX8_save_65 rfl (lv_at hl 2 rfl) ?_
    obtain ⟨g_10, hd⟩ := ix_some hd
    refine lX8_5 C0 hK hP ((sA_n (by decide)).trans ((sL_A).trans ((sA_n (by decide)).trans (sA_n (by decide))))) g_10 dX8_save_66 ?_
    refine lv_iconst (v := 3) hx hb dX8_save_67 (by decide) ?_
    refine lv_icmp_ge (tgt := 75) hx hb dX8_save_68 (by decide) (fun c_11 => ?_) (fun c_11 => ?_)
    · replace hd := i_t hd c_11
      refine lv_iconst (v := 0) hx hb dX8_save_75 (by decide) ?_
      exact bX8_save_76 C0 hK hX hA k4 ih4 _ hd _ _ _ hP hD hS (lv_sub hl [0, 2] rfl)
    · replace hd := i_e hd c_11
      refine lv_iconst (v := 1) hx hb dX8_save_71 (by decide) ?_
      refine lv_goto (tgt := 76) hx hb dX8_save_72 (by decide) ?_
      exact bX8_save_76 C0 hK hX hA k4 ih4 _ hd _ _ _ hP hD hS (lv_sub hl [0, 2] rfl)
set_option maxHeartbeats 4000000 in
set_option maxRecDepth 100000 in
theorem oX8_save_4 {p : Program} {l : Launch} {e : Env} {s : State} {m : MethodId} {args : Array Value} {below : List Frame} {meth : Method} {c : Code} {A : Nat → Prop} {dC : Nat → ClassId} {dI : Nat → Nat → Nat} {cI cJ cZ : ClassId} {ad : Nat → Nat} {r : Int32 × St} {n : Nat} (C0 : cx p s m args meth c cX8_save 3 RX8 (some .int)) (hK : va_K (dC, dI) vwCl (kT cI cJ cZ) s) (hX : xT s) (hA : ∀ q : Nat, s.heap.size ≤ q → A q)  : ∀ nn : Nat, ∀ (a : St × Int32 × Int32), loopF (fX8_save_4 n ) nn a = some r → ∀ (H : Heap) (locs : List Loc) (ls : Array Slot), va_P (dC, dI) vwCl (vX8 cI cJ cZ ad a.1) H → va_D A (vX8 cI cJ cZ ad a.1) → va_S A s.heap H locs → lv_has ls 3 [(0, .ref (ad 0)), (1, .int a.2.1), (2, .int a.2.2)] → W p l e ({ frames := 0, cells := 0, slots := 0, locals := 0 } : Room) s m args below meth c H locs 0 0 (MQ below (qI (dC, dI) (kT cI cJ cZ) (vX8 cI cJ cZ ad r.2) A r.1) args s 0 0 A) (F0 m 4 ls []) := by
  intro nn
  induction nn with
  | zero => intro a hd; cases hd
  | succ nn ih => intro a hd; exact bX8_save_4 C0 hK hX hA  _ ih a hd
def fX8_save (n : Nat) (σ : St)  : Option (Int32 × St) := loopF (fX8_save_4 n ) n (σ, (0 : Int32), (0 : Int32))
set_option maxHeartbeats 4000000 in
set_option maxRecDepth 100000 in
theorem mX8_save (l : Launch) (dC : Nat → ClassId) (dI : Nat → Nat → Nat) (cI cJ cZ : ClassId) (ad : Nat → Nat) (n : Nat) (σ : St)  {r : Int32 × St} (hd : fX8_save n σ  = some r) (sz : Nat)  : Met l yX8_save (wS yX8_save cX8_save 3 (some .int)) { frames := 0, cells := 0, slots := 0, locals := 0 } (pC (dC, dI) (kT cI cJ cZ) xT (vX8 cI cJ cZ ad σ) sz [.ref (ad 0)]) (qI (dC, dI) (kT cI cJ cZ) (vX8 cI cJ cZ ad r.2) (va_A (vX8 cI cJ cZ ad σ) sz) r.1) 0 0 (va_A (vX8 cI cJ cZ ad σ) sz) := by
  refine my_ent (fun A => qI (dC, dI) (kT cI cJ cZ) (vX8 cI cJ cZ ad r.2) A r.1) (by decide) (Nat.le_of_ble_eq_true rfl) ?_
  intro p e s m below meth c A hAe hnm C0 hK hX hP hD hA hS ls hl
  obtain ⟨hx, hb, hml, hown, hT, hr, hlocks⟩ := id C0
  unfold fX8_save at hd
  have hl : lv_has ls 3 [(0, .ref (ad 0))] := hl
  refine lv_iconst (v := 0) hx hb dX8_save_0 (by decide) ?_
  refine lv_istore_n (lv' := [(1, .int (0 : Int32)), (0, .ref (ad 0))]) hx hb dX8_save_1 rfl hl (by decide) rfl (fun ls hl => ?_)
  refine lv_iconst (v := 0) hx hb dX8_save_2 (by decide) ?_
  refine lv_istore_n (lv' := [(2, .int (0 : Int32)), (1, .int (0 : Int32)), (0, .ref (ad 0))]) hx hb dX8_save_3 rfl hl (by decide) rfl (fun ls hl => ?_)
  exact oX8_save_4 C0 hK hX hA  _ _ hd _ _ _ hP hD hS (lv_sub hl [2, 1, 0] rfl)
def fX8_restart_141 (n : Nat) (k20 : (St × Int32) → Option (Int32 × St)) (a : St × Int32) : Option (Int32 × St) := k20 (a.1, a.2 + 1)
set_option maxHeartbeats 4000000 in
set_option maxRecDepth 100000 in
theorem bX8_restart_141 {p : Program} {l : Launch} {e : Env} {s : State} {m : MethodId} {args : Array Value} {below : List Frame} {meth : Method} {c : Code} {A : Nat → Prop} {dC : Nat → ClassId} {dI : Nat → Nat → Nat} {cI cJ cZ : ClassId} {ad : Nat → Nat} {r : Int32 × St} {n : Nat} (C0 : cx p s m args meth c cX8_restart 2 RX8 (some .int)) (hK : va_K (dC, dI) vwCl (kT cI cJ cZ) s) (hX : xT s) (hA : ∀ q : Nat, s.heap.size ≤ q → A q) (k20 : (St × Int32) → Option (Int32 × St)) (ih20 : ∀ (a : St × Int32), k20 a = some r → ∀ (H : Heap) (locs : List Loc) (ls : Array Slot), va_P (dC, dI) vwCl (vX8 cI cJ cZ ad a.1) H → va_D A (vX8 cI cJ cZ ad a.1) → va_S A s.heap H locs → lv_has ls 2 [(0, .ref (ad 0)), (1, .int a.2)] → W p l e ({ frames := 4, cells := 0, slots := 0, locals := 91 } : Room) s m args below meth c H locs 0 0 (MQ below (qI (dC, dI) (kT cI cJ cZ) (vX8 cI cJ cZ ad r.2) A r.1) args s 0 0 A) (F0 m 20 ls [])) : ∀ (a : St × Int32), fX8_restart_141 n k20 a = some r → ∀ (H : Heap) (locs : List Loc) (ls : Array Slot), va_P (dC, dI) vwCl (vX8 cI cJ cZ ad a.1) H → va_D A (vX8 cI cJ cZ ad a.1) → va_S A s.heap H locs → lv_has ls 2 [(0, .ref (ad 0)), (1, .int a.2)] → W p l e ({ frames := 4, cells := 0, slots := 0, locals := 91 } : Room) s m args below meth c H locs 0 0 (MQ below (qI (dC, dI) (kT cI cJ cZ) (vX8 cI cJ cZ ad r.2) A r.1) args s 0 0 A) (F0 m 141 ls []) := by
  obtain ⟨hx, hb, hml, hown, hT, hr, hlocks⟩ := id C0
  intro a hd H locs ls hP hD hS hl
  unfold fX8_restart_141 at hd
  refine lv_iinc (v := a.2 + 1) (lv' := [(1, .int (a.2 + 1)), (0, .ref (ad 0))]) hx hb dX8_restart_141 hl (k := 1) rfl rfl (by decide) rfl (fun ls hl => ?_)
  refine lv_goto (tgt := 20) hx hb dX8_restart_144 (by decide) ?_
  exact ih20 _ hd _ _ _ hP hD hS (lv_sub hl [1, 0] rfl)
def fX8_restart_20 (n : Nat) (k20 : (St × Int32) → Option (Int32 × St)) (a : St × Int32) : Option (Int32 × St) := if (a.1.1 3) ≤ a.2 then ((fX8_goOn n (sI a.1 11 ((a.1.1 11) + (1 : Int32)))).bind (fun u_2 => (fX8_countOf n u_2 (1 : Int32)).bind (fun u_4 => some (u_4, u_2)))) else (if a.2 < (a.1.1 9) then (ix a.2 300 (ix a.2 300 (ix a.2 300 (ix a.2 300 (ix a.2 300 (ix a.2 300 (ix a.2 300 (ix a.2 300 (ix a.2 300 (if ((upd (a.1.2.1 2) a.2.toNatClampNeg ((a.1.2.1 15) a.2.toNatClampNeg)) a.2.toNatClampNeg) = (1 : Int32) then (ix a.2 300 (ix a.2 300 (ix (a.1.1 4) 300 (fX8_restart_141 n k20 (sI (sA (sA (sA (sL (sA (sA a.1 2 (upd (a.1.2.1 2) a.2.toNatClampNeg ((a.1.2.1 15) a.2.toNatClampNeg))) 3 (upd (a.1.2.1 3) a.2.toNatClampNeg ((a.1.2.1 16) a.2.toNatClampNeg))) 2 (vp_updL (a.1.2.2 2) a.2.toNatClampNeg ((a.1.2.2 7) a.2.toNatClampNeg))) 4 (upd (a.1.2.1 4) a.2.toNatClampNeg ((a.1.2.1 17) a.2.toNatClampNeg))) 4 (upd (upd (a.1.2.1 4) a.2.toNatClampNeg ((a.1.2.1 17) a.2.toNatClampNeg)) a.2.toNatClampNeg (((upd (a.1.2.1 4) a.2.toNatClampNeg ((a.1.2.1 17) a.2.toNatClampNeg)) a.2.toNatClampNeg) + (1 : Int32)))) 6 (upd (a.1.2.1 6) (a.1.1 4).toNatClampNeg a.2)) 4 ((a.1.1 4) + (1 : Int32)), a.2))))) else (fX8_restart_141 n k20 (sA (sL (sA (sA a.1 2 (upd (a.1.2.1 2) a.2.toNatClampNeg ((a.1.2.1 15) a.2.toNatClampNeg))) 3 (upd (a.1.2.1 3) a.2.toNatClampNeg ((a.1.2.1 16) a.2.toNatClampNeg))) 2 (vp_updL (a.1.2.2 2) a.2.toNatClampNeg ((a.1.2.2 7) a.2.toNatClampNeg))) 4 (upd (a.1.2.1 4) a.2.toNatClampNeg ((a.1.2.1 17) a.2.toNatClampNeg)), a.2)))))))))))) else (ix a.2 300 (ix a.2 300 (fX8_restart_141 n k20 (sA (sA a.1 2 (upd (a.1.2.1 2) a.2.toNatClampNeg (4 : Int32))) 4 (upd (a.1.2.1 4) a.2.toNatClampNeg (0 : Int32)), a.2)))))
set_option maxHeartbeats 4000000 in
set_option maxRecDepth 100000 in
theorem bX8_restart_20 {p : Program} {l : Launch} {e : Env} {s : State} {m : MethodId} {args : Array Value} {below : List Frame} {meth : Method} {c : Code} {A : Nat → Prop} {dC : Nat → ClassId} {dI : Nat → Nat → Nat} {cI cJ cZ : ClassId} {ad : Nat → Nat} {r : Int32 × St} {n : Nat} (C0 : cx p s m args meth c cX8_restart 2 RX8 (some .int)) (hK : va_K (dC, dI) vwCl (kT cI cJ cZ) s) (hX : xT s) (hA : ∀ q : Nat, s.heap.size ≤ q → A q) (k20 : (St × Int32) → Option (Int32 × St)) (ih20 : ∀ (a : St × Int32), k20 a = some r → ∀ (H : Heap) (locs : List Loc) (ls : Array Slot), va_P (dC, dI) vwCl (vX8 cI cJ cZ ad a.1) H → va_D A (vX8 cI cJ cZ ad a.1) → va_S A s.heap H locs → lv_has ls 2 [(0, .ref (ad 0)), (1, .int a.2)] → W p l e ({ frames := 4, cells := 0, slots := 0, locals := 91 } : Room) s m args below meth c H locs 0 0 (MQ below (qI (dC, dI) (kT cI cJ cZ) (vX8 cI cJ cZ ad r.2) A r.1) args s 0 0 A) (F0 m 20 ls [])) : ∀ (a : St × Int32), fX8_restart_20 n k20 a = some r → ∀ (H : Heap) (locs : List Loc) (ls : Array Slot), va_P (dC, dI) vwCl (vX8 cI cJ cZ ad a.1) H → va_D A (vX8 cI cJ cZ ad a.1) → va_S A s.heap H locs → lv_has ls 2 [(0, .ref (ad 0)), (1, .int a.2)] → W p l e ({ frames := 4, cells := 0, slots := 0, locals := 91 } : Room) s m args below meth c H locs 0 0 (MQ below (qI (dC, dI) (kT cI cJ cZ) (vX8 cI cJ cZ ad r.2) A r.1) args s 0 0 A) (F0 m 20 ls []) := by
  obtain ⟨hx, hb, hml, hown, hT, hr, hlocks⟩ := id C0
  intro a hd H locs ls hP hD hS hl
  unfold fX8_restart_20 at hd
  refine lv_iload_n hx hb dX8_restart_20 rfl (lv_at hl 1 rfl) ?_
  refine lv_aload_n hx hb dX8_restart_21 rfl (lv_at hl 0 rfl) ?_
  refine gX8_0_4 C0 hK hP wm_12_4 rfl dX8_restart_22 ?_
  refine lv_icmp_ge (tgt := 147) hx hb dX8_restart_25 (by decide) (fun c_1 => ?_) (fun c_1 => ?_)
  · replace hd := i_t hd c_1
    refine lv_aload_n hx hb dX8_restart_147 rfl (lv_at hl 0 rfl) ?_
    refine lv_dup hx hb dX8_restart_148 rfl ?_
    refine gX8_0_37 C0 hK hP wm_26_23 rfl dX8_restart_149 ?_
    refine lv_iconst (v := 1) hx hb dX8_restart_152 (by decide) ?_
    refine lv_iadd hx hb dX8_restart_153 ?_
    refine pX8_0_37 C0 hK hP hD hS wm_26_23 dX8_restart_154 (fun H locs hP hD hS => ?_)
    refine lv_aload_n hx hb dX8_restart_157 rfl (lv_at hl 0 rfl) ?_
    obtain ⟨u_2, hc_3, hd⟩ := bd hd
    refine cw_v (rest := []) C0 (mX8_goOn l dC dI cI cJ cZ ad n (sI a.1 11 ((a.1.1 11) + (1 : Int32)))  hc_3 _) gv_X8_149 yd_X8_goOn ⟨rfl, rfl, Nat.le_of_ble_eq_true rfl, Nat.le_of_ble_eq_true rfl, Nat.zero_le _, Nat.zero_le _⟩ xT_b xT_w hK hP hD hS hA hl.1 rfl (Nat.le_of_ble_eq_true rfl) dX8_restart_158 8 0 rfl rfl (fun H locs hP hD hS => ?_)
    refine lv_aload_n hx hb dX8_restart_161 rfl (lv_at hl 0 rfl) ?_
    refine lv_iconst (v := 1) hx hb dX8_restart_162 (by decide) ?_
    obtain ⟨u_4, hc_5, hd⟩ := bd hd
    refine cw_i (rest := []) C0 (mX8_countOf l dC dI cI cJ cZ ad n u_2 (1 : Int32) hc_5 _) gv_X8_115 yd_X8_countOf ⟨rfl, rfl, Nat.le_of_ble_eq_true rfl, Nat.le_of_ble_eq_true rfl, Nat.zero_le _, Nat.zero_le _⟩ xT_b xT_w hK hP hD hS hA hl.1 rfl (Nat.le_of_ble_eq_true rfl) dX8_restart_163 8 0 rfl rfl (fun H locs hP hD hS => ?_)
    obtain rfl := Option.some.inj hd
    exact my_iret C0 hK hP hD hS dX8_restart_166
  · replace hd := i_e hd c_1
    refine lv_iload_n hx hb dX8_restart_28 rfl (lv_at hl 1 rfl) ?_
    refine lv_aload_n hx hb dX8_restart_29 rfl (lv_at hl 0 rfl) ?_
    refine gX8_0_31 C0 hK hP wm_25_21 rfl dX8_restart_30 ?_
    refine lv_icmp_lt (tgt := 53) hx hb dX8_restart_33 (by decide) (fun c_6 => ?_) (fun c_6 => ?_)
    · replace hd := i_t hd c_6
      refine lv_aload_n hx hb dX8_restart_53 rfl (lv_at hl 0 rfl) ?_
      refine gX8_0_8 C0 hK hP wm_6_9 dX8_restart_54 ?_
      refine lv_iload_n hx hb dX8_restart_57 rfl (lv_at hl 1 rfl) ?_
      refine lv_aload_n hx hb dX8_restart_58 rfl (lv_at hl 0 rfl) ?_
      refine gX8_0_33 C0 hK hP wm_7_3 dX8_restart_59 ?_
      refine lv_iload_n hx hb dX8_restart_62 rfl (lv_at hl 1 rfl) ?_
      obtain ⟨g_7, hd⟩ := ix_some hd
      refine lX8_23 C0 hK hP rfl g_7 dX8_restart_63 ?_
      obtain ⟨g_8, hd⟩ := ix_some hd
      refine aX8_5 C0 hK hP hD hS rfl g_8 dX8_restart_64 (fun H locs hP hD hS => ?_)
      refine lv_aload_n hx hb dX8_restart_65 rfl (lv_at hl 0 rfl) ?_
      refine gX8_0_9 C0 hK hP wm_6_10 dX8_restart_66 ?_
      refine lv_iload_n hx hb dX8_restart_69 rfl (lv_at hl 1 rfl) ?_
      refine lv_aload_n hx hb dX8_restart_70 rfl (lv_at hl 0 rfl) ?_
      refine gX8_0_34 C0 hK hP wm_7_4 dX8_restart_71 ?_
      refine lv_iload_n hx hb dX8_restart_74 rfl (lv_at hl 1 rfl) ?_
      obtain ⟨g_9, hd⟩ := ix_some hd
      refine lX8_24 C0 hK hP (sA_n (by decide)) g_9 dX8_restart_75 ?_
      obtain ⟨g_10, hd⟩ := ix_some hd
      refine aX8_6 C0 hK hP hD hS (sA_n (by decide)) g_10 dX8_restart_76 (fun H locs hP hD hS => ?_)
      refine lv_aload_n hx hb dX8_restart_77 rfl (lv_at hl 0 rfl) ?_
      refine gX8_0_10 C0 hK hP wm_6_11 dX8_restart_78 ?_
      refine lv_iload_n hx hb dX8_restart_81 rfl (lv_at hl 1 rfl) ?_
      refine lv_aload_n hx hb dX8_restart_82 rfl (lv_at hl 0 rfl) ?_
      refine gX8_0_35 C0 hK hP wm_7_5 dX8_restart_83 ?_
      refine lv_iload_n hx hb dX8_restart_86 rfl (lv_at hl 1 rfl) ?_
      obtain ⟨g_11, hd⟩ := ix_some hd
      refine lX8_25 C0 hK hP ((sA_L).trans (sA_L)) g_11 dX8_restart_87 ?_
      obtain ⟨g_12, hd⟩ := ix_some hd
      refine aX8_7 C0 hK hP hD hS ((sA_L).trans (sA_L)) g_12 dX8_restart_88 (fun H locs hP hD hS => ?_)
      refine lv_aload_n hx hb dX8_restart_89 rfl (lv_at hl 0 rfl) ?_
      refine gX8_0_11 C0 hK hP wm_6_12 dX8_restart_90 ?_
      refine lv_iload_n hx hb dX8_restart_93 rfl (lv_at hl 1 rfl) ?_
      refine lv_aload_n hx hb dX8_restart_94 rfl (lv_at hl 0 rfl) ?_
      refine gX8_0_36 C0 hK hP wm_7_6 dX8_restart_95 ?_
      refine lv_iload_n hx hb dX8_restart_98 rfl (lv_at hl 1 rfl) ?_
      obtain ⟨g_13, hd⟩ := ix_some hd
      refine lX8_26 C0 hK hP ((sL_A).trans ((sA_n (by decide)).trans (sA_n (by decide)))) g_13 dX8_restart_99 ?_
      obtain ⟨g_14, hd⟩ := ix_some hd
      refine aX8_8 C0 hK hP hD hS ((sL_A).trans ((sA_n (by decide)).trans (sA_n (by decide)))) g_14 dX8_restart_100 (fun H locs hP hD hS => ?_)
      refine lv_aload_n hx hb dX8_restart_101 rfl (lv_at hl 0 rfl) ?_
      refine gX8_0_8 C0 hK hP wm_6_9 dX8_restart_102 ?_
      refine lv_iload_n hx hb dX8_restart_105 rfl (lv_at hl 1 rfl) ?_
      obtain ⟨g_15, hd⟩ := ix_some hd
      refine lX8_5 C0 hK hP ((sA_n (by decide)).trans ((sL_A).trans ((sA_n (by decide)).trans sA_s))) g_15 dX8_restart_106 ?_
      refine lv_iconst (v := 1) hx hb dX8_restart_107 (by decide) ?_
      refine lv_icmp_ne (tgt := 141) hx hb dX8_restart_108 (by decide) (fun c_16 => ?_) (fun c_16 => ?_)
      · replace hd := i_e hd c_16
        exact bX8_restart_141 C0 hK hX hA k20 ih20 _ hd _ _ _ hP hD hS (lv_sub hl [0, 1] rfl)
      · replace hd := i_t hd c_16
        refine lv_aload_n hx hb dX8_restart_111 rfl (lv_at hl 0 rfl) ?_
        refine gX8_0_11 C0 hK hP wm_6_12 dX8_restart_112 ?_
        refine lv_iload_n hx hb dX8_restart_115 rfl (lv_at hl 1 rfl) ?_
        refine lv_dup2_11 hx hb dX8_restart_116 rfl rfl ?_
        obtain ⟨g_17, hd⟩ := ix_some hd
        refine lX8_8 C0 hK hP sA_s g_17 dX8_restart_117 ?_
        refine lv_iconst (v := 1) hx hb dX8_restart_118 (by decide) ?_
        refine lv_iadd hx hb dX8_restart_119 ?_
        obtain ⟨g_18, hd⟩ := ix_some hd
        refine aX8_8 C0 hK hP hD hS sA_s g_18 dX8_restart_120 (fun H locs hP hD hS => ?_)
        refine lv_aload_n hx hb dX8_restart_121 rfl (lv_at hl 0 rfl) ?_
        refine gX8_0_13 C0 hK hP wm_6_14 dX8_restart_122 ?_
        refine lv_aload_n hx hb dX8_restart_125 rfl (lv_at hl 0 rfl) ?_
        refine gX8_0_14 C0 hK hP wm_11_20 ((sA_I).trans ((sA_I).trans ((sL_I).trans ((sA_I).trans (sA_I))))) dX8_restart_126 ?_
        refine lv_iload_n hx hb dX8_restart_129 rfl (lv_at hl 1 rfl) ?_
        obtain ⟨g_19, hd⟩ := ix_some hd
        refine aX8_10 C0 hK hP hD hS ((sA_n (by decide)).trans ((sA_n (by decide)).trans ((sL_A).trans ((sA_n (by decide)).trans (sA_n (by decide)))))) g_19 dX8_restart_130 (fun H locs hP hD hS => ?_)
        refine lv_aload_n hx hb dX8_restart_131 rfl (lv_at hl 0 rfl) ?_
        refine lv_dup hx hb dX8_restart_132 rfl ?_
        refine gX8_0_14 C0 hK hP wm_11_20 ((sA_I).trans ((sA_I).trans ((sA_I).trans ((sL_I).trans ((sA_I).trans (sA_I)))))) dX8_restart_133 ?_
        refine lv_iconst (v := 1) hx hb dX8_restart_136 (by decide) ?_
        refine lv_iadd hx hb dX8_restart_137 ?_
        refine pX8_0_14 C0 hK hP hD hS wm_11_20 dX8_restart_138 (fun H locs hP hD hS => ?_)
        exact bX8_restart_141 C0 hK hX hA k20 ih20 _ hd _ _ _ hP hD hS (lv_sub hl [0, 1] rfl)
    · replace hd := i_e hd c_6
      refine lv_aload_n hx hb dX8_restart_36 rfl (lv_at hl 0 rfl) ?_
      refine gX8_0_8 C0 hK hP wm_6_9 dX8_restart_37 ?_
      refine lv_iload_n hx hb dX8_restart_40 rfl (lv_at hl 1 rfl) ?_
      refine lv_iconst (v := 4) hx hb dX8_restart_41 (by decide) ?_
      obtain ⟨g_20, hd⟩ := ix_some hd
      refine aX8_5 C0 hK hP hD hS rfl g_20 dX8_restart_42 (fun H locs hP hD hS => ?_)
      refine lv_aload_n hx hb dX8_restart_43 rfl (lv_at hl 0 rfl) ?_
      refine gX8_0_11 C0 hK hP wm_6_12 dX8_restart_44 ?_
      refine lv_iload_n hx hb dX8_restart_47 rfl (lv_at hl 1 rfl) ?_
      refine lv_iconst (v := 0) hx hb dX8_restart_48 (by decide) ?_
      obtain ⟨g_21, hd⟩ := ix_some hd
      refine aX8_8 C0 hK hP hD hS (sA_n (by decide)) g_21 dX8_restart_49 (fun H locs hP hD hS => ?_)
      refine lv_goto (tgt := 141) hx hb dX8_restart_50 (by decide) ?_
      exact bX8_restart_141 C0 hK hX hA k20 ih20 _ hd _ _ _ hP hD hS (lv_sub hl [0, 1] rfl)
set_option maxHeartbeats 4000000 in
set_option maxRecDepth 100000 in
theorem oX8_restart_20 {p : Program} {l : Launch} {e : Env} {s : State} {m : MethodId} {args : Array Value} {below : List Frame} {meth : Method} {c : Code} {A : Nat → Prop} {dC : Nat → ClassId} {dI : Nat → Nat → Nat} {cI cJ cZ : ClassId} {ad : Nat → Nat} {r : Int32 × St} {n : Nat} (C0 : cx p s m args meth c cX8_restart 2 RX8 (some .int)) (hK : va_K (dC, dI) vwCl (kT cI cJ cZ) s) (hX : xT s) (hA : ∀ q : Nat, s.heap.size ≤ q → A q)  : ∀ nn : Nat, ∀ (a : St × Int32), loopF (fX8_restart_20 n ) nn a = some r → ∀ (H : Heap) (locs : List Loc) (ls : Array Slot), va_P (dC, dI) vwCl (vX8 cI cJ cZ ad a.1) H → va_D A (vX8 cI cJ cZ ad a.1) → va_S A s.heap H locs → lv_has ls 2 [(0, .ref (ad 0)), (1, .int a.2)] → W p l e ({ frames := 4, cells := 0, slots := 0, locals := 91 } : Room) s m args below meth c H locs 0 0 (MQ below (qI (dC, dI) (kT cI cJ cZ) (vX8 cI cJ cZ ad r.2) A r.1) args s 0 0 A) (F0 m 20 ls []) := by
  intro nn
  induction nn with
  | zero => intro a hd; cases hd
  | succ nn ih => intro a hd; exact bX8_restart_20 C0 hK hX hA  _ ih a hd
def fX8_restart (n : Nat) (σ : St)  : Option (Int32 × St) := loopF (fX8_restart_20 n ) n (sI (sI (sI σ 7 (σ.1 10)) 4 (0 : Int32)) 8 (0 : Int32), (0 : Int32))
set_option maxHeartbeats 4000000 in
set_option maxRecDepth 100000 in
theorem mX8_restart (l : Launch) (dC : Nat → ClassId) (dI : Nat → Nat → Nat) (cI cJ cZ : ClassId) (ad : Nat → Nat) (n : Nat) (σ : St)  {r : Int32 × St} (hd : fX8_restart n σ  = some r) (sz : Nat)  : Met l yX8_restart (wS yX8_restart cX8_restart 2 (some .int)) { frames := 4, cells := 0, slots := 0, locals := 91 } (pC (dC, dI) (kT cI cJ cZ) xT (vX8 cI cJ cZ ad σ) sz [.ref (ad 0)]) (qI (dC, dI) (kT cI cJ cZ) (vX8 cI cJ cZ ad r.2) (va_A (vX8 cI cJ cZ ad σ) sz) r.1) 0 0 (va_A (vX8 cI cJ cZ ad σ) sz) := by
  refine my_ent (fun A => qI (dC, dI) (kT cI cJ cZ) (vX8 cI cJ cZ ad r.2) A r.1) (by decide) (Nat.le_of_ble_eq_true rfl) ?_
  intro p e s m below meth c A hAe hnm C0 hK hX hP hD hA hS ls hl
  obtain ⟨hx, hb, hml, hown, hT, hr, hlocks⟩ := id C0
  unfold fX8_restart at hd
  have hl : lv_has ls 2 [(0, .ref (ad 0))] := hl
  refine lv_aload_n hx hb dX8_restart_0 rfl (lv_at hl 0 rfl) ?_
  refine lv_aload_n hx hb dX8_restart_1 rfl (lv_at hl 0 rfl) ?_
  refine gX8_0_32 C0 hK hP wm_25_22 rfl dX8_restart_2 ?_
  refine pX8_0_19 C0 hK hP hD hS wm_11_23 dX8_restart_5 (fun H locs hP hD hS => ?_)
  refine lv_aload_n hx hb dX8_restart_8 rfl (lv_at hl 0 rfl) ?_
  refine lv_iconst (v := 0) hx hb dX8_restart_9 (by decide) ?_
  refine pX8_0_14 C0 hK hP hD hS wm_11_20 dX8_restart_10 (fun H locs hP hD hS => ?_)
  refine lv_aload_n hx hb dX8_restart_13 rfl (lv_at hl 0 rfl) ?_
  refine lv_iconst (v := 0) hx hb dX8_restart_14 (by decide) ?_
  refine pX8_0_30 C0 hK hP hD hS wm_12_13 dX8_restart_15 (fun H locs hP hD hS => ?_)
  refine lv_iconst (v := 0) hx hb dX8_restart_18 (by decide) ?_
  refine lv_istore_n (lv' := [(1, .int (0 : Int32)), (0, .ref (ad 0))]) hx hb dX8_restart_19 rfl hl (by decide) rfl (fun ls hl => ?_)
  exact oX8_restart_20 C0 hK hX hA  _ _ hd _ _ _ hP hD hS (lv_sub hl [1, 0] rfl)
def fX8_told (n : Nat) (σ : St) (p1 : Int32) : Option (Int32) := if p1 = 0 then (some (σ.1 2)) else (if p1 = 1 then (some (σ.1 3)) else (if p1 = 2 then (some (σ.1 7)) else (if p1 = 3 then ((fX8_countOf n σ (p1 - (3 : Int32))).bind (fun u_5 => some u_5)) else (if p1 = 4 then ((fX8_countOf n σ (p1 - (3 : Int32))).bind (fun u_8 => some u_8)) else (if p1 = 5 then ((fX8_countOf n σ (p1 - (3 : Int32))).bind (fun u_11 => some u_11)) else (if p1 = 6 then (some (σ.1 4)) else (if p1 = 7 then (ix (p1 - (7 : Int32)) 2 (some ((σ.2.1 11) (p1 - (7 : Int32)).toNatClampNeg))) else (if p1 = 8 then (ix (p1 - (7 : Int32)) 2 (some ((σ.2.1 11) (p1 - (7 : Int32)).toNatClampNeg))) else (if p1 = 9 then (some (σ.1 8)) else (if p1 = 10 then (some (σ.1 6)) else (if p1 = 11 then (some (σ.1 5)) else (if p1 = 12 then (some (σ.1 11)) else (some (-1 : Int32))))))))))))))
set_option maxHeartbeats 4000000 in
set_option maxRecDepth 100000 in
theorem mX8_told (l : Launch) (dC : Nat → ClassId) (dI : Nat → Nat → Nat) (cI cJ cZ : ClassId) (ad : Nat → Nat) (n : Nat) (σ : St) (p1 : Int32) {r : Int32} (hd : fX8_told n σ p1 = some r) (sz : Nat)  : Met l yX8_told (wS yX8_told cX8_told 2 (some .int)) { frames := 1, cells := 0, slots := 0, locals := 23 } (pC (dC, dI) (kT cI cJ cZ) xT (vX8 cI cJ cZ ad σ) sz [.ref (ad 0), .int p1]) (qI (dC, dI) (kT cI cJ cZ) (vX8 cI cJ cZ ad σ) (va_A (vX8 cI cJ cZ ad σ) sz) r) 0 0 (va_A (vX8 cI cJ cZ ad σ) sz) := by
  refine my_ent (fun A => qI (dC, dI) (kT cI cJ cZ) (vX8 cI cJ cZ ad σ) A r) (by decide) (Nat.le_of_ble_eq_true rfl) ?_
  intro p e s m below meth c A hAe hnm C0 hK hX hP hD hA hS ls hl
  obtain ⟨hx, hb, hml, hown, hT, hr, hlocks⟩ := id C0
  unfold fX8_told at hd
  have hl : lv_has ls 2 [(0, .ref (ad 0)), (1, .int p1)] := hl
  refine lv_iload_n hx hb dX8_told_0 rfl (lv_at hl 1 rfl) ?_
  by_cases c_1 : p1 = 0
  · replace hd := i_t hd c_1
    refine lv_tableIn (tgt := 68) (off := 67) hx hb dX8_told_1 (by rw [c_1]; decide) (by rw [c_1]; decide) (by rw [c_1]; rfl) (by decide) ?_
    refine lv_aload_n hx hb dX8_told_68 rfl (lv_at hl 0 rfl) ?_
    refine gX8_0_2 C0 hK hP wm_11_19 rfl dX8_told_69 ?_
    obtain rfl := Option.some.inj hd
    exact my_iret C0 hK hP hD hS dX8_told_72
  replace hd := i_e hd c_1
  by_cases c_2 : p1 = 1
  · replace hd := i_t hd c_2
    refine lv_tableIn (tgt := 73) (off := 72) hx hb dX8_told_1 (by rw [c_2]; decide) (by rw [c_2]; decide) (by rw [c_2]; rfl) (by decide) ?_
    refine lv_aload_n hx hb dX8_told_73 rfl (lv_at hl 0 rfl) ?_
    refine gX8_0_4 C0 hK hP wm_12_4 rfl dX8_told_74 ?_
    obtain rfl := Option.some.inj hd
    exact my_iret C0 hK hP hD hS dX8_told_77
  replace hd := i_e hd c_2
  by_cases c_3 : p1 = 2
  · replace hd := i_t hd c_3
    refine lv_tableIn (tgt := 78) (off := 77) hx hb dX8_told_1 (by rw [c_3]; decide) (by rw [c_3]; decide) (by rw [c_3]; rfl) (by decide) ?_
    refine lv_aload_n hx hb dX8_told_78 rfl (lv_at hl 0 rfl) ?_
    refine gX8_0_19 C0 hK hP wm_11_23 rfl dX8_told_79 ?_
    obtain rfl := Option.some.inj hd
    exact my_iret C0 hK hP hD hS dX8_told_82
  replace hd := i_e hd c_3
  by_cases c_4 : p1 = 3
  · replace hd := i_t hd c_4
    refine lv_tableIn (tgt := 83) (off := 82) hx hb dX8_told_1 (by rw [c_4]; decide) (by rw [c_4]; decide) (by rw [c_4]; rfl) (by decide) ?_
    refine lv_aload_n hx hb dX8_told_83 rfl (lv_at hl 0 rfl) ?_
    refine lv_iload_n hx hb dX8_told_84 rfl (lv_at hl 1 rfl) ?_
    refine lv_iconst (v := 3) hx hb dX8_told_85 (by decide) ?_
    refine lv_isub hx hb dX8_told_86 ?_
    obtain ⟨u_5, hc_6, hd⟩ := bd hd
    refine cw_i (rest := []) C0 (mX8_countOf l dC dI cI cJ cZ ad n σ (p1 - (3 : Int32)) hc_6 _) gv_X8_115 yd_X8_countOf ⟨rfl, rfl, Nat.le_of_ble_eq_true rfl, Nat.le_of_ble_eq_true rfl, Nat.zero_le _, Nat.zero_le _⟩ xT_b xT_w hK hP hD hS hA hl.1 rfl (Nat.le_of_ble_eq_true rfl) dX8_told_87 8 0 rfl rfl (fun H locs hP hD hS => ?_)
    obtain rfl := Option.some.inj hd
    exact my_iret C0 hK hP hD hS dX8_told_90
  replace hd := i_e hd c_4
  by_cases c_7 : p1 = 4
  · replace hd := i_t hd c_7
    refine lv_tableIn (tgt := 83) (off := 82) hx hb dX8_told_1 (by rw [c_7]; decide) (by rw [c_7]; decide) (by rw [c_7]; rfl) (by decide) ?_
    refine lv_aload_n hx hb dX8_told_83 rfl (lv_at hl 0 rfl) ?_
    refine lv_iload_n hx hb dX8_told_84 rfl (lv_at hl 1 rfl) ?_
    refine lv_iconst (v := 3) hx hb dX8_told_85 (by decide) ?_
    refine lv_isub hx hb dX8_told_86 ?_
    obtain ⟨u_8, hc_9, hd⟩ := bd hd
    refine cw_i (rest := []) C0 (mX8_countOf l dC dI cI cJ cZ ad n σ (p1 - (3 : Int32)) hc_9 _) gv_X8_115 yd_X8_countOf ⟨rfl, rfl, Nat.le_of_ble_eq_true rfl, Nat.le_of_ble_eq_true rfl, Nat.zero_le _, Nat.zero_le _⟩ xT_b xT_w hK hP hD hS hA hl.1 rfl (Nat.le_of_ble_eq_true rfl) dX8_told_87 8 0 rfl rfl (fun H locs hP hD hS => ?_)
    obtain rfl := Option.some.inj hd
    exact my_iret C0 hK hP hD hS dX8_told_90
  replace hd := i_e hd c_7
  by_cases c_10 : p1 = 5
  · replace hd := i_t hd c_10
    refine lv_tableIn (tgt := 83) (off := 82) hx hb dX8_told_1 (by rw [c_10]; decide) (by rw [c_10]; decide) (by rw [c_10]; rfl) (by decide) ?_
    refine lv_aload_n hx hb dX8_told_83 rfl (lv_at hl 0 rfl) ?_
    refine lv_iload_n hx hb dX8_told_84 rfl (lv_at hl 1 rfl) ?_
    refine lv_iconst (v := 3) hx hb dX8_told_85 (by decide) ?_
    refine lv_isub hx hb dX8_told_86 ?_
    obtain ⟨u_11, hc_12, hd⟩ := bd hd
    refine cw_i (rest := []) C0 (mX8_countOf l dC dI cI cJ cZ ad n σ (p1 - (3 : Int32)) hc_12 _) gv_X8_115 yd_X8_countOf ⟨rfl, rfl, Nat.le_of_ble_eq_true rfl, Nat.le_of_ble_eq_true rfl, Nat.zero_le _, Nat.zero_le _⟩ xT_b xT_w hK hP hD hS hA hl.1 rfl (Nat.le_of_ble_eq_true rfl) dX8_told_87 8 0 rfl rfl (fun H locs hP hD hS => ?_)
    obtain rfl := Option.some.inj hd
    exact my_iret C0 hK hP hD hS dX8_told_90
  replace hd := i_e hd c_10
  by_cases c_13 : p1 = 6
  · replace hd := i_t hd c_13
    refine lv_tableIn (tgt := 91) (off := 90) hx hb dX8_told_1 (by rw [c_13]; decide) (by rw [c_13]; decide) (by rw [c_13]; rfl) (by decide) ?_
    refine lv_aload_n hx hb dX8_told_91 rfl (lv_at hl 0 rfl) ?_
    refine gX8_0_14 C0 hK hP wm_11_20 rfl dX8_told_92 ?_
    obtain rfl := Option.some.inj hd
    exact my_iret C0 hK hP hD hS dX8_told_95
  replace hd := i_e hd c_13
  by_cases c_14 : p1 = 7
  · replace hd := i_t hd c_14
    refine lv_tableIn (tgt := 96) (off := 95) hx hb dX8_told_1 (by rw [c_14]; decide) (by rw [c_14]; decide) (by rw [c_14]; rfl) (by decide) ?_
    refine lv_aload_n hx hb dX8_told_96 rfl (lv_at hl 0 rfl) ?_
    refine gX8_0_23 C0 hK hP wm_6_20 dX8_told_97 ?_
    refine lv_iload_n hx hb dX8_told_100 rfl (lv_at hl 1 rfl) ?_
    refine lv_bipush (v := 7) hx hb dX8_told_101 (by decide) ?_
    refine lv_isub hx hb dX8_told_103 ?_
    obtain ⟨g_15, hd⟩ := ix_some hd
    refine lX8_16 C0 hK hP rfl g_15 dX8_told_104 ?_
    obtain rfl := Option.some.inj hd
    exact my_iret C0 hK hP hD hS dX8_told_105
  replace hd := i_e hd c_14
  by_cases c_16 : p1 = 8
  · replace hd := i_t hd c_16
    refine lv_tableIn (tgt := 96) (off := 95) hx hb dX8_told_1 (by rw [c_16]; decide) (by rw [c_16]; decide) (by rw [c_16]; rfl) (by decide) ?_
    refine lv_aload_n hx hb dX8_told_96 rfl (lv_at hl 0 rfl) ?_
    refine gX8_0_23 C0 hK hP wm_6_20 dX8_told_97 ?_
    refine lv_iload_n hx hb dX8_told_100 rfl (lv_at hl 1 rfl) ?_
    refine lv_bipush (v := 7) hx hb dX8_told_101 (by decide) ?_
    refine lv_isub hx hb dX8_told_103 ?_
    obtain ⟨g_17, hd⟩ := ix_some hd
    refine lX8_16 C0 hK hP rfl g_17 dX8_told_104 ?_
    obtain rfl := Option.some.inj hd
    exact my_iret C0 hK hP hD hS dX8_told_105
  replace hd := i_e hd c_16
  by_cases c_18 : p1 = 9
  · replace hd := i_t hd c_18
    refine lv_tableIn (tgt := 106) (off := 105) hx hb dX8_told_1 (by rw [c_18]; decide) (by rw [c_18]; decide) (by rw [c_18]; rfl) (by decide) ?_
    refine lv_aload_n hx hb dX8_told_106 rfl (lv_at hl 0 rfl) ?_
    refine gX8_0_30 C0 hK hP wm_12_13 rfl dX8_told_107 ?_
    obtain rfl := Option.some.inj hd
    exact my_iret C0 hK hP hD hS dX8_told_110
  replace hd := i_e hd c_18
  by_cases c_19 : p1 = 10
  · replace hd := i_t hd c_19
    refine lv_tableIn (tgt := 111) (off := 110) hx hb dX8_told_1 (by rw [c_19]; decide) (by rw [c_19]; decide) (by rw [c_19]; rfl) (by decide) ?_
    refine lv_aload_n hx hb dX8_told_111 rfl (lv_at hl 0 rfl) ?_
    refine gX8_0_16 C0 hK hP wm_11_22 rfl dX8_told_112 ?_
    obtain rfl := Option.some.inj hd
    exact my_iret C0 hK hP hD hS dX8_told_115
  replace hd := i_e hd c_19
  by_cases c_20 : p1 = 11
  · replace hd := i_t hd c_20
    refine lv_tableIn (tgt := 116) (off := 115) hx hb dX8_told_1 (by rw [c_20]; decide) (by rw [c_20]; decide) (by rw [c_20]; rfl) (by decide) ?_
    refine lv_aload_n hx hb dX8_told_116 rfl (lv_at hl 0 rfl) ?_
    refine gX8_0_15 C0 hK hP wm_11_21 rfl dX8_told_117 ?_
    obtain rfl := Option.some.inj hd
    exact my_iret C0 hK hP hD hS dX8_told_120
  replace hd := i_e hd c_20
  by_cases c_21 : p1 = 12
  · replace hd := i_t hd c_21
    refine lv_tableIn (tgt := 121) (off := 120) hx hb dX8_told_1 (by rw [c_21]; decide) (by rw [c_21]; decide) (by rw [c_21]; rfl) (by decide) ?_
    refine lv_aload_n hx hb dX8_told_121 rfl (lv_at hl 0 rfl) ?_
    refine gX8_0_37 C0 hK hP wm_26_23 rfl dX8_told_122 ?_
    obtain rfl := Option.some.inj hd
    exact my_iret C0 hK hP hD hS dX8_told_125
  replace hd := i_e hd c_21
  refine lv_tableOut (tgt := 126) hx hb dX8_told_1 (by have := lv_neT (a := 0) c_1 (by decide); have := lv_neT (a := 1) c_2 (by decide); have := lv_neT (a := 2) c_3 (by decide); have := lv_neT (a := 3) c_4 (by decide); have := lv_neT (a := 4) c_7 (by decide); have := lv_neT (a := 5) c_10 (by decide); have := lv_neT (a := 6) c_13 (by decide); have := lv_neT (a := 7) c_14 (by decide); have := lv_neT (a := 8) c_16 (by decide); have := lv_neT (a := 9) c_18 (by decide); have := lv_neT (a := 10) c_19 (by decide); have := lv_neT (a := 11) c_20 (by decide); have := lv_neT (a := 12) c_21 (by decide); omega) (by decide) ?_
  refine lv_iconst (v := (-1)) hx hb dX8_told_126 (by decide) ?_
  obtain rfl := Option.some.inj hd
  exact my_iret C0 hK hP hD hS dX8_told_127
