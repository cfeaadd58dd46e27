def fX7_lineOf (ad : Nat → Nat) (σ : St) (p1 : Int32) : Option (Option Nat) := if p1 = 0 then (some (some (ad 26))) else (if p1 = (1 : Int32) then (some (some (ad 30))) else (some (none)))
set_option maxHeartbeats 4000000 in
set_option maxRecDepth 100000 in
theorem mX7_lineOf (l : Launch) (dC : Nat → ClassId) (dI : Nat → Nat → Nat) (cI cJ cZ : ClassId) (ad : Nat → Nat) (σ : St) (p1 : Int32) {r : Option Nat} (hd : fX7_lineOf ad σ p1 = some r) (sz : Nat)  : Met l yX7_lineOf (wS yX7_lineOf cX7_lineOf 2 (some (.object "OutsideAsks$Line"))) { frames := 0, cells := 0, slots := 0, locals := 0 } (pC (dC, dI) (kT cI cJ cZ) xC (vX7 cI cJ cZ ad σ) sz [.ref (ad 0), .int p1]) (qQ (dC, dI) (kT cI cJ cZ) (vX7 cI cJ cZ ad σ) (va_A (vX7 cI cJ cZ ad σ) sz) r) 0 0 (va_A (vX7 cI cJ cZ ad σ) sz) := by
  refine my_ent (fun A => qQ (dC, dI) (kT cI cJ cZ) (vX7 cI cJ cZ ad σ) A r) (by decide) (Nat.le_of_ble_eq_true rfl) ?_
  intro p e s m below meth c A hAe hnm C0 hK hX hP hD hA hS ls hl
  obtain ⟨hx, hb, hml, hown, hT, hr, hlocks⟩ := id C0
  unfold fX7_lineOf at hd
  have hl : lv_has ls 2 [(0, .ref (ad 0)), (1, .int p1)] := hl
  refine lv_iload_n hx hb dX7_lineOf_0 rfl (lv_at hl 1 rfl) ?_
  refine lv_if_ne (tgt := 9) hx hb dX7_lineOf_1 (by decide) (fun c_1 => ?_) (fun c_1 => ?_)
  · replace hd := i_e hd c_1
    refine lv_iload_n hx hb dX7_lineOf_9 rfl (lv_at hl 1 rfl) ?_
    refine lv_iconst (v := 1) hx hb dX7_lineOf_10 (by decide) ?_
    refine lv_icmp_ne (tgt := 21) hx hb dX7_lineOf_11 (by decide) (fun c_2 => ?_) (fun c_2 => ?_)
    · replace hd := i_e hd c_2
      refine lv_null hx hb dX7_lineOf_21 ?_
      obtain rfl := Option.some.inj hd
      exact my_qret (r := none) C0 hK hP hD hS dX7_lineOf_22
    · replace hd := i_t hd c_2
      refine lv_aload_n hx hb dX7_lineOf_14 rfl (lv_at hl 0 rfl) ?_
      refine gX7_0_11 C0 hK hP wm_3_0 dX7_lineOf_15 ?_
      refine lv_goto (tgt := 22) hx hb dX7_lineOf_18 (by decide) ?_
      obtain rfl := Option.some.inj hd
      exact my_qret (r := some (ad 30)) C0 hK hP hD hS dX7_lineOf_22
  · replace hd := i_t hd c_1
    refine lv_aload_n hx hb dX7_lineOf_4 rfl (lv_at hl 0 rfl) ?_
    refine gX7_0_10 C0 hK hP wm_2_23 dX7_lineOf_5 ?_
    obtain rfl := Option.some.inj hd
    exact my_qret (r := some (ad 26)) C0 hK hP hD hS dX7_lineOf_8
def fX7_startRow (n : Nat) (σ : St) (p1 : Int32) : Option (St) := (fX0_keyOf (σ.2.2 0) (σ.2.2 1) (σ.2.1 1) (σ.2.1 2) p1).bind (fun u_1 => (fX1_endOf n (σ.2.2 8) (σ.2.2 9) (σ.2.1 21) (σ.1 11) u_1).bind (fun u_3 => if u_3 < (σ.1 12) then ((fX4_startTrying (σ.2.1 3) (σ.2.1 4) (σ.2.1 5) (σ.2.2 2) (σ.1 2) (σ.1 3) (σ.1 16) (σ.1 17) p1).bind (fun u_6 => (fX5_append (σ.2.1 13) (σ.1 6) p1).bind (fun u_8 => (fX5_append (σ.2.1 14) (σ.1 7) p1).bind (fun u_10 => some (sI (sA (sI (sA (sI (sA (sA σ 3 u_6.1) 5 u_6.2.1) 16 u_6.2.2) 13 u_8.1) 6 u_8.2) 14 u_10.1) 7 u_10.2))))) else ((fX1_valueOf n (σ.2.2 8) (σ.2.2 9) (σ.2.1 21) (σ.1 11) u_1).bind (fun u_12 => (fX4_settleRow (σ.2.1 3) (σ.2.1 4) (σ.2.1 5) (σ.2.2 2) (σ.1 2) (σ.1 3) (σ.1 16) (σ.1 17) p1 (1 : Int32) u_12).bind (fun u_14 => some (sI (sI (sL (sA (sA σ 3 u_14.1) 4 u_14.2.1) 2 u_14.2.2.1) 16 u_14.2.2.2.1) 17 u_14.2.2.2.2))))))
set_option maxHeartbeats 4000000 in
set_option maxRecDepth 100000 in
theorem mX7_startRow (l : Launch) (dC : Nat → ClassId) (dI : Nat → Nat → Nat) (cI cJ cZ : ClassId) (ad : Nat → Nat) (n : Nat) (σ : St) (p1 : Int32) {r : St} (hd : fX7_startRow n σ p1 = some r) (sz : Nat)  : Met l yX7_startRow (wS yX7_startRow cX7_startRow 4 none) { frames := 2, cells := 0, slots := 0, locals := 46 } (pC (dC, dI) (kT cI cJ cZ) xC (vX7 cI cJ cZ ad σ) sz [.ref (ad 0), .int p1]) (qV (dC, dI) (kT cI cJ cZ) (vX7 cI cJ cZ ad r) (va_A (vX7 cI cJ cZ ad σ) sz)) 0 0 (va_A (vX7 cI cJ cZ ad σ) sz) := by
  refine my_ent (fun A => qV (dC, dI) (kT cI cJ cZ) (vX7 cI cJ cZ ad r) A) (by decide) (Nat.le_of_ble_eq_true rfl) ?_
  intro p e s m below meth c A hAe hnm C0 hK hX hP hD hA hS ls hl
  obtain ⟨hx, hb, hml, hown, hT, hr, hlocks⟩ := id C0
  unfold fX7_startRow at hd
  have hl : lv_has ls 4 [(0, .ref (ad 0)), (1, .int p1)] := hl
  refine lv_aload_n hx hb dX7_startRow_0 rfl (lv_at hl 0 rfl) ?_
  refine gX7_0_3 C0 hK hP wm_2_4 dX7_startRow_1 ?_
  refine lv_iload_n hx hb dX7_startRow_4 rfl (lv_at hl 1 rfl) ?_
  obtain ⟨u_1, hc_2, hd⟩ := bd hd
  refine cv_l (rest := []) C0 (mX0_keyOf l dC dI cI cJ cZ (ad 2) (ad 3) (ad 4) (ad 5) (ad 6) (σ.2.2 0) (σ.2.2 1) (σ.2.1 1) (σ.2.1 2) p1 hc_2 _) gv_X7_151 yd_X0_keyOf ⟨rfl, rfl, Nat.le_of_ble_eq_true rfl, Nat.le_of_ble_eq_true rfl, Nat.zero_le _, Nat.zero_le _⟩ xT_b xT_w hK hP hD hS hA 2 5 (tC_items rfl rfl rfl rfl) hl.1 rfl (Nat.le_of_ble_eq_true rfl) dX7_startRow_5 0 2 rfl rfl (tN_items_ rfl rfl rfl rfl) (fun H locs hP hD hS => ?_)
  refine lv_lstore_n (lv' := [(2, .long u_1), (0, .ref (ad 0)), (1, .int p1)]) hx hb dX7_startRow_8 rfl hl (by decide) rfl (fun ls hl => ?_)
  refine lv_aload_n hx hb dX7_startRow_9 rfl (lv_at hl 1 rfl) ?_
  refine gX7_0_13 C0 hK hP wm_3_8 dX7_startRow_10 ?_
  refine lv_lload_n hx hb dX7_startRow_13 rfl (lv_at hl 0 rfl) ?_
  obtain ⟨u_3, hc_4, hd⟩ := bd hd
  refine cv_i (rest := []) C0 (mX1_endOf l dC dI cI cJ cZ (ad 38) (ad 39) (ad 40) (ad 41) n (σ.2.2 8) (σ.2.2 9) (σ.2.1 21) (σ.1 11) u_1 hc_4 _) gv_X7_221 yd_X1_endOf ⟨rfl, rfl, Nat.le_of_ble_eq_true rfl, Nat.le_of_ble_eq_true rfl, Nat.zero_le _, Nat.zero_le _⟩ xT_b xT_w hK hP hD hS hA 38 4 (tC_keptAnswers rfl rfl rfl rfl) hl.1 rfl (Nat.le_of_ble_eq_true rfl) dX7_startRow_14 1 38 rfl rfl (tN_keptAnswers_ rfl rfl rfl rfl) (fun H locs hP hD hS => ?_)
  refine lv_aload_n hx hb dX7_startRow_17 rfl (lv_at hl 1 rfl) ?_
  refine gX7_0_14 C0 hK hP wm_3_9 rfl dX7_startRow_18 ?_
  refine lv_icmp_lt (tgt := 42) hx hb dX7_startRow_21 (by decide) (fun c_5 => ?_) (fun c_5 => ?_)
  · replace hd := i_t hd c_5
    refine lv_aload_n hx hb dX7_startRow_42 rfl (lv_at hl 1 rfl) ?_
    refine gX7_0_4 C0 hK hP wm_2_8 dX7_startRow_43 ?_
    refine lv_iload_n hx hb dX7_startRow_46 rfl (lv_at hl 2 rfl) ?_
    obtain ⟨u_6, hc_7, hd⟩ := bd hd
    refine cv_v (rest := []) C0 (mX4_startTrying l dC dI cI cJ cZ (ad 7) (ad 8) (ad 9) (ad 10) (ad 11) (σ.2.1 3) (σ.2.1 4) (σ.2.1 5) (σ.2.2 2) (σ.1 2) (σ.1 3) (σ.1 16) (σ.1 17) p1 hc_7 _) gv_X7_263 yd_X4_startTrying ⟨rfl, rfl, Nat.le_of_ble_eq_true rfl, Nat.le_of_ble_eq_true rfl, Nat.zero_le _, Nat.zero_le _⟩ xT_b xT_w hK hP hD hS hA 7 5 (tC_live rfl rfl rfl rfl rfl rfl rfl rfl) hl.1 rfl (Nat.le_of_ble_eq_true rfl) dX7_startRow_47 4 7 rfl rfl (tN_live_states_tries_waiting rfl rfl rfl rfl rfl) (fun H locs hP hD hS => ?_)
    refine lv_aload_n hx hb dX7_startRow_50 rfl (lv_at hl 1 rfl) ?_
    refine gX7_0_7 C0 hK hP wm_2_17 dX7_startRow_51 ?_
    refine lv_iload_n hx hb dX7_startRow_54 rfl (lv_at hl 2 rfl) ?_
    obtain ⟨u_8, hc_9, hd⟩ := bd hd
    refine cv_v (rest := []) C0 (mX5_append l dC dI cI cJ cZ (ad 20) (ad 21) (σ.2.1 13) (σ.1 6) p1 hc_9 _) gv_X7_266 yd_X5_append ⟨rfl, rfl, Nat.le_of_ble_eq_true rfl, Nat.le_of_ble_eq_true rfl, Nat.zero_le _, Nat.zero_le _⟩ xT_b xT_w hK hP hD hS hA 20 2 (tC_working ((sI_A).trans ((sA_n (by decide)).trans (sA_n (by decide)))) ((sI_n (by decide)).trans ((sA_I).trans (sA_I)))) hl.1 rfl (Nat.le_of_ble_eq_true rfl) dX7_startRow_55 5 20 rfl rfl (tN_working_rows_size ) (fun H locs hP hD hS => ?_)
    refine lv_aload_n hx hb dX7_startRow_58 rfl (lv_at hl 1 rfl) ?_
    refine gX7_0_8 C0 hK hP wm_2_18 dX7_startRow_59 ?_
    refine lv_iload_n hx hb dX7_startRow_62 rfl (lv_at hl 2 rfl) ?_
    obtain ⟨u_10, hc_11, hd⟩ := bd hd
    refine cv_v (rest := []) C0 (mX5_append l dC dI cI cJ cZ (ad 22) (ad 23) (σ.2.1 14) (σ.1 7) p1 hc_11 _) gv_X7_266 yd_X5_append ⟨rfl, rfl, Nat.le_of_ble_eq_true rfl, Nat.le_of_ble_eq_true rfl, Nat.zero_le _, Nat.zero_le _⟩ xT_b xT_w hK hP hD hS hA 22 2 (tC_queue ((sI_A).trans ((sA_n (by decide)).trans ((sI_A).trans ((sA_n (by decide)).trans (sA_n (by decide)))))) ((sI_n (by decide)).trans ((sA_I).trans ((sI_n (by decide)).trans ((sA_I).trans (sA_I)))))) hl.1 rfl (Nat.le_of_ble_eq_true rfl) dX7_startRow_63 5 22 rfl rfl (tN_queue_rows_size ) (fun H locs hP hD hS => ?_)
    obtain rfl := Option.some.inj hd
    exact my_vret C0 hK hP hD hS dX7_startRow_66
  · replace hd := i_e hd c_5
    refine lv_aload_n hx hb dX7_startRow_24 rfl (lv_at hl 1 rfl) ?_
    refine gX7_0_4 C0 hK hP wm_2_8 dX7_startRow_25 ?_
    refine lv_iload_n hx hb dX7_startRow_28 rfl (lv_at hl 2 rfl) ?_
    refine lv_iconst (v := 1) hx hb dX7_startRow_29 (by decide) ?_
    refine lv_aload_n hx hb dX7_startRow_30 rfl (lv_at hl 1 rfl) ?_
    refine gX7_0_13 C0 hK hP wm_3_8 dX7_startRow_31 ?_
    refine lv_lload_n hx hb dX7_startRow_34 rfl (lv_at hl 0 rfl) ?_
    obtain ⟨u_12, hc_13, hd⟩ := bd hd
    refine cv_l (rest := [.int (1 : Int32), .int p1, .ref (ad 7)]) C0 (mX1_valueOf l dC dI cI cJ cZ (ad 38) (ad 39) (ad 40) (ad 41) n (σ.2.2 8) (σ.2.2 9) (σ.2.1 21) (σ.1 11) u_1 hc_13 _) gv_X7_257 yd_X1_valueOf ⟨rfl, rfl, Nat.le_of_ble_eq_true rfl, Nat.le_of_ble_eq_true rfl, Nat.zero_le _, Nat.zero_le _⟩ xT_b xT_w hK hP hD hS hA 38 4 (tC_keptAnswers rfl rfl rfl rfl) hl.1 rfl (Nat.le_of_ble_eq_true rfl) dX7_startRow_35 1 38 rfl rfl (tN_keptAnswers_ rfl rfl rfl rfl) (fun H locs hP hD hS => ?_)
    obtain ⟨u_14, hc_15, hd⟩ := bd hd
    refine cv_v (rest := []) C0 (mX4_settleRow l dC dI cI cJ cZ (ad 7) (ad 8) (ad 9) (ad 10) (ad 11) (σ.2.1 3) (σ.2.1 4) (σ.2.1 5) (σ.2.2 2) (σ.1 2) (σ.1 3) (σ.1 16) (σ.1 17) p1 (1 : Int32) u_12 hc_15 _) gv_X7_260 yd_X4_settleRow ⟨rfl, rfl, Nat.le_of_ble_eq_true rfl, Nat.le_of_ble_eq_true rfl, Nat.zero_le _, Nat.zero_le _⟩ xT_b xT_w hK hP hD hS hA 7 5 (tC_live rfl rfl rfl rfl rfl rfl rfl rfl) hl.1 rfl (Nat.le_of_ble_eq_true rfl) dX7_startRow_38 4 7 rfl rfl (tN_live_states_results_settledValues_waiting_settled rfl rfl rfl) (fun H locs hP hD hS => ?_)
    obtain rfl := Option.some.inj hd
    exact my_vret C0 hK hP hD hS dX7_startRow_41
def fX7_startWaitingRows_54 (n : Nat) (k2 : (St × Int32) → Option (St)) (a : St × Int32) : Option (St) := k2 (a.1, a.2 + 1)
set_option maxHeartbeats 4000000 in
set_option maxRecDepth 100000 in
theorem bX7_startWaitingRows_54 {p : Program} {l : Launch} {e : Env} {s : State} {m : MethodId} {args : Array Value} {below : List Frame} {meth : Method} {c : Code} {A : Nat → Prop} {dC : Nat → ClassId} {dI : Nat → Nat → Nat} {cI cJ cZ : ClassId} {ad : Nat → Nat} {r : St} {n : Nat} (C0 : cx p s m args meth c cX7_startWaitingRows 2 RX7 none) (hK : va_K (dC, dI) vwCl (kT cI cJ cZ) s) (hX : xC s) (hA : ∀ q : Nat, s.heap.size ≤ q → A q) (k2 : (St × Int32) → Option (St)) (ih2 : ∀ (a : St × Int32), k2 a = some r → ∀ (H : Heap) (locs : List Loc) (ls : Array Slot), va_P (dC, dI) vwCl (vX7 cI cJ cZ ad a.1) H → va_D A (vX7 cI cJ cZ ad a.1) → va_S A s.heap H locs → lv_has ls 2 [(0, .ref (ad 0)), (1, .int a.2)] → W p l e ({ frames := 3, cells := 0, slots := 0, locals := 69 } : Room) s m args below meth c H locs 0 0 (MQ below (qV (dC, dI) (kT cI cJ cZ) (vX7 cI cJ cZ ad r) A) args s 0 0 A) (F0 m 2 ls [])) : ∀ (a : St × Int32), fX7_startWaitingRows_54 n k2 a = some r → ∀ (H : Heap) (locs : List Loc) (ls : Array Slot), va_P (dC, dI) vwCl (vX7 cI cJ cZ ad a.1) H → va_D A (vX7 cI cJ cZ ad a.1) → va_S A s.heap H locs → lv_has ls 2 [(0, .ref (ad 0)), (1, .int a.2)] → W p l e ({ frames := 3, cells := 0, slots := 0, locals := 69 } : Room) s m args below meth c H locs 0 0 (MQ below (qV (dC, dI) (kT cI cJ cZ) (vX7 cI cJ cZ ad r) A) args s 0 0 A) (F0 m 54 ls []) := by
  obtain ⟨hx, hb, hml, hown, hT, hr, hlocks⟩ := id C0
  intro a hd H locs ls hP hD hS hl
  unfold fX7_startWaitingRows_54 at hd
  refine lv_iinc (v := a.2 + 1) (lv' := [(1, .int (a.2 + 1)), (0, .ref (ad 0))]) hx hb dX7_startWaitingRows_54 hl (k := 1) rfl rfl (by decide) rfl (fun ls hl => ?_)
  refine lv_goto (tgt := 2) hx hb dX7_startWaitingRows_57 (by decide) ?_
  exact ih2 _ hd _ _ _ hP hD hS (lv_sub hl [1, 0] rfl)
def fX7_startWaitingRows_2 (n : Nat) (k2 : (St × Int32) → Option (St)) (a : St × Int32) : Option (St) := if (a.1.1 2) ≤ a.2 then (some a.1) else (if (a.1.1 16) = 0 then (some a.1) else (if (a.1.1 6) < (a.1.1 0) then ((fX4_stateOf (a.1.2.1 3) (a.1.2.1 4) (a.1.2.1 5) (a.1.2.2 2) (a.1.1 2) (a.1.1 3) (a.1.1 16) (a.1.1 17) a.2).bind (fun u_4 => if u_4 = 0 then ((fX7_startRow n a.1 a.2).bind (fun u_7 => fX7_startWaitingRows_54 n k2 (u_7, a.2))) else (fX7_startWaitingRows_54 n k2 (a.1, a.2)))) else (some a.1)))
set_option maxHeartbeats 4000000 in
set_option maxRecDepth 100000 in
theorem bX7_startWaitingRows_2 {p : Program} {l : Launch} {e : Env} {s : State} {m : MethodId} {args : Array Value} {below : List Frame} {meth : Method} {c : Code} {A : Nat → Prop} {dC : Nat → ClassId} {dI : Nat → Nat → Nat} {cI cJ cZ : ClassId} {ad : Nat → Nat} {r : St} {n : Nat} (C0 : cx p s m args meth c cX7_startWaitingRows 2 RX7 none) (hK : va_K (dC, dI) vwCl (kT cI cJ cZ) s) (hX : xC s) (hA : ∀ q : Nat, s.heap.size ≤ q → A q) (k2 : (St × Int32) → Option (St)) (ih2 : ∀ (a : St × Int32), k2 a = some r → ∀ (H : Heap) (locs : List Loc) (ls : Array Slot), va_P (dC, dI) vwCl (vX7 cI cJ cZ ad a.1) H → va_D A (vX7 cI cJ cZ ad a.1) → va_S A s.heap H locs → lv_has ls 2 [(0, .ref (ad 0)), (1, .int a.2)] → W p l e ({ frames := 3, cells := 0, slots := 0, locals := 69 } : Room) s m args below meth c H locs 0 0 (MQ below (qV (dC, dI) (kT cI cJ cZ) (vX7 cI cJ cZ ad r) A) args s 0 0 A) (F0 m 2 ls [])) : ∀ (a : St × Int32), fX7_startWaitingRows_2 n k2 a = some r → ∀ (H : Heap) (locs : List Loc) (ls : Array Slot), va_P (dC, dI) vwCl (vX7 cI cJ cZ ad a.1) H → va_D A (vX7 cI cJ cZ ad a.1) → va_S A s.heap H locs → lv_has ls 2 [(0, .ref (ad 0)), (1, .int a.2)] → W p l e ({ frames := 3, cells := 0, slots := 0, locals := 69 } : Room) s m args below meth c H locs 0 0 (MQ below (qV (dC, dI) (kT cI cJ cZ) (vX7 cI cJ cZ ad r) A) args s 0 0 A) (F0 m 2 ls []) := by
  obtain ⟨hx, hb, hml, hown, hT, hr, hlocks⟩ := id C0
  intro a hd H locs ls hP hD hS hl
  unfold fX7_startWaitingRows_2 at hd
  refine lv_iload_n hx hb dX7_startWaitingRows_2 rfl (lv_at hl 1 rfl) ?_
  refine lv_aload_n hx hb dX7_startWaitingRows_3 rfl (lv_at hl 0 rfl) ?_
  refine gX7_0_4 C0 hK hP wm_2_8 dX7_startWaitingRows_4 ?_
  refine gX7_7_4 C0 hK hP hX rfl dX7_startWaitingRows_7 ?_
  refine lv_icmp_ge (tgt := 60) hx hb dX7_startWaitingRows_10 (by decide) (fun c_1 => ?_) (fun c_1 => ?_)
  · replace hd := i_t hd c_1
    obtain rfl := Option.some.inj hd
    exact my_vret C0 hK hP hD hS dX7_startWaitingRows_60
  · replace hd := i_e hd c_1
    refine lv_aload_n hx hb dX7_startWaitingRows_13 rfl (lv_at hl 0 rfl) ?_
    refine gX7_0_4 C0 hK hP wm_2_8 dX7_startWaitingRows_14 ?_
    refine gX7_7_6 C0 hK hP hX rfl dX7_startWaitingRows_17 ?_
    refine lv_if_eq (tgt := 37) hx hb dX7_startWaitingRows_20 (by decide) (fun c_2 => ?_) (fun c_2 => ?_)
    · replace hd := i_t hd c_2
      obtain rfl := Option.some.inj hd
      exact my_vret C0 hK hP hD hS dX7_startWaitingRows_37
    · replace hd := i_e hd c_2
      refine lv_aload_n hx hb dX7_startWaitingRows_23 rfl (lv_at hl 0 rfl) ?_
      refine gX7_0_7 C0 hK hP wm_2_17 dX7_startWaitingRows_24 ?_
      refine gX7_20_1 C0 hK hP hX rfl dX7_startWaitingRows_27 ?_
      refine lv_aload_n hx hb dX7_startWaitingRows_30 rfl (lv_at hl 0 rfl) ?_
      refine gX7_0_0 C0 hK hP wm_3_20 rfl dX7_startWaitingRows_31 ?_
      refine lv_icmp_lt (tgt := 38) hx hb dX7_startWaitingRows_34 (by decide) (fun c_3 => ?_) (fun c_3 => ?_)
      · replace hd := i_t hd c_3
        refine lv_aload_n hx hb dX7_startWaitingRows_38 rfl (lv_at hl 0 rfl) ?_
        refine gX7_0_4 C0 hK hP wm_2_8 dX7_startWaitingRows_39 ?_
        refine lv_iload_n hx hb dX7_startWaitingRows_42 rfl (lv_at hl 1 rfl) ?_
        obtain ⟨u_4, hc_5, hd⟩ := bd hd
        refine cv_i (rest := []) C0 (mX4_stateOf l dC dI cI cJ cZ (ad 7) (ad 8) (ad 9) (ad 10) (ad 11) (a.1.2.1 3) (a.1.2.1 4) (a.1.2.1 5) (a.1.2.2 2) (a.1.1 2) (a.1.1 3) (a.1.1 16) (a.1.1 17) a.2 hc_5 _) gv_X7_178 yd_X4_stateOf ⟨rfl, rfl, Nat.le_of_ble_eq_true rfl, Nat.le_of_ble_eq_true rfl, Nat.zero_le _, Nat.zero_le _⟩ xT_b xT_w hK hP hD hS hA 7 5 (tC_live rfl rfl rfl rfl rfl rfl rfl rfl) hl.1 rfl (Nat.le_of_ble_eq_true rfl) dX7_startWaitingRows_43 4 7 rfl rfl (tN_live_ rfl rfl rfl rfl rfl rfl rfl rfl) (fun H locs hP hD hS => ?_)
        refine lv_if_ne (tgt := 54) hx hb dX7_startWaitingRows_46 (by decide) (fun c_6 => ?_) (fun c_6 => ?_)
        · replace hd := i_e hd c_6
          exact bX7_startWaitingRows_54 C0 hK hX hA k2 ih2 _ hd _ _ _ hP hD hS (lv_sub hl [0, 1] rfl)
        · replace hd := i_t hd c_6
          refine lv_aload_n hx hb dX7_startWaitingRows_49 rfl (lv_at hl 0 rfl) ?_
          refine lv_iload_n hx hb dX7_startWaitingRows_50 rfl (lv_at hl 1 rfl) ?_
          obtain ⟨u_7, hc_8, hd⟩ := bd hd
          refine cw_v (rest := []) C0 (mX7_startRow l dC dI cI cJ cZ ad n a.1 a.2 hc_8 _) gv_X7_254 yd_X7_startRow ⟨rfl, rfl, Nat.le_of_ble_eq_true rfl, Nat.le_of_ble_eq_true rfl, Nat.zero_le _, Nat.zero_le _⟩ xC_b (fun U h => xC_w h hX) hK hP hD hS hA hl.1 rfl (Nat.le_of_ble_eq_true rfl) dX7_startWaitingRows_51 7 0 rfl rfl (fun H locs hP hD hS => ?_)
          exact bX7_startWaitingRows_54 C0 hK hX hA k2 ih2 _ hd _ _ _ hP hD hS (lv_sub hl [0, 1] rfl)
      · replace hd := i_e hd c_3
        obtain rfl := Option.some.inj hd
        exact my_vret C0 hK hP hD hS dX7_startWaitingRows_37
set_option maxHeartbeats 4000000 in
set_option maxRecDepth 100000 in
theorem oX7_startWaitingRows_2 {p : Program} {l : Launch} {e : Env} {s : State} {m : MethodId} {args : Array Value} {below : List Frame} {meth : Method} {c : Code} {A : Nat → Prop} {dC : Nat → ClassId} {dI : Nat → Nat → Nat} {cI cJ cZ : ClassId} {ad : Nat → Nat} {r : St} {n : Nat} (C0 : cx p s m args meth c cX7_startWaitingRows 2 RX7 none) (hK : va_K (dC, dI) vwCl (kT cI cJ cZ) s) (hX : xC s) (hA : ∀ q : Nat, s.heap.size ≤ q → A q)  : ∀ nn : Nat, ∀ (a : St × Int32), loopF (fX7_startWaitingRows_2 n ) nn a = some r → ∀ (H : Heap) (locs : List Loc) (ls : Array Slot), va_P (dC, dI) vwCl (vX7 cI cJ cZ ad a.1) H → va_D A (vX7 cI cJ cZ ad a.1) → va_S A s.heap H locs → lv_has ls 2 [(0, .ref (ad 0)), (1, .int a.2)] → W p l e ({ frames := 3, cells := 0, slots := 0, locals := 69 } : Room) s m args below meth c H locs 0 0 (MQ below (qV (dC, dI) (kT cI cJ cZ) (vX7 cI cJ cZ ad r) A) args s 0 0 A) (F0 m 2 ls []) := by
  intro nn
  induction nn with
  | zero => intro a hd; cases hd
  | succ nn ih => intro a hd; exact bX7_startWaitingRows_2 C0 hK hX hA  _ ih a hd
def fX7_startWaitingRows (n : Nat) (σ : St)  : Option (St) := loopF (fX7_startWaitingRows_2 n ) n (σ, (0 : Int32))
set_option maxHeartbeats 4000000 in
set_option maxRecDepth 100000 in
theorem mX7_startWaitingRows (l : Launch) (dC : Nat → ClassId) (dI : Nat → Nat → Nat) (cI cJ cZ : ClassId) (ad : Nat → Nat) (n : Nat) (σ : St)  {r : St} (hd : fX7_startWaitingRows n σ  = some r) (sz : Nat)  : Met l yX7_startWaitingRows (wS yX7_startWaitingRows cX7_startWaitingRows 2 none) { frames := 3, cells := 0, slots := 0, locals := 69 } (pC (dC, dI) (kT cI cJ cZ) xC (vX7 cI cJ cZ ad σ) sz [.ref (ad 0)]) (qV (dC, dI) (kT cI cJ cZ) (vX7 cI cJ cZ ad r) (va_A (vX7 cI cJ cZ ad σ) sz)) 0 0 (va_A (vX7 cI cJ cZ ad σ) sz) := by
  refine my_ent (fun A => qV (dC, dI) (kT cI cJ cZ) (vX7 cI cJ cZ ad r) A) (by decide) (Nat.le_of_ble_eq_true rfl) ?_
  intro p e s m below meth c A hAe hnm C0 hK hX hP hD hA hS ls hl
  obtain ⟨hx, hb, hml, hown, hT, hr, hlocks⟩ := id C0
  unfold fX7_startWaitingRows at hd
  have hl : lv_has ls 2 [(0, .ref (ad 0))] := hl
  refine lv_iconst (v := 0) hx hb dX7_startWaitingRows_0 (by decide) ?_
  refine lv_istore_n (lv' := [(1, .int (0 : Int32)), (0, .ref (ad 0))]) hx hb dX7_startWaitingRows_1 rfl hl (by decide) rfl (fun ls hl => ?_)
  exact oX7_startWaitingRows_2 C0 hK hX hA  _ _ hd _ _ _ hP hD hS (lv_sub hl [1, 0] rfl)
def fX7_sendQueuedAsks_0 (n : Nat) (k0 : St → Option (St)) (a : St) : Option (St) := if ((a.2.1 0) (2 : Int32).toNatClampNeg) ≤ (a.1 13) then (some a) else (if (a.1 7) ≤ 0 then (some a) else ((fX5_at (a.2.1 14) (a.1 7) (0 : Int32)).bind (fun u_3 => (fX5_removeAt (a.2.1 14) (a.1 7) (0 : Int32)).bind (fun u_5 => (fX0_setDue (a.2.2 0) (a.2.2 1) (a.2.1 1) (a.2.1 2) u_3 ((a.1 12) + ((a.2.1 0) (0 : Int32).toNatClampNeg))).bind (fun u_7 => (fX2_setOut (a.2.1 16) (a.2.1 17) (a.2.2 4) (a.1 9) u_3 (0 : Int32) (0 : Int64)).bind (fun u_9 => k0 (sI (sI (sI (sL (sA (sA (sA (sI (sA a 14 u_5.1) 7 u_5.2) 2 u_7) 16 u_9.1) 17 u_9.2.1) 4 u_9.2.2.1) 9 u_9.2.2.2) 13 ((a.1 13) + (1 : Int32))) 14 ((a.1 14) + (1 : Int32)))))))))
set_option maxHeartbeats 4000000 in
set_option maxRecDepth 100000 in
theorem bX7_sendQueuedAsks_0 {p : Program} {l : Launch} {e : Env} {s : State} {m : MethodId} {args : Array Value} {below : List Frame} {meth : Method} {c : Code} {A : Nat → Prop} {dC : Nat → ClassId} {dI : Nat → Nat → Nat} {cI cJ cZ : ClassId} {ad : Nat → Nat} {r : St} {n : Nat} (C0 : cx p s m args meth c cX7_sendQueuedAsks 2 RX7 none) (hK : va_K (dC, dI) vwCl (kT cI cJ cZ) s) (hX : xC s) (hA : ∀ q : Nat, s.heap.size ≤ q → A q) (k0 : (St) → Option (St)) (ih0 : ∀ (a : St), k0 a = some r → ∀ (H : Heap) (locs : List Loc) (ls : Array Slot), va_P (dC, dI) vwCl (vX7 cI cJ cZ ad a) H → va_D A (vX7 cI cJ cZ ad a) → va_S A s.heap H locs → lv_has ls 2 [(0, .ref (ad 0))] → W p l e ({ frames := 2, cells := 0, slots := 0, locals := 43 } : Room) s m args below meth c H locs 0 0 (MQ below (qV (dC, dI) (kT cI cJ cZ) (vX7 cI cJ cZ ad r) A) args s 0 0 A) (F0 m 0 ls [])) : ∀ (a : St), fX7_sendQueuedAsks_0 n k0 a = some r → ∀ (H : Heap) (locs : List Loc) (ls : Array Slot), va_P (dC, dI) vwCl (vX7 cI cJ cZ ad a) H → va_D A (vX7 cI cJ cZ ad a) → va_S A s.heap H locs → lv_has ls 2 [(0, .ref (ad 0))] → W p l e ({ frames := 2, cells := 0, slots := 0, locals := 43 } : Room) s m args below meth c H locs 0 0 (MQ below (qV (dC, dI) (kT cI cJ cZ) (vX7 cI cJ cZ ad r) A) args s 0 0 A) (F0 m 0 ls []) := by
  obtain ⟨hx, hb, hml, hown, hT, hr, hlocks⟩ := id C0
  intro a hd H locs ls hP hD hS hl
  unfold fX7_sendQueuedAsks_0 at hd
  refine lv_aload_n hx hb dX7_sendQueuedAsks_0 rfl (lv_at hl 0 rfl) ?_
  refine gX7_0_15 C0 hK hP wm_3_10 rfl dX7_sendQueuedAsks_1 ?_
  refine lv_aload_n hx hb dX7_sendQueuedAsks_4 rfl (lv_at hl 0 rfl) ?_
  refine gX7_0_2 C0 hK hP wm_2_0 dX7_sendQueuedAsks_5 ?_
  refine lv_iconst (v := 2) hx hb dX7_sendQueuedAsks_8 (by decide) ?_
  refine lX7_1 C0 hK hP rfl (by unfold vp_in; decide) dX7_sendQueuedAsks_9 ?_
  refine lv_icmp_ge (tgt := 92) hx hb dX7_sendQueuedAsks_10 (by decide) (fun c_1 => ?_) (fun c_1 => ?_)
  · replace hd := i_t hd c_1
    obtain rfl := Option.some.inj hd
    exact my_vret C0 hK hP hD hS dX7_sendQueuedAsks_92
  · replace hd := i_e hd c_1
    refine lv_aload_n hx hb dX7_sendQueuedAsks_13 rfl (lv_at hl 0 rfl) ?_
    refine gX7_0_8 C0 hK hP wm_2_18 dX7_sendQueuedAsks_14 ?_
    refine gX7_22_1 C0 hK hP hX rfl dX7_sendQueuedAsks_17 ?_
    refine lv_if_le (tgt := 92) hx hb dX7_sendQueuedAsks_20 (by decide) (fun c_2 => ?_) (fun c_2 => ?_)
    · replace hd := i_t hd c_2
      obtain rfl := Option.some.inj hd
      exact my_vret C0 hK hP hD hS dX7_sendQueuedAsks_92
    · replace hd := i_e hd c_2
      refine lv_aload_n hx hb dX7_sendQueuedAsks_23 rfl (lv_at hl 0 rfl) ?_
      refine gX7_0_8 C0 hK hP wm_2_18 dX7_sendQueuedAsks_24 ?_
      refine lv_iconst (v := 0) hx hb dX7_sendQueuedAsks_27 (by decide) ?_
      obtain ⟨u_3, hc_4, hd⟩ := bd hd
      refine cv_i (rest := []) C0 (mX5_at l dC dI cI cJ cZ (ad 22) (ad 23) (a.2.1 14) (a.1 7) (0 : Int32) hc_4 _) gv_X7_269 yd_X5_at ⟨rfl, rfl, Nat.le_of_ble_eq_true rfl, Nat.le_of_ble_eq_true rfl, Nat.zero_le _, Nat.zero_le _⟩ xT_b xT_w hK hP hD hS hA 22 2 (tC_queue rfl rfl) hl.1 rfl (Nat.le_of_ble_eq_true rfl) dX7_sendQueuedAsks_28 5 22 rfl rfl (tN_queue_ rfl rfl) (fun H locs hP hD hS => ?_)
      refine lv_istore_n (lv' := [(1, .int u_3), (0, .ref (ad 0))]) hx hb dX7_sendQueuedAsks_31 rfl hl (by decide) rfl (fun ls hl => ?_)
      refine lv_aload_n hx hb dX7_sendQueuedAsks_32 rfl (lv_at hl 1 rfl) ?_
      refine gX7_0_8 C0 hK hP wm_2_18 dX7_sendQueuedAsks_33 ?_
      refine lv_iconst (v := 0) hx hb dX7_sendQueuedAsks_36 (by decide) ?_
      obtain ⟨u_5, hc_6, hd⟩ := bd hd
      refine cv_v (rest := []) C0 (mX5_removeAt l dC dI cI cJ cZ (ad 22) (ad 23) (a.2.1 14) (a.1 7) (0 : Int32) hc_6 _) gv_X7_272 yd_X5_removeAt ⟨rfl, rfl, Nat.le_of_ble_eq_true rfl, Nat.le_of_ble_eq_true rfl, Nat.zero_le _, Nat.zero_le _⟩ xT_b xT_w hK hP hD hS hA 22 2 (tC_queue rfl rfl) hl.1 rfl (Nat.le_of_ble_eq_true rfl) dX7_sendQueuedAsks_37 5 22 rfl rfl (tN_queue_rows_size ) (fun H locs hP hD hS => ?_)
      refine lv_aload_n hx hb dX7_sendQueuedAsks_40 rfl (lv_at hl 1 rfl) ?_
      refine gX7_0_3 C0 hK hP wm_2_4 dX7_sendQueuedAsks_41 ?_
      refine lv_iload_n hx hb dX7_sendQueuedAsks_44 rfl (lv_at hl 0 rfl) ?_
      refine lv_aload_n hx hb dX7_sendQueuedAsks_45 rfl (lv_at hl 1 rfl) ?_
      refine gX7_0_14 C0 hK hP wm_3_9 ((sI_n (by decide)).trans (sA_I)) dX7_sendQueuedAsks_46 ?_
      refine lv_aload_n hx hb dX7_sendQueuedAsks_49 rfl (lv_at hl 1 rfl) ?_
      refine gX7_0_2 C0 hK hP wm_2_0 dX7_sendQueuedAsks_50 ?_
      refine lv_iconst (v := 0) hx hb dX7_sendQueuedAsks_53 (by decide) ?_
      refine lX7_1 C0 hK hP ((sI_A).trans (sA_n (by decide))) (by unfold vp_in; decide) dX7_sendQueuedAsks_54 ?_
      refine lv_iadd hx hb dX7_sendQueuedAsks_55 ?_
      obtain ⟨u_7, hc_8, hd⟩ := bd hd
      refine cv_v (rest := []) C0 (mX0_setDue l dC dI cI cJ cZ (ad 2) (ad 3) (ad 4) (ad 5) (ad 6) (a.2.2 0) (a.2.2 1) (a.2.1 1) (a.2.1 2) u_3 ((a.1 12) + ((a.2.1 0) (0 : Int32).toNatClampNeg)) hc_8 _) gv_X7_273 yd_X0_setDue ⟨rfl, rfl, Nat.le_of_ble_eq_true rfl, Nat.le_of_ble_eq_true rfl, Nat.zero_le _, Nat.zero_le _⟩ xT_b xT_w hK hP hD hS hA 2 5 (tC_items ((sI_L).trans (sA_L)) ((sI_L).trans (sA_L)) ((sI_A).trans (sA_n (by decide))) ((sI_A).trans (sA_n (by decide)))) hl.1 rfl (Nat.le_of_ble_eq_true rfl) dX7_sendQueuedAsks_56 0 2 rfl rfl (tN_items_dues ((sI_L).trans (sA_L)) ((sI_L).trans (sA_L)) ((sI_A).trans (sA_n (by decide)))) (fun H locs hP hD hS => ?_)
      refine lv_aload_n hx hb dX7_sendQueuedAsks_59 rfl (lv_at hl 1 rfl) ?_
      refine gX7_0_10 C0 hK hP wm_2_23 dX7_sendQueuedAsks_60 ?_
      refine lv_iload_n hx hb dX7_sendQueuedAsks_63 rfl (lv_at hl 0 rfl) ?_
      refine lv_iconst (v := 0) hx hb dX7_sendQueuedAsks_64 (by decide) ?_
      refine lv_lconst (v := 0) hx hb dX7_sendQueuedAsks_65 (by decide) ?_
      obtain ⟨u_9, hc_10, hd⟩ := bd hd
      refine cv_v (rest := []) C0 (mX2_setOut l dC dI cI cJ cZ (ad 26) (ad 27) (ad 28) (ad 29) (a.2.1 16) (a.2.1 17) (a.2.2 4) (a.1 9) u_3 (0 : Int32) (0 : Int64) hc_10 _) gv_X7_165 yd_X2_setOut ⟨rfl, rfl, Nat.le_of_ble_eq_true rfl, Nat.le_of_ble_eq_true rfl, Nat.zero_le _, Nat.zero_le _⟩ xT_b xT_w hK hP hD hS hA 26 4 (tC_asks ((sA_n (by decide)).trans ((sI_A).trans (sA_n (by decide)))) ((sA_n (by decide)).trans ((sI_A).trans (sA_n (by decide)))) ((sA_L).trans ((sI_L).trans (sA_L))) ((sA_I).trans ((sI_n (by decide)).trans (sA_I)))) hl.1 rfl (Nat.le_of_ble_eq_true rfl) dX7_sendQueuedAsks_66 2 26 rfl rfl (tN_asks_rows_causes_values_size ) (fun H locs hP hD hS => ?_)
      refine lv_aload_n hx hb dX7_sendQueuedAsks_69 rfl (lv_at hl 1 rfl) ?_
      refine lv_dup hx hb dX7_sendQueuedAsks_70 rfl ?_
      refine gX7_0_15 C0 hK hP wm_3_10 ((sI_n (by decide)).trans ((sL_I).trans ((sA_I).trans ((sA_I).trans ((sA_I).trans ((sI_n (by decide)).trans (sA_I))))))) dX7_sendQueuedAsks_71 ?_
      refine lv_iconst (v := 1) hx hb dX7_sendQueuedAsks_74 (by decide) ?_
      refine lv_iadd hx hb dX7_sendQueuedAsks_75 ?_
      refine pX7_0_15 C0 hK hP hD hS wm_3_10 dX7_sendQueuedAsks_76 (fun H locs hP hD hS => ?_)
      refine lv_aload_n hx hb dX7_sendQueuedAsks_79 rfl (lv_at hl 1 rfl) ?_
      refine lv_dup hx hb dX7_sendQueuedAsks_80 rfl ?_
      refine gX7_0_16 C0 hK hP wm_3_11 ((sI_n (by decide)).trans ((sI_n (by decide)).trans ((sL_I).trans ((sA_I).trans ((sA_I).trans ((sA_I).trans ((sI_n (by decide)).trans (sA_I)))))))) dX7_sendQueuedAsks_81 ?_
      refine lv_iconst (v := 1) hx hb dX7_sendQueuedAsks_84 (by decide) ?_
      refine lv_iadd hx hb dX7_sendQueuedAsks_85 ?_
      refine pX7_0_16 C0 hK hP hD hS wm_3_11 dX7_sendQueuedAsks_86 (fun H locs hP hD hS => ?_)
      refine lv_goto (tgt := 0) hx hb dX7_sendQueuedAsks_89 (by decide) ?_
      exact ih0 _ hd _ _ _ hP hD hS (lv_sub hl [1] rfl)
set_option maxHeartbeats 4000000 in
set_option maxRecDepth 100000 in
theorem oX7_sendQueuedAsks_0 {p : Program} {l : Launch} {e : Env} {s : State} {m : MethodId} {args : Array Value} {below : List Frame} {meth : Method} {c : Code} {A : Nat → Prop} {dC : Nat → ClassId} {dI : Nat → Nat → Nat} {cI cJ cZ : ClassId} {ad : Nat → Nat} {r : St} {n : Nat} (C0 : cx p s m args meth c cX7_sendQueuedAsks 2 RX7 none) (hK : va_K (dC, dI) vwCl (kT cI cJ cZ) s) (hX : xC s) (hA : ∀ q : Nat, s.heap.size ≤ q → A q)  : ∀ nn : Nat, ∀ (a : St), loopF (fX7_sendQueuedAsks_0 n ) nn a = some r → ∀ (H : Heap) (locs : List Loc) (ls : Array Slot), va_P (dC, dI) vwCl (vX7 cI cJ cZ ad a) H → va_D A (vX7 cI cJ cZ ad a) → va_S A s.heap H locs → lv_has ls 2 [(0, .ref (ad 0))] → W p l e ({ frames := 2, cells := 0, slots := 0, locals := 43 } : Room) s m args below meth c H locs 0 0 (MQ below (qV (dC, dI) (kT cI cJ cZ) (vX7 cI cJ cZ ad r) A) args s 0 0 A) (F0 m 0 ls []) := by
  intro nn
  induction nn with
  | zero => intro a hd; cases hd
  | succ nn ih => intro a hd; exact bX7_sendQueuedAsks_0 C0 hK hX hA  _ ih a hd
def fX7_sendQueuedAsks (n : Nat) (σ : St)  : Option (St) := loopF (fX7_sendQueuedAsks_0 n ) n σ
set_option maxHeartbeats 4000000 in
set_option maxRecDepth 100000 in
theorem mX7_sendQueuedAsks (l : Launch) (dC : Nat → ClassId) (dI : Nat → Nat → Nat) (cI cJ cZ : ClassId) (ad : Nat → Nat) (n : Nat) (σ : St)  {r : St} (hd : fX7_sendQueuedAsks n σ  = some r) (sz : Nat)  : Met l yX7_sendQueuedAsks (wS yX7_sendQueuedAsks cX7_sendQueuedAsks 2 none) { frames := 2, cells := 0, slots := 0, locals := 43 } (pC (dC, dI) (kT cI cJ cZ) xC (vX7 cI cJ cZ ad σ) sz [.ref (ad 0)]) (qV (dC, dI) (kT cI cJ cZ) (vX7 cI cJ cZ ad r) (va_A (vX7 cI cJ cZ ad σ) sz)) 0 0 (va_A (vX7 cI cJ cZ ad σ) sz) := by
  refine my_ent (fun A => qV (dC, dI) (kT cI cJ cZ) (vX7 cI cJ cZ ad r) A) (by decide) (Nat.le_of_ble_eq_true rfl) ?_
  intro p e s m below meth c A hAe hnm C0 hK hX hP hD hA hS ls hl
  obtain ⟨hx, hb, hml, hown, hT, hr, hlocks⟩ := id C0
  unfold fX7_sendQueuedAsks at hd
  have hl : lv_has ls 2 [(0, .ref (ad 0))] := hl
  exact oX7_sendQueuedAsks_0 C0 hK hX hA  _ _ hd _ _ _ hP hD hS (lv_sub hl [0] rfl)
def fX7_letItemsOut_107 (n : Nat) (k4 : (St × Int32 × Int32) → Option (St)) (a : St × Int32 × Int32) : Option (St) := k4 (a.1, a.2.1, a.2.2 + 1)
set_option maxHeartbeats 4000000 in
set_option maxRecDepth 100000 in
theorem bX7_letItemsOut_107 {p : Program} {l : Launch} {e : Env} {s : State} {m : MethodId} {args : Array Value} {below : List Frame} {meth : Method} {c : Code} {A : Nat → Prop} {dC : Nat → ClassId} {dI : Nat → Nat → Nat} {cI cJ cZ : ClassId} {ad : Nat → Nat} {r : St} {n : Nat} (C0 : cx p s m args meth c cX7_letItemsOut 4 RX7 none) (hK : va_K (dC, dI) vwCl (kT cI cJ cZ) s) (hX : xC s) (hA : ∀ q : Nat, s.heap.size ≤ q → A q) (k4 : (St × Int32 × Int32) → Option (St)) (ih4 : ∀ (a : St × Int32 × Int32), k4 a = some r → ∀ (H : Heap) (locs : List Loc) (ls : Array Slot), va_P (dC, dI) vwCl (vX7 cI cJ cZ ad a.1) H → va_D A (vX7 cI cJ cZ ad a.1) → va_S A s.heap H locs → lv_has ls 4 [(0, .ref (ad 0)), (1, .int a.2.1), (2, .int a.2.2)] → W p l e ({ frames := 2, cells := 0, slots := 0, locals := 42 } : Room) s m args below meth c H locs 0 0 (MQ below (qV (dC, dI) (kT cI cJ cZ) (vX7 cI cJ cZ ad r) A) args s 0 0 A) (F0 m 4 ls [])) : ∀ (a : St × Int32 × Int32), fX7_letItemsOut_107 n k4 a = some r → ∀ (H : Heap) (locs : List Loc) (ls : Array Slot), va_P (dC, dI) vwCl (vX7 cI cJ cZ ad a.1) H → va_D A (vX7 cI cJ cZ ad a.1) → va_S A s.heap H locs → lv_has ls 4 [(0, .ref (ad 0)), (1, .int a.2.1), (2, .int a.2.2)] → W p l e ({ frames := 2, cells := 0, slots := 0, locals := 42 } : Room) s m args below meth c H locs 0 0 (MQ below (qV (dC, dI) (kT cI cJ cZ) (vX7 cI cJ cZ ad r) A) args s 0 0 A) (F0 m 107 ls []) := by
  obtain ⟨hx, hb, hml, hown, hT, hr, hlocks⟩ := id C0
  intro a hd H locs ls hP hD hS hl
  unfold fX7_letItemsOut_107 at hd
  refine lv_iinc (v := a.2.2 + 1) (lv' := [(2, .int (a.2.2 + 1)), (0, .ref (ad 0)), (1, .int a.2.1)]) hx hb dX7_letItemsOut_107 hl (k := 2) rfl rfl (by decide) rfl (fun ls hl => ?_)
  refine lv_goto (tgt := 4) hx hb dX7_letItemsOut_110 (by decide) ?_
  exact ih4 _ hd _ _ _ hP hD hS (lv_sub hl [1, 2, 0] rfl)
def fX7_letItemsOut_70 (n : Nat) (k4 : (St × Int32 × Int32) → Option (St)) (a : St × Int32 × Int32 × Int32) : Option (St) := if a.2.2.2 = (2 : Int32) then ((fX3_write (a.1.2.1 11) (a.1.2.1 12) (a.1.1 3) a.2.2.1 (a.1.1 12)).bind (fun u_13 => (fX4_goOut (a.1.2.1 3) (a.1.2.1 4) (a.1.2.1 5) (a.1.2.2 2) (a.1.1 2) (a.1.1 3) (a.1.1 16) (a.1.1 17) a.2.2.1).bind (fun u_15 => fX7_letItemsOut_107 n k4 (sI (sI (sA (sA (sA a.1 11 u_13.1) 12 u_13.2) 3 u_15.1) 3 u_15.2.1) 17 u_15.2.2, a.2.1, a.2.2.1)))) else (fX7_letItemsOut_107 n k4 (a.1, (0 : Int32), a.2.2.1))
set_option maxHeartbeats 4000000 in
set_option maxRecDepth 100000 in
theorem bX7_letItemsOut_70 {p : Program} {l : Launch} {e : Env} {s : State} {m : MethodId} {args : Array Value} {below : List Frame} {meth : Method} {c : Code} {A : Nat → Prop} {dC : Nat → ClassId} {dI : Nat → Nat → Nat} {cI cJ cZ : ClassId} {ad : Nat → Nat} {r : St} {n : Nat} (C0 : cx p s m args meth c cX7_letItemsOut 4 RX7 none) (hK : va_K (dC, dI) vwCl (kT cI cJ cZ) s) (hX : xC s) (hA : ∀ q : Nat, s.heap.size ≤ q → A q) (k4 : (St × Int32 × Int32) → Option (St)) (ih4 : ∀ (a : St × Int32 × Int32), k4 a = some r → ∀ (H : Heap) (locs : List Loc) (ls : Array Slot), va_P (dC, dI) vwCl (vX7 cI cJ cZ ad a.1) H → va_D A (vX7 cI cJ cZ ad a.1) → va_S A s.heap H locs → lv_has ls 4 [(0, .ref (ad 0)), (1, .int a.2.1), (2, .int a.2.2)] → W p l e ({ frames := 2, cells := 0, slots := 0, locals := 42 } : Room) s m args below meth c H locs 0 0 (MQ below (qV (dC, dI) (kT cI cJ cZ) (vX7 cI cJ cZ ad r) A) args s 0 0 A) (F0 m 4 ls [])) : ∀ (a : St × Int32 × Int32 × Int32), fX7_letItemsOut_70 n k4 a = some r → ∀ (H : Heap) (locs : List Loc) (ls : Array Slot), va_P (dC, dI) vwCl (vX7 cI cJ cZ ad a.1) H → va_D A (vX7 cI cJ cZ ad a.1) → va_S A s.heap H locs → lv_has ls 4 [(0, .ref (ad 0)), (1, .int a.2.1), (2, .int a.2.2.1), (3, .int a.2.2.2)] → W p l e ({ frames := 2, cells := 0, slots := 0, locals := 42 } : Room) s m args below meth c H locs 0 0 (MQ below (qV (dC, dI) (kT cI cJ cZ) (vX7 cI cJ cZ ad r) A) args s 0 0 A) (F0 m 70 ls []) := by
  obtain ⟨hx, hb, hml, hown, hT, hr, hlocks⟩ := id C0
  intro a hd H locs ls hP hD hS hl
  unfold fX7_letItemsOut_70 at hd
  refine lv_iload_n hx hb dX7_letItemsOut_70 rfl (lv_at hl 3 rfl) ?_
  refine lv_iconst (v := 2) hx hb dX7_letItemsOut_71 (by decide) ?_
  refine lv_icmp_ne (tgt := 105) hx hb dX7_letItemsOut_72 (by decide) (fun c_12 => ?_) (fun c_12 => ?_)
  · replace hd := i_e hd c_12
    refine lv_iconst (v := 0) hx hb dX7_letItemsOut_105 (by decide) ?_
    refine lv_istore_n (lv' := [(1, .int (0 : Int32)), (0, .ref (ad 0)), (2, .int a.2.2.1), (3, .int a.2.2.2)]) hx hb dX7_letItemsOut_106 rfl hl (by decide) rfl (fun ls hl => ?_)
    exact bX7_letItemsOut_107 C0 hK hX hA k4 ih4 _ hd _ _ _ hP hD hS (lv_sub hl [1, 0, 2] rfl)
  · replace hd := i_t hd c_12
    refine lv_aload_n hx hb dX7_letItemsOut_75 rfl (lv_at hl 0 rfl) ?_
    refine gX7_0_6 C0 hK hP wm_2_13 dX7_letItemsOut_76 ?_
    refine lv_aload_n hx hb dX7_letItemsOut_79 rfl (lv_at hl 0 rfl) ?_
    refine gX7_0_4 C0 hK hP wm_2_8 dX7_letItemsOut_80 ?_
    refine gX7_7_5 C0 hK hP hX rfl dX7_letItemsOut_83 ?_
    refine lv_iload_n hx hb dX7_letItemsOut_86 rfl (lv_at hl 2 rfl) ?_
    refine lv_aload_n hx hb dX7_letItemsOut_87 rfl (lv_at hl 0 rfl) ?_
    refine gX7_0_14 C0 hK hP wm_3_9 rfl dX7_letItemsOut_88 ?_
    obtain ⟨u_13, hc_14, hd⟩ := bd hd
    refine cv_v (rest := []) C0 (mX3_write l dC dI cI cJ cZ (ad 17) (ad 18) (ad 19) (a.1.2.1 11) (a.1.2.1 12) (a.1.1 3) a.2.2.1 (a.1.1 12) hc_14 _) gv_X7_277 yd_X3_write ⟨rfl, rfl, Nat.le_of_ble_eq_true rfl, Nat.le_of_ble_eq_true rfl, Nat.zero_le _, Nat.zero_le _⟩ xT_b xT_w hK hP hD hS hA 17 3 (tC_outLog rfl rfl) hl.1 rfl (Nat.le_of_ble_eq_true rfl) dX7_letItemsOut_91 3 17 rfl rfl (tN_outLog_items_ticks ) (fun H locs hP hD hS => ?_)
    refine lv_aload_n hx hb dX7_letItemsOut_94 rfl (lv_at hl 0 rfl) ?_
    refine gX7_0_4 C0 hK hP wm_2_8 dX7_letItemsOut_95 ?_
    refine lv_iload_n hx hb dX7_letItemsOut_98 rfl (lv_at hl 2 rfl) ?_
    obtain ⟨u_15, hc_16, hd⟩ := bd hd
    refine cv_v (rest := []) C0 (mX4_goOut l dC dI cI cJ cZ (ad 7) (ad 8) (ad 9) (ad 10) (ad 11) (a.1.2.1 3) (a.1.2.1 4) (a.1.2.1 5) (a.1.2.2 2) (a.1.1 2) (a.1.1 3) (a.1.1 16) (a.1.1 17) a.2.2.1 hc_16 _) gv_X7_281 yd_X4_goOut ⟨rfl, rfl, Nat.le_of_ble_eq_true rfl, Nat.le_of_ble_eq_true rfl, Nat.zero_le _, Nat.zero_le _⟩ xT_b xT_w hK hP hD hS hA 7 5 (tC_live ((sA_n (by decide)).trans (sA_n (by decide))) ((sA_n (by decide)).trans (sA_n (by decide))) ((sA_n (by decide)).trans (sA_n (by decide))) ((sA_L).trans (sA_L)) ((sA_I).trans (sA_I)) ((sA_I).trans (sA_I)) ((sA_I).trans (sA_I)) ((sA_I).trans (sA_I))) hl.1 rfl (Nat.le_of_ble_eq_true rfl) dX7_letItemsOut_99 4 7 rfl rfl (tN_live_states_outs_settled ((sA_n (by decide)).trans (sA_n (by decide))) ((sA_n (by decide)).trans (sA_n (by decide))) ((sA_L).trans (sA_L)) ((sA_I).trans (sA_I)) ((sA_I).trans (sA_I))) (fun H locs hP hD hS => ?_)
    refine lv_goto (tgt := 107) hx hb dX7_letItemsOut_102 (by decide) ?_
    exact bX7_letItemsOut_107 C0 hK hX hA k4 ih4 _ hd _ _ _ hP hD hS (lv_sub hl [0, 1, 2] rfl)
def fX7_letItemsOut_4 (n : Nat) (k4 : (St × Int32 × Int32) → Option (St)) (a : St × Int32 × Int32) : Option (St) := if (a.1.1 2) ≤ a.2.2 then (some a.1) else (if (a.1.1 17) ≤ 0 then (some a.1) else ((fX4_stateOf (a.1.2.1 3) (a.1.2.1 4) (a.1.2.1 5) (a.1.2.2 2) (a.1.1 2) (a.1.1 3) (a.1.1 16) (a.1.1 17) a.2.2).bind (fun u_3 => if u_3 = (3 : Int32) then (fX7_letItemsOut_107 n k4 (a.1, a.2.1, a.2.2)) else (if u_3 = (4 : Int32) then (fX7_letItemsOut_107 n k4 (a.1, a.2.1, a.2.2)) else (if a.2.1 = 0 then (if (a.1.1 1) = 0 then ((fX0_isMark (a.1.2.2 0) (a.1.2.2 1) (a.1.2.1 1) (a.1.2.1 2) a.2.2).bind (fun u_9 => if u_9 = 0 then (fX7_letItemsOut_70 n k4 (a.1, a.2.1, a.2.2, u_3)) else (some a.1))) else (some a.1)) else (fX7_letItemsOut_70 n k4 (a.1, a.2.1, a.2.2, u_3)))))))
set_option maxHeartbeats 4000000 in
set_option maxRecDepth 100000 in
theorem bX7_letItemsOut_4 {p : Program} {l : Launch} {e : Env} {s : State} {m : MethodId} {args : Array Value} {below : List Frame} {meth : Method} {c : Code} {A : Nat → Prop} {dC : Nat → ClassId} {dI : Nat → Nat → Nat} {cI cJ cZ : ClassId} {ad : Nat → Nat} {r : St} {n : Nat} (C0 : cx p s m args meth c cX7_letItemsOut 4 RX7 none) (hK : va_K (dC, dI) vwCl (kT cI cJ cZ) s) (hX : xC s) (hA : ∀ q : Nat, s.heap.size ≤ q → A q) (k4 : (St × Int32 × Int32) → Option (St)) (ih4 : ∀ (a : St × Int32 × Int32), k4 a = some r → ∀ (H : Heap) (locs : List Loc) (ls : Array Slot), va_P (dC, dI) vwCl (vX7 cI cJ cZ ad a.1) H → va_D A (vX7 cI cJ cZ ad a.1) → va_S A s.heap H locs → lv_has ls 4 [(0, .ref (ad 0)), (1, .int a.2.1), (2, .int a.2.2)] → W p l e ({ frames := 2, cells := 0, slots := 0, locals := 42 } : Room) s m args below meth c H locs 0 0 (MQ below (qV (dC, dI) (kT cI cJ cZ) (vX7 cI cJ cZ ad r) A) args s 0 0 A) (F0 m 4 ls [])) : ∀ (a : St × Int32 × Int32), fX7_letItemsOut_4 n k4 a = some r → ∀ (H : Heap) (locs : List Loc) (ls : Array Slot), va_P (dC, dI) vwCl (vX7 cI cJ cZ ad a.1) H → va_D A (vX7 cI cJ cZ ad a.1) → va_S A s.heap H locs → lv_has ls 4 [(0, .ref (ad 0)), (1, .int a.2.1), (2, .int a.2.2)] → W p l e ({ frames := 2, cells := 0, slots := 0, locals := 42 } : Room) s m args below meth c H locs 0 0 (MQ below (qV (dC, dI) (kT cI cJ cZ) (vX7 cI cJ cZ ad r) A) args s 0 0 A) (F0 m 4 ls []) := by
  obtain ⟨hx, hb, hml, hown, hT, hr, hlocks⟩ := id C0
  intro a hd H locs ls hP hD hS hl
  unfold fX7_letItemsOut_4 at hd
  refine lv_iload_n hx hb dX7_letItemsOut_4 rfl (lv_at hl 2 rfl) ?_
  refine lv_aload_n hx hb dX7_letItemsOut_5 rfl (lv_at hl 0 rfl) ?_
  refine gX7_0_4 C0 hK hP wm_2_8 dX7_letItemsOut_6 ?_
  refine gX7_7_4 C0 hK hP hX rfl dX7_letItemsOut_9 ?_
  refine lv_icmp_ge (tgt := 113) hx hb dX7_letItemsOut_12 (by decide) (fun c_1 => ?_) (fun c_1 => ?_)
  · replace hd := i_t hd c_1
    obtain rfl := Option.some.inj hd
    exact my_vret C0 hK hP hD hS dX7_letItemsOut_113
  · replace hd := i_e hd c_1
    refine lv_aload_n hx hb dX7_letItemsOut_15 rfl (lv_at hl 0 rfl) ?_
    refine gX7_0_4 C0 hK hP wm_2_8 dX7_letItemsOut_16 ?_
    refine gX7_7_7 C0 hK hP hX rfl dX7_letItemsOut_19 ?_
    refine lv_if_le (tgt := 113) hx hb dX7_letItemsOut_22 (by decide) (fun c_2 => ?_) (fun c_2 => ?_)
    · replace hd := i_t hd c_2
      obtain rfl := Option.some.inj hd
      exact my_vret C0 hK hP hD hS dX7_letItemsOut_113
    · replace hd := i_e hd c_2
      refine lv_aload_n hx hb dX7_letItemsOut_25 rfl (lv_at hl 0 rfl) ?_
      refine gX7_0_4 C0 hK hP wm_2_8 dX7_letItemsOut_26 ?_
      refine lv_iload_n hx hb dX7_letItemsOut_29 rfl (lv_at hl 2 rfl) ?_
      obtain ⟨u_3, hc_4, hd⟩ := bd hd
      refine cv_i (rest := []) C0 (mX4_stateOf l dC dI cI cJ cZ (ad 7) (ad 8) (ad 9) (ad 10) (ad 11) (a.1.2.1 3) (a.1.2.1 4) (a.1.2.1 5) (a.1.2.2 2) (a.1.1 2) (a.1.1 3) (a.1.1 16) (a.1.1 17) a.2.2 hc_4 _) gv_X7_178 yd_X4_stateOf ⟨rfl, rfl, Nat.le_of_ble_eq_true rfl, Nat.le_of_ble_eq_true rfl, Nat.zero_le _, Nat.zero_le _⟩ xT_b xT_w hK hP hD hS hA 7 5 (tC_live rfl rfl rfl rfl rfl rfl rfl rfl) hl.1 rfl (Nat.le_of_ble_eq_true rfl) dX7_letItemsOut_30 4 7 rfl rfl (tN_live_ rfl rfl rfl rfl rfl rfl rfl rfl) (fun H locs hP hD hS => ?_)
      refine lv_istore_n (lv' := [(3, .int u_3), (0, .ref (ad 0)), (1, .int a.2.1), (2, .int a.2.2)]) hx hb dX7_letItemsOut_33 rfl hl (by decide) rfl (fun ls hl => ?_)
      refine lv_iload_n hx hb dX7_letItemsOut_34 rfl (lv_at hl 0 rfl) ?_
      refine lv_iconst (v := 3) hx hb dX7_letItemsOut_35 (by decide) ?_
      refine lv_icmp_eq (tgt := 107) hx hb dX7_letItemsOut_36 (by decide) (fun c_5 => ?_) (fun c_5 => ?_)
      · replace hd := i_t hd c_5
        exact bX7_letItemsOut_107 C0 hK hX hA k4 ih4 _ hd _ _ _ hP hD hS (lv_sub hl [1, 2, 3] rfl)
      · replace hd := i_e hd c_5
        refine lv_iload_n hx hb dX7_letItemsOut_39 rfl (lv_at hl 0 rfl) ?_
        refine lv_iconst (v := 4) hx hb dX7_letItemsOut_40 (by decide) ?_
        refine lv_icmp_ne (tgt := 47) hx hb dX7_letItemsOut_41 (by decide) (fun c_6 => ?_) (fun c_6 => ?_)
        · replace hd := i_e hd c_6
          refine lv_iload_n hx hb dX7_letItemsOut_47 rfl (lv_at hl 2 rfl) ?_
          refine lv_if_ne (tgt := 70) hx hb dX7_letItemsOut_48 (by decide) (fun c_7 => ?_) (fun c_7 => ?_)
          · replace hd := i_e hd c_7
            exact bX7_letItemsOut_70 C0 hK hX hA k4 ih4 _ hd _ _ _ hP hD hS (lv_sub hl [1, 2, 3, 0] rfl)
          · replace hd := i_t hd c_7
            refine lv_aload_n hx hb dX7_letItemsOut_51 rfl (lv_at hl 1 rfl) ?_
            refine gX7_0_1 C0 hK hP wm_3_21 rfl dX7_letItemsOut_52 ?_
            refine lv_if_ne (tgt := 69) hx hb dX7_letItemsOut_55 (by decide) (fun c_8 => ?_) (fun c_8 => ?_)
            · replace hd := i_e hd c_8
              obtain rfl := Option.some.inj hd
              exact my_vret C0 hK hP hD hS dX7_letItemsOut_69
            · replace hd := i_t hd c_8
              refine lv_aload_n hx hb dX7_letItemsOut_58 rfl (lv_at hl 1 rfl) ?_
              refine gX7_0_3 C0 hK hP wm_2_4 dX7_letItemsOut_59 ?_
              refine lv_iload_n hx hb dX7_letItemsOut_62 rfl (lv_at hl 3 rfl) ?_
              obtain ⟨u_9, hc_10, hd⟩ := bd hd
              refine cv_i (rest := []) C0 (mX0_isMark l dC dI cI cJ cZ (ad 2) (ad 3) (ad 4) (ad 5) (ad 6) (a.1.2.2 0) (a.1.2.2 1) (a.1.2.1 1) (a.1.2.1 2) a.2.2 hc_10 _) gv_X7_211 yd_X0_isMark ⟨rfl, rfl, Nat.le_of_ble_eq_true rfl, Nat.le_of_ble_eq_true rfl, Nat.zero_le _, Nat.zero_le _⟩ xT_b xT_w hK hP hD hS hA 2 5 (tC_items rfl rfl rfl rfl) hl.1 rfl (Nat.le_of_ble_eq_true rfl) dX7_letItemsOut_63 0 2 rfl rfl (tN_items_ rfl rfl rfl rfl) (fun H locs hP hD hS => ?_)
              refine lv_if_eq (tgt := 70) hx hb dX7_letItemsOut_66 (by decide) (fun c_11 => ?_) (fun c_11 => ?_)
              · replace hd := i_t hd c_11
                exact bX7_letItemsOut_70 C0 hK hX hA k4 ih4 _ hd _ _ _ hP hD hS (lv_sub hl [1, 2, 3, 0] rfl)
              · replace hd := i_e hd c_11
                obtain rfl := Option.some.inj hd
                exact my_vret C0 hK hP hD hS dX7_letItemsOut_69
        · replace hd := i_t hd c_6
          refine lv_goto (tgt := 107) hx hb dX7_letItemsOut_44 (by decide) ?_
          exact bX7_letItemsOut_107 C0 hK hX hA k4 ih4 _ hd _ _ _ hP hD hS (lv_sub hl [1, 2, 3] rfl)
set_option maxHeartbeats 4000000 in
set_option maxRecDepth 100000 in
theorem oX7_letItemsOut_4 {p : Program} {l : Launch} {e : Env} {s : State} {m : MethodId} {args : Array Value} {below : List Frame} {meth : Method} {c : Code} {A : Nat → Prop} {dC : Nat → ClassId} {dI : Nat → Nat → Nat} {cI cJ cZ : ClassId} {ad : Nat → Nat} {r : St} {n : Nat} (C0 : cx p s m args meth c cX7_letItemsOut 4 RX7 none) (hK : va_K (dC, dI) vwCl (kT cI cJ cZ) s) (hX : xC s) (hA : ∀ q : Nat, s.heap.size ≤ q → A q)  : ∀ nn : Nat, ∀ (a : St × Int32 × Int32), loopF (fX7_letItemsOut_4 n ) nn a = some r → ∀ (H : Heap) (locs : List Loc) (ls : Array Slot), va_P (dC, dI) vwCl (vX7 cI cJ cZ ad a.1) H → va_D A (vX7 cI cJ cZ ad a.1) → va_S A s.heap H locs → lv_has ls 4 [(0, .ref (ad 0)), (1, .int a.2.1), (2, .int a.2.2)] → W p l e ({ frames := 2, cells := 0, slots := 0, locals := 42 } : Room) s m args below meth c H locs 0 0 (MQ below (qV (dC, dI) (kT cI cJ cZ) (vX7 cI cJ cZ ad r) A) args s 0 0 A) (F0 m 4 ls []) := by
  intro nn
  induction nn with
  | zero => intro a hd; cases hd
  | succ nn ih => intro a hd; exact bX7_letItemsOut_4 C0 hK hX hA  _ ih a hd
def fX7_letItemsOut (n : Nat) (σ : St)  : Option (St) := loopF (fX7_letItemsOut_4 n ) n (σ, (1 : Int32), (0 : Int32))
set_option maxHeartbeats 4000000 in
set_option maxRecDepth 100000 in
theorem mX7_letItemsOut (l : Launch) (dC : Nat → ClassId) (dI : Nat → Nat → Nat) (cI cJ cZ : ClassId) (ad : Nat → Nat) (n : Nat) (σ : St)  {r : St} (hd : fX7_letItemsOut n σ  = some r) (sz : Nat)  : Met l yX7_letItemsOut (wS yX7_letItemsOut cX7_letItemsOut 4 none) { frames := 2, cells := 0, slots := 0, locals := 42 } (pC (dC, dI) (kT cI cJ cZ) xC (vX7 cI cJ cZ ad σ) sz [.ref (ad 0)]) (qV (dC, dI) (kT cI cJ cZ) (vX7 cI cJ cZ ad r) (va_A (vX7 cI cJ cZ ad σ) sz)) 0 0 (va_A (vX7 cI cJ cZ ad σ) sz) := by
  refine my_ent (fun A => qV (dC, dI) (kT cI cJ cZ) (vX7 cI cJ cZ ad r) A) (by decide) (Nat.le_of_ble_eq_true rfl) ?_
  intro p e s m below meth c A hAe hnm C0 hK hX hP hD hA hS ls hl
  obtain ⟨hx, hb, hml, hown, hT, hr, hlocks⟩ := id C0
  unfold fX7_letItemsOut at hd
  have hl : lv_has ls 4 [(0, .ref (ad 0))] := hl
  refine lv_iconst (v := 1) hx hb dX7_letItemsOut_0 (by decide) ?_
  refine lv_istore_n (lv' := [(1, .int (1 : Int32)), (0, .ref (ad 0))]) hx hb dX7_letItemsOut_1 rfl hl (by decide) rfl (fun ls hl => ?_)
  refine lv_iconst (v := 0) hx hb dX7_letItemsOut_2 (by decide) ?_
  refine lv_istore_n (lv' := [(2, .int (0 : Int32)), (1, .int (1 : Int32)), (0, .ref (ad 0))]) hx hb dX7_letItemsOut_3 rfl hl (by decide) rfl (fun ls hl => ?_)
  exact oX7_letItemsOut_4 C0 hK hX hA  _ _ hd _ _ _ hP hD hS (lv_sub hl [2, 1, 0] rfl)
def fX7_goOn (n : Nat) (σ : St)  : Option (St) := (fX7_startWaitingRows n σ).bind (fun u_1 => (fX7_sendQueuedAsks n u_1).bind (fun u_3 => (fX7_letItemsOut n u_3).bind (fun u_5 => some u_5)))
set_option maxHeartbeats 4000000 in
set_option maxRecDepth 100000 in
theorem mX7_goOn (l : Launch) (dC : Nat → ClassId) (dI : Nat → Nat → Nat) (cI cJ cZ : ClassId) (ad : Nat → Nat) (n : Nat) (σ : St)  {r : St} (hd : fX7_goOn n σ  = some r) (sz : Nat)  : Met l yX7_goOn (wS yX7_goOn cX7_goOn 1 none) { frames := 4, cells := 0, slots := 0, locals := 90 } (pC (dC, dI) (kT cI cJ cZ) xC (vX7 cI cJ cZ ad σ) sz [.ref (ad 0)]) (qV (dC, dI) (kT cI cJ cZ) (vX7 cI cJ cZ ad r) (va_A (vX7 cI cJ cZ ad σ) sz)) 0 0 (va_A (vX7 cI cJ cZ ad σ) sz) := by
  refine my_ent (fun A => qV (dC, dI) (kT cI cJ cZ) (vX7 cI cJ cZ ad r) A) (by decide) (Nat.le_of_ble_eq_true rfl) ?_
  intro p e s m below meth c A hAe hnm C0 hK hX hP hD hA hS ls hl
  obtain ⟨hx, hb, hml, hown, hT, hr, hlocks⟩ := id C0
  unfold fX7_goOn at hd
  have hl : lv_has ls 1 [(0, .ref (ad 0))] := hl
  refine lv_aload_n hx hb dX7_goOn_0 rfl (lv_at hl 0 rfl) ?_
  obtain ⟨u_1, hc_2, hd⟩ := bd hd
  refine cw_v (rest := []) C0 (mX7_startWaitingRows l dC dI cI cJ cZ ad n σ  hc_2 _) gv_X7_245 yd_X7_startWaitingRows ⟨rfl, rfl, Nat.le_of_ble_eq_true rfl, Nat.le_of_ble_eq_true rfl, Nat.zero_le _, Nat.zero_le _⟩ xC_b (fun U h => xC_w h hX) hK hP hD hS hA hl.1 rfl (Nat.le_of_ble_eq_true rfl) dX7_goOn_1 7 0 rfl rfl (fun H locs hP hD hS => ?_)
  refine lv_aload_n hx hb dX7_goOn_4 rfl (lv_at hl 0 rfl) ?_
  obtain ⟨u_3, hc_4, hd⟩ := bd hd
  refine cw_v (rest := []) C0 (mX7_sendQueuedAsks l dC dI cI cJ cZ ad n u_1  hc_4 _) gv_X7_248 yd_X7_sendQueuedAsks ⟨rfl, rfl, Nat.le_of_ble_eq_true rfl, Nat.le_of_ble_eq_true rfl, Nat.zero_le _, Nat.zero_le _⟩ xC_b (fun U h => xC_w h hX) hK hP hD hS hA hl.1 rfl (Nat.le_of_ble_eq_true rfl) dX7_goOn_5 7 0 rfl rfl (fun H locs hP hD hS => ?_)
  refine lv_aload_n hx hb dX7_goOn_8 rfl (lv_at hl 0 rfl) ?_
  obtain ⟨u_5, hc_6, hd⟩ := bd hd
  refine cw_v (rest := []) C0 (mX7_letItemsOut l dC dI cI cJ cZ ad n u_3  hc_6 _) gv_X7_251 yd_X7_letItemsOut ⟨rfl, rfl, Nat.le_of_ble_eq_true rfl, Nat.le_of_ble_eq_true rfl, Nat.zero_le _, Nat.zero_le _⟩ xC_b (fun U h => xC_w h hX) hK hP hD hS hA hl.1 rfl (Nat.le_of_ble_eq_true rfl) dX7_goOn_9 7 0 rfl rfl (fun H locs hP hD hS => ?_)
  obtain rfl := Option.some.inj hd
  exact my_vret C0 hK hP hD hS dX7_goOn_12
def fX7_settle (n : Nat) (σ : St) (p1 : Int32) (p2 : Int32) (p3 : Int64) : Option (St) := (fX5_find n (σ.2.1 13) (σ.1 6) p1).bind (fun u_1 => (fX5_removeAt (σ.2.1 13) (σ.1 6) u_1).bind (fun u_3 => (fX5_find n (σ.2.1 14) (σ.1 7) p1).bind (fun u_5 => (fX5_removeAt (σ.2.1 14) (σ.1 7) u_5).bind (fun u_7 => (fX4_settleRow (σ.2.1 3) (σ.2.1 4) (σ.2.1 5) (σ.2.2 2) (σ.1 2) (σ.1 3) (σ.1 16) (σ.1 17) p1 p2 p3).bind (fun u_9 => some (sI (sI (sL (sA (sA (sI (sA (sI (sA σ 13 u_3.1) 6 u_3.2) 14 u_7.1) 7 u_7.2) 3 u_9.1) 4 u_9.2.1) 2 u_9.2.2.1) 16 u_9.2.2.2.1) 17 u_9.2.2.2.2))))))
set_option maxHeartbeats 4000000 in
set_option maxRecDepth 100000 in
theorem mX7_settle (l : Launch) (dC : Nat → ClassId) (dI : Nat → Nat → Nat) (cI cJ cZ : ClassId) (ad : Nat → Nat) (n : Nat) (σ : St) (p1 : Int32) (p2 : Int32) (p3 : Int64) {r : St} (hd : fX7_settle n σ p1 p2 p3 = some r) (sz : Nat)  : Met l yX7_settle (wS yX7_settle cX7_settle 5 none) { frames := 2, cells := 0, slots := 0, locals := 45 } (pC (dC, dI) (kT cI cJ cZ) xC (vX7 cI cJ cZ ad σ) sz [.ref (ad 0), .int p1, .int p2, .long p3]) (qV (dC, dI) (kT cI cJ cZ) (vX7 cI cJ cZ ad r) (va_A (vX7 cI cJ cZ ad σ) sz)) 0 0 (va_A (vX7 cI cJ cZ ad σ) sz) := by
  refine my_ent (fun A => qV (dC, dI) (kT cI cJ cZ) (vX7 cI cJ cZ ad r) A) (by decide) (Nat.le_of_ble_eq_true rfl) ?_
  intro p e s m below meth c A hAe hnm C0 hK hX hP hD hA hS ls hl
  obtain ⟨hx, hb, hml, hown, hT, hr, hlocks⟩ := id C0
  unfold fX7_settle at hd
  have hl : lv_has ls 5 [(0, .ref (ad 0)), (1, .int p1), (2, .int p2), (3, .long p3)] := hl
  refine lv_aload_n hx hb dX7_settle_0 rfl (lv_at hl 0 rfl) ?_
  refine gX7_0_7 C0 hK hP wm_2_17 dX7_settle_1 ?_
  refine lv_aload_n hx hb dX7_settle_4 rfl (lv_at hl 0 rfl) ?_
  refine gX7_0_7 C0 hK hP wm_2_17 dX7_settle_5 ?_
  refine lv_iload_n hx hb dX7_settle_8 rfl (lv_at hl 1 rfl) ?_
  obtain ⟨u_1, hc_2, hd⟩ := bd hd
  refine cv_i (rest := [.ref (ad 20)]) C0 (mX5_find l dC dI cI cJ cZ (ad 20) (ad 21) n (σ.2.1 13) (σ.1 6) p1 hc_2 _) gv_X7_214 yd_X5_find ⟨rfl, rfl, Nat.le_of_ble_eq_true rfl, Nat.le_of_ble_eq_true rfl, Nat.zero_le _, Nat.zero_le _⟩ xT_b xT_w hK hP hD hS hA 20 2 (tC_working rfl rfl) hl.1 rfl (Nat.le_of_ble_eq_true rfl) dX7_settle_9 5 20 rfl rfl (tN_working_ rfl rfl) (fun H locs hP hD hS => ?_)
  obtain ⟨u_3, hc_4, hd⟩ := bd hd
  refine cv_v (rest := []) C0 (mX5_removeAt l dC dI cI cJ cZ (ad 20) (ad 21) (σ.2.1 13) (σ.1 6) u_1 hc_4 _) gv_X7_272 yd_X5_removeAt ⟨rfl, rfl, Nat.le_of_ble_eq_true rfl, Nat.le_of_ble_eq_true rfl, Nat.zero_le _, Nat.zero_le _⟩ xT_b xT_w hK hP hD hS hA 20 2 (tC_working rfl rfl) hl.1 rfl (Nat.le_of_ble_eq_true rfl) dX7_settle_12 5 20 rfl rfl (tN_working_rows_size ) (fun H locs hP hD hS => ?_)
  refine lv_aload_n hx hb dX7_settle_15 rfl (lv_at hl 0 rfl) ?_
  refine gX7_0_8 C0 hK hP wm_2_18 dX7_settle_16 ?_
  refine lv_aload_n hx hb dX7_settle_19 rfl (lv_at hl 0 rfl) ?_
  refine gX7_0_8 C0 hK hP wm_2_18 dX7_settle_20 ?_
  refine lv_iload_n hx hb dX7_settle_23 rfl (lv_at hl 1 rfl) ?_
  obtain ⟨u_5, hc_6, hd⟩ := bd hd
  refine cv_i (rest := [.ref (ad 22)]) C0 (mX5_find l dC dI cI cJ cZ (ad 22) (ad 23) n (σ.2.1 14) (σ.1 7) p1 hc_6 _) gv_X7_214 yd_X5_find ⟨rfl, rfl, Nat.le_of_ble_eq_true rfl, Nat.le_of_ble_eq_true rfl, Nat.zero_le _, Nat.zero_le _⟩ xT_b xT_w hK hP hD hS hA 22 2 (tC_queue ((sI_A).trans (sA_n (by decide))) ((sI_n (by decide)).trans (sA_I))) hl.1 rfl (Nat.le_of_ble_eq_true rfl) dX7_settle_24 5 22 rfl rfl (tN_queue_ ((sI_A).trans (sA_n (by decide))) ((sI_n (by decide)).trans (sA_I))) (fun H locs hP hD hS => ?_)
  obtain ⟨u_7, hc_8, hd⟩ := bd hd
  refine cv_v (rest := []) C0 (mX5_removeAt l dC dI cI cJ cZ (ad 22) (ad 23) (σ.2.1 14) (σ.1 7) u_5 hc_8 _) gv_X7_272 yd_X5_removeAt ⟨rfl, rfl, Nat.le_of_ble_eq_true rfl, Nat.le_of_ble_eq_true rfl, Nat.zero_le _, Nat.zero_le _⟩ xT_b xT_w hK hP hD hS hA 22 2 (tC_queue ((sI_A).trans (sA_n (by decide))) ((sI_n (by decide)).trans (sA_I))) hl.1 rfl (Nat.le_of_ble_eq_true rfl) dX7_settle_27 5 22 rfl rfl (tN_queue_rows_size ) (fun H locs hP hD hS => ?_)
  refine lv_aload_n hx hb dX7_settle_30 rfl (lv_at hl 0 rfl) ?_
  refine gX7_0_4 C0 hK hP wm_2_8 dX7_settle_31 ?_
  refine lv_iload_n hx hb dX7_settle_34 rfl (lv_at hl 1 rfl) ?_
  refine lv_iload_n hx hb dX7_settle_35 rfl (lv_at hl 2 rfl) ?_
  refine lv_lload_n hx hb dX7_settle_36 rfl (lv_at hl 3 rfl) ?_
  obtain ⟨u_9, hc_10, hd⟩ := bd hd
  refine cv_v (rest := []) C0 (mX4_settleRow l dC dI cI cJ cZ (ad 7) (ad 8) (ad 9) (ad 10) (ad 11) (σ.2.1 3) (σ.2.1 4) (σ.2.1 5) (σ.2.2 2) (σ.1 2) (σ.1 3) (σ.1 16) (σ.1 17) p1 p2 p3 hc_10 _) gv_X7_260 yd_X4_settleRow ⟨rfl, rfl, Nat.le_of_ble_eq_true rfl, Nat.le_of_ble_eq_true rfl, Nat.zero_le _, Nat.zero_le _⟩ xT_b xT_w hK hP hD hS hA 7 5 (tC_live ((sI_A).trans ((sA_n (by decide)).trans ((sI_A).trans (sA_n (by decide))))) ((sI_A).trans ((sA_n (by decide)).trans ((sI_A).trans (sA_n (by decide))))) ((sI_A).trans ((sA_n (by decide)).trans ((sI_A).trans (sA_n (by decide))))) ((sI_L).trans ((sA_L).trans ((sI_L).trans (sA_L)))) ((sI_n (by decide)).trans ((sA_I).trans ((sI_n (by decide)).trans (sA_I)))) ((sI_n (by decide)).trans ((sA_I).trans ((sI_n (by decide)).trans (sA_I)))) ((sI_n (by decide)).trans ((sA_I).trans ((sI_n (by decide)).trans (sA_I)))) ((sI_n (by decide)).trans ((sA_I).trans ((sI_n (by decide)).trans (sA_I))))) hl.1 rfl (Nat.le_of_ble_eq_true rfl) dX7_settle_37 4 7 rfl rfl (tN_live_states_results_settledValues_waiting_settled ((sI_A).trans ((sA_n (by decide)).trans ((sI_A).trans (sA_n (by decide))))) ((sI_n (by decide)).trans ((sA_I).trans ((sI_n (by decide)).trans (sA_I)))) ((sI_n (by decide)).trans ((sA_I).trans ((sI_n (by decide)).trans (sA_I))))) (fun H locs hP hD hS => ?_)
  obtain rfl := Option.some.inj hd
  exact my_vret C0 hK hP hD hS dX7_settle_40
def fX7_tryAgain (n : Nat) (σ : St) (p1 : Int32) (p2 : Int32) (p3 : Int64) : Option (Int32 × St) := (fX4_triesOf (σ.2.1 3) (σ.2.1 4) (σ.2.1 5) (σ.2.2 2) (σ.1 2) (σ.1 3) (σ.1 16) (σ.1 17) p1).bind (fun u_1 => if u_1 < ((σ.2.1 0) (1 : Int32).toNatClampNeg) then ((fX4_addTry (σ.2.1 3) (σ.2.1 4) (σ.2.1 5) (σ.2.2 2) (σ.1 2) (σ.1 3) (σ.1 16) (σ.1 17) p1).bind (fun u_4 => (fX5_append (σ.2.1 14) (σ.1 7) p1).bind (fun u_6 => some ((0 : Int32), sI (sA (sA σ 5 u_4) 14 u_6.1) 7 u_6.2)))) else ((fX7_settle n σ p1 p2 p3).bind (fun u_8 => some ((1 : Int32), u_8))))
set_option maxHeartbeats 4000000 in
set_option maxRecDepth 100000 in
theorem mX7_tryAgain (l : Launch) (dC : Nat → ClassId) (dI : Nat → Nat → Nat) (cI cJ cZ : ClassId) (ad : Nat → Nat) (n : Nat) (σ : St) (p1 : Int32) (p2 : Int32) (p3 : Int64) {r : Int32 × St} (hd : fX7_tryAgain n σ p1 p2 p3 = some r) (sz : Nat)  : Met l yX7_tryAgain (wS yX7_tryAgain cX7_tryAgain 5 (some .boolean)) { frames := 3, cells := 0, slots := 0, locals := 69 } (pC (dC, dI) (kT cI cJ cZ) xC (vX7 cI cJ cZ ad σ) sz [.ref (ad 0), .int p1, .int p2, .long p3]) (qI (dC, dI) (kT cI cJ cZ) (vX7 cI cJ cZ ad r.2) (va_A (vX7 cI cJ cZ ad σ) sz) r.1) 0 0 (va_A (vX7 cI cJ cZ ad σ) sz) := by
  refine my_ent (fun A => qI (dC, dI) (kT cI cJ cZ) (vX7 cI cJ cZ ad r.2) A r.1) (by decide) (Nat.le_of_ble_eq_true rfl) ?_
  intro p e s m below meth c A hAe hnm C0 hK hX hP hD hA hS ls hl
  obtain ⟨hx, hb, hml, hown, hT, hr, hlocks⟩ := id C0
  unfold fX7_tryAgain at hd
  have hl : lv_has ls 5 [(0, .ref (ad 0)), (1, .int p1), (2, .int p2), (3, .long p3)] := hl
  refine lv_aload_n hx hb dX7_tryAgain_0 rfl (lv_at hl 0 rfl) ?_
  refine gX7_0_4 C0 hK hP wm_2_8 dX7_tryAgain_1 ?_
  refine lv_iload_n hx hb dX7_tryAgain_4 rfl (lv_at hl 1 rfl) ?_
  obtain ⟨u_1, hc_2, hd⟩ := bd hd
  refine cv_i (rest := []) C0 (mX4_triesOf l dC dI cI cJ cZ (ad 7) (ad 8) (ad 9) (ad 10) (ad 11) (σ.2.1 3) (σ.2.1 4) (σ.2.1 5) (σ.2.2 2) (σ.1 2) (σ.1 3) (σ.1 16) (σ.1 17) p1 hc_2 _) gv_X7_208 yd_X4_triesOf ⟨rfl, rfl, Nat.le_of_ble_eq_true rfl, Nat.le_of_ble_eq_true rfl, Nat.zero_le _, Nat.zero_le _⟩ xT_b xT_w hK hP hD hS hA 7 5 (tC_live rfl rfl rfl rfl rfl rfl rfl rfl) hl.1 rfl (Nat.le_of_ble_eq_true rfl) dX7_tryAgain_5 4 7 rfl rfl (tN_live_ rfl rfl rfl rfl rfl rfl rfl rfl) (fun H locs hP hD hS => ?_)
  refine lv_aload_n hx hb dX7_tryAgain_8 rfl (lv_at hl 0 rfl) ?_
  refine gX7_0_2 C0 hK hP wm_2_0 dX7_tryAgain_9 ?_
  refine lv_iconst (v := 1) hx hb dX7_tryAgain_12 (by decide) ?_
  refine lX7_1 C0 hK hP rfl (by unfold vp_in; decide) dX7_tryAgain_13 ?_
  refine lv_icmp_lt (tgt := 26) hx hb dX7_tryAgain_14 (by decide) (fun c_3 => ?_) (fun c_3 => ?_)
  · replace hd := i_t hd c_3
    refine lv_aload_n hx hb dX7_tryAgain_26 rfl (lv_at hl 0 rfl) ?_
    refine gX7_0_4 C0 hK hP wm_2_8 dX7_tryAgain_27 ?_
    refine lv_iload_n hx hb dX7_tryAgain_30 rfl (lv_at hl 1 rfl) ?_
    obtain ⟨u_4, hc_5, hd⟩ := bd hd
    refine cv_v (rest := []) C0 (mX4_addTry l dC dI cI cJ cZ (ad 7) (ad 8) (ad 9) (ad 10) (ad 11) (σ.2.1 3) (σ.2.1 4) (σ.2.1 5) (σ.2.2 2) (σ.1 2) (σ.1 3) (σ.1 16) (σ.1 17) p1 hc_5 _) gv_X7_299 yd_X4_addTry ⟨rfl, rfl, Nat.le_of_ble_eq_true rfl, Nat.le_of_ble_eq_true rfl, Nat.zero_le _, Nat.zero_le _⟩ xT_b xT_w hK hP hD hS hA 7 5 (tC_live rfl rfl rfl rfl rfl rfl rfl rfl) hl.1 rfl (Nat.le_of_ble_eq_true rfl) dX7_tryAgain_31 4 7 rfl rfl (tN_live_tries rfl rfl rfl rfl rfl rfl rfl) (fun H locs hP hD hS => ?_)
    refine lv_aload_n hx hb dX7_tryAgain_34 rfl (lv_at hl 0 rfl) ?_
    refine gX7_0_8 C0 hK hP wm_2_18 dX7_tryAgain_35 ?_
    refine lv_iload_n hx hb dX7_tryAgain_38 rfl (lv_at hl 1 rfl) ?_
    obtain ⟨u_6, hc_7, hd⟩ := bd hd
    refine cv_v (rest := []) C0 (mX5_append l dC dI cI cJ cZ (ad 22) (ad 23) (σ.2.1 14) (σ.1 7) p1 hc_7 _) gv_X7_266 yd_X5_append ⟨rfl, rfl, Nat.le_of_ble_eq_true rfl, Nat.le_of_ble_eq_true rfl, Nat.zero_le _, Nat.zero_le _⟩ xT_b xT_w hK hP hD hS hA 22 2 (tC_queue (sA_n (by decide)) (sA_I)) hl.1 rfl (Nat.le_of_ble_eq_true rfl) dX7_tryAgain_39 5 22 rfl rfl (tN_queue_rows_size ) (fun H locs hP hD hS => ?_)
    refine lv_iconst (v := 0) hx hb dX7_tryAgain_42 (by decide) ?_
    obtain rfl := Option.some.inj hd
    exact my_zret C0 hK hP hD hS (Or.inl rfl) dX7_tryAgain_43
  · replace hd := i_e hd c_3
    refine lv_aload_n hx hb dX7_tryAgain_17 rfl (lv_at hl 0 rfl) ?_
    refine lv_iload_n hx hb dX7_tryAgain_18 rfl (lv_at hl 1 rfl) ?_
    refine lv_iload_n hx hb dX7_tryAgain_19 rfl (lv_at hl 2 rfl) ?_
    refine lv_lload_n hx hb dX7_tryAgain_20 rfl (lv_at hl 3 rfl) ?_
    obtain ⟨u_8, hc_9, hd⟩ := bd hd
    refine cw_v (rest := []) C0 (mX7_settle l dC dI cI cJ cZ ad n σ p1 p2 p3 hc_9 _) gv_X7_296 yd_X7_settle ⟨rfl, rfl, Nat.le_of_ble_eq_true rfl, Nat.le_of_ble_eq_true rfl, Nat.zero_le _, Nat.zero_le _⟩ xC_b (fun U h => xC_w h hX) hK hP hD hS hA hl.1 rfl (Nat.le_of_ble_eq_true rfl) dX7_tryAgain_21 7 0 rfl rfl (fun H locs hP hD hS => ?_)
    refine lv_iconst (v := 1) hx hb dX7_tryAgain_24 (by decide) ?_
    obtain rfl := Option.some.inj hd
    exact my_zret C0 hK hP hD hS (Or.inr rfl) dX7_tryAgain_25
def fX7_findOverdue_64 (n : Nat) (k9 : (St × Int32) → Option (St)) (a : St × Int32) : Option (St) := k9 (a.1, a.2 + 1)
set_option maxHeartbeats 4000000 in
set_option maxRecDepth 100000 in
theorem bX7_findOverdue_64 {p : Program} {l : Launch} {e : Env} {s : State} {m : MethodId} {args : Array Value} {below : List Frame} {meth : Method} {c : Code} {A : Nat → Prop} {dC : Nat → ClassId} {dI : Nat → Nat → Nat} {cI cJ cZ : ClassId} {ad : Nat → Nat} {r : St} {n : Nat} (C0 : cx p s m args meth c cX7_findOverdue 3 RX7 none) (hK : va_K (dC, dI) vwCl (kT cI cJ cZ) s) (hX : xC s) (hA : ∀ q : Nat, s.heap.size ≤ q → A q) (k9 : (St × Int32) → Option (St)) (ih9 : ∀ (a : St × Int32), k9 a = some r → ∀ (H : Heap) (locs : List Loc) (ls : Array Slot), va_P (dC, dI) vwCl (vX7 cI cJ cZ ad a.1) H → va_D A (vX7 cI cJ cZ ad a.1) → va_S A s.heap H locs → lv_has ls 3 [(0, .ref (ad 0)), (1, .int a.2)] → W p l e ({ frames := 2, cells := 0, slots := 0, locals := 42 } : Room) s m args below meth c H locs 0 0 (MQ below (qV (dC, dI) (kT cI cJ cZ) (vX7 cI cJ cZ ad r) A) args s 0 0 A) (F0 m 9 ls [])) : ∀ (a : St × Int32), fX7_findOverdue_64 n k9 a = some r → ∀ (H : Heap) (locs : List Loc) (ls : Array Slot), va_P (dC, dI) vwCl (vX7 cI cJ cZ ad a.1) H → va_D A (vX7 cI cJ cZ ad a.1) → va_S A s.heap H locs → lv_has ls 3 [(0, .ref (ad 0)), (1, .int a.2)] → W p l e ({ frames := 2, cells := 0, slots := 0, locals := 42 } : Room) s m args below meth c H locs 0 0 (MQ below (qV (dC, dI) (kT cI cJ cZ) (vX7 cI cJ cZ ad r) A) args s 0 0 A) (F0 m 64 ls []) := by
  obtain ⟨hx, hb, hml, hown, hT, hr, hlocks⟩ := id C0
  intro a hd H locs ls hP hD hS hl
  unfold fX7_findOverdue_64 at hd
  refine lv_iinc (v := a.2 + 1) (lv' := [(1, .int (a.2 + 1)), (0, .ref (ad 0))]) hx hb dX7_findOverdue_64 hl (k := 1) rfl rfl (by decide) rfl (fun ls hl => ?_)
  refine lv_goto (tgt := 9) hx hb dX7_findOverdue_67 (by decide) ?_
  exact ih9 _ hd _ _ _ hP hD hS (lv_sub hl [1, 0] rfl)
def fX7_findOverdue_9 (n : Nat) (k9 : (St × Int32) → Option (St)) (a : St × Int32) : Option (St) := if (a.1.1 6) ≤ a.2 then (some a.1) else ((fX5_at (a.1.2.1 13) (a.1.1 6) a.2).bind (fun u_4 => (fX0_dueOf (a.1.2.2 0) (a.1.2.2 1) (a.1.2.1 1) (a.1.2.1 2) u_4).bind (fun u_6 => if (a.1.1 12) < u_6 then (fX7_findOverdue_64 n k9 (a.1, a.2)) else ((fX5_find n (a.1.2.1 14) (a.1.1 7) u_4).bind (fun u_9 => if u_9 = (-1 : Int32) then ((fX5_append (a.1.2.1 15) (a.1.1 8) u_4).bind (fun u_12 => fX7_findOverdue_64 n k9 (sI (sA a.1 15 u_12.1) 8 u_12.2, a.2))) else (fX7_findOverdue_64 n k9 (a.1, a.2)))))))
set_option maxHeartbeats 4000000 in
set_option maxRecDepth 100000 in
theorem bX7_findOverdue_9 {p : Program} {l : Launch} {e : Env} {s : State} {m : MethodId} {args : Array Value} {below : List Frame} {meth : Method} {c : Code} {A : Nat → Prop} {dC : Nat → ClassId} {dI : Nat → Nat → Nat} {cI cJ cZ : ClassId} {ad : Nat → Nat} {r : St} {n : Nat} (C0 : cx p s m args meth c cX7_findOverdue 3 RX7 none) (hK : va_K (dC, dI) vwCl (kT cI cJ cZ) s) (hX : xC s) (hA : ∀ q : Nat, s.heap.size ≤ q → A q) (k9 : (St × Int32) → Option (St)) (ih9 : ∀ (a : St × Int32), k9 a = some r → ∀ (H : Heap) (locs : List Loc) (ls : Array Slot), va_P (dC, dI) vwCl (vX7 cI cJ cZ ad a.1) H → va_D A (vX7 cI cJ cZ ad a.1) → va_S A s.heap H locs → lv_has ls 3 [(0, .ref (ad 0)), (1, .int a.2)] → W p l e ({ frames := 2, cells := 0, slots := 0, locals := 42 } : Room) s m args below meth c H locs 0 0 (MQ below (qV (dC, dI) (kT cI cJ cZ) (vX7 cI cJ cZ ad r) A) args s 0 0 A) (F0 m 9 ls [])) : ∀ (a : St × Int32), fX7_findOverdue_9 n k9 a = some r → ∀ (H : Heap) (locs : List Loc) (ls : Array Slot), va_P (dC, dI) vwCl (vX7 cI cJ cZ ad a.1) H → va_D A (vX7 cI cJ cZ ad a.1) → va_S A s.heap H locs → lv_has ls 3 [(0, .ref (ad 0)), (1, .int a.2)] → W p l e ({ frames := 2, cells := 0, slots := 0, locals := 42 } : Room) s m args below meth c H locs 0 0 (MQ below (qV (dC, dI) (kT cI cJ cZ) (vX7 cI cJ cZ ad r) A) args s 0 0 A) (F0 m 9 ls []) := by
  obtain ⟨hx, hb, hml, hown, hT, hr, hlocks⟩ := id C0
  intro a hd H locs ls hP hD hS hl
  unfold fX7_findOverdue_9 at hd
  refine lv_iload_n hx hb dX7_findOverdue_9 rfl (lv_at hl 1 rfl) ?_
  refine lv_aload_n hx hb dX7_findOverdue_10 rfl (lv_at hl 0 rfl) ?_
  refine gX7_0_7 C0 hK hP wm_2_17 dX7_findOverdue_11 ?_
  refine gX7_20_1 C0 hK hP hX rfl dX7_findOverdue_14 ?_
  refine lv_icmp_ge (tgt := 70) hx hb dX7_findOverdue_17 (by decide) (fun c_3 => ?_) (fun c_3 => ?_)
  · replace hd := i_t hd c_3
    obtain rfl := Option.some.inj hd
    exact my_vret C0 hK hP hD hS dX7_findOverdue_70
  · replace hd := i_e hd c_3
    refine lv_aload_n hx hb dX7_findOverdue_20 rfl (lv_at hl 0 rfl) ?_
    refine gX7_0_7 C0 hK hP wm_2_17 dX7_findOverdue_21 ?_
    refine lv_iload_n hx hb dX7_findOverdue_24 rfl (lv_at hl 1 rfl) ?_
    obtain ⟨u_4, hc_5, hd⟩ := bd hd
    refine cv_i (rest := []) C0 (mX5_at l dC dI cI cJ cZ (ad 20) (ad 21) (a.1.2.1 13) (a.1.1 6) a.2 hc_5 _) gv_X7_269 yd_X5_at ⟨rfl, rfl, Nat.le_of_ble_eq_true rfl, Nat.le_of_ble_eq_true rfl, Nat.zero_le _, Nat.zero_le _⟩ xT_b xT_w hK hP hD hS hA 20 2 (tC_working rfl rfl) hl.1 rfl (Nat.le_of_ble_eq_true rfl) dX7_findOverdue_25 5 20 rfl rfl (tN_working_ rfl rfl) (fun H locs hP hD hS => ?_)
    refine lv_istore_n (lv' := [(2, .int u_4), (0, .ref (ad 0)), (1, .int a.2)]) hx hb dX7_findOverdue_28 rfl hl (by decide) rfl (fun ls hl => ?_)
    refine lv_aload_n hx hb dX7_findOverdue_29 rfl (lv_at hl 1 rfl) ?_
    refine gX7_0_3 C0 hK hP wm_2_4 dX7_findOverdue_30 ?_
    refine lv_iload_n hx hb dX7_findOverdue_33 rfl (lv_at hl 0 rfl) ?_
    obtain ⟨u_6, hc_7, hd⟩ := bd hd
    refine cv_i (rest := []) C0 (mX0_dueOf l dC dI cI cJ cZ (ad 2) (ad 3) (ad 4) (ad 5) (ad 6) (a.1.2.2 0) (a.1.2.2 1) (a.1.2.1 1) (a.1.2.1 2) u_4 hc_7 _) gv_X7_293 yd_X0_dueOf ⟨rfl, rfl, Nat.le_of_ble_eq_true rfl, Nat.le_of_ble_eq_true rfl, Nat.zero_le _, Nat.zero_le _⟩ xT_b xT_w hK hP hD hS hA 2 5 (tC_items rfl rfl rfl rfl) hl.1 rfl (Nat.le_of_ble_eq_true rfl) dX7_findOverdue_34 0 2 rfl rfl (tN_items_ rfl rfl rfl rfl) (fun H locs hP hD hS => ?_)
    refine lv_aload_n hx hb dX7_findOverdue_37 rfl (lv_at hl 1 rfl) ?_
    refine gX7_0_14 C0 hK hP wm_3_9 rfl dX7_findOverdue_38 ?_
    refine lv_icmp_gt (tgt := 64) hx hb dX7_findOverdue_41 (by decide) (fun c_8 => ?_) (fun c_8 => ?_)
    · replace hd := i_t hd c_8
      exact bX7_findOverdue_64 C0 hK hX hA k9 ih9 _ hd _ _ _ hP hD hS (lv_sub hl [1, 2] rfl)
    · replace hd := i_e hd c_8
      refine lv_aload_n hx hb dX7_findOverdue_44 rfl (lv_at hl 1 rfl) ?_
      refine gX7_0_8 C0 hK hP wm_2_18 dX7_findOverdue_45 ?_
      refine lv_iload_n hx hb dX7_findOverdue_48 rfl (lv_at hl 0 rfl) ?_
      obtain ⟨u_9, hc_10, hd⟩ := bd hd
      refine cv_i (rest := []) C0 (mX5_find l dC dI cI cJ cZ (ad 22) (ad 23) n (a.1.2.1 14) (a.1.1 7) u_4 hc_10 _) gv_X7_214 yd_X5_find ⟨rfl, rfl, Nat.le_of_ble_eq_true rfl, Nat.le_of_ble_eq_true rfl, Nat.zero_le _, Nat.zero_le _⟩ xT_b xT_w hK hP hD hS hA 22 2 (tC_queue rfl rfl) hl.1 rfl (Nat.le_of_ble_eq_true rfl) dX7_findOverdue_49 5 22 rfl rfl (tN_queue_ rfl rfl) (fun H locs hP hD hS => ?_)
      refine lv_iconst (v := (-1)) hx hb dX7_findOverdue_52 (by decide) ?_
      refine lv_icmp_ne (tgt := 64) hx hb dX7_findOverdue_53 (by decide) (fun c_11 => ?_) (fun c_11 => ?_)
      · replace hd := i_e hd c_11
        exact bX7_findOverdue_64 C0 hK hX hA k9 ih9 _ hd _ _ _ hP hD hS (lv_sub hl [1, 2] rfl)
      · replace hd := i_t hd c_11
        refine lv_aload_n hx hb dX7_findOverdue_56 rfl (lv_at hl 1 rfl) ?_
        refine gX7_0_9 C0 hK hP wm_2_19 dX7_findOverdue_57 ?_
        refine lv_iload_n hx hb dX7_findOverdue_60 rfl (lv_at hl 0 rfl) ?_
        obtain ⟨u_12, hc_13, hd⟩ := bd hd
        refine cv_v (rest := []) C0 (mX5_append l dC dI cI cJ cZ (ad 24) (ad 25) (a.1.2.1 15) (a.1.1 8) u_4 hc_13 _) gv_X7_266 yd_X5_append ⟨rfl, rfl, Nat.le_of_ble_eq_true rfl, Nat.le_of_ble_eq_true rfl, Nat.zero_le _, Nat.zero_le _⟩ xT_b xT_w hK hP hD hS hA 24 2 (tC_overdue rfl rfl) hl.1 rfl (Nat.le_of_ble_eq_true rfl) dX7_findOverdue_61 5 24 rfl rfl (tN_overdue_rows_size ) (fun H locs hP hD hS => ?_)
        exact bX7_findOverdue_64 C0 hK hX hA k9 ih9 _ hd _ _ _ hP hD hS (lv_sub hl [1, 2] rfl)
set_option maxHeartbeats 4000000 in
set_option maxRecDepth 100000 in
theorem oX7_findOverdue_9 {p : Program} {l : Launch} {e : Env} {s : State} {m : MethodId} {args : Array Value} {below : List Frame} {meth : Method} {c : Code} {A : Nat → Prop} {dC : Nat → ClassId} {dI : Nat → Nat → Nat} {cI cJ cZ : ClassId} {ad : Nat → Nat} {r : St} {n : Nat} (C0 : cx p s m args meth c cX7_findOverdue 3 RX7 none) (hK : va_K (dC, dI) vwCl (kT cI cJ cZ) s) (hX : xC s) (hA : ∀ q : Nat, s.heap.size ≤ q → A q)  : ∀ nn : Nat, ∀ (a : St × Int32), loopF (fX7_findOverdue_9 n ) nn a = some r → ∀ (H : Heap) (locs : List Loc) (ls : Array Slot), va_P (dC, dI) vwCl (vX7 cI cJ cZ ad a.1) H → va_D A (vX7 cI cJ cZ ad a.1) → va_S A s.heap H locs → lv_has ls 3 [(0, .ref (ad 0)), (1, .int a.2)] → W p l e ({ frames := 2, cells := 0, slots := 0, locals := 42 } : Room) s m args below meth c H locs 0 0 (MQ below (qV (dC, dI) (kT cI cJ cZ) (vX7 cI cJ cZ ad r) A) args s 0 0 A) (F0 m 9 ls []) := by
  intro nn
  induction nn with
  | zero => intro a hd; cases hd
  | succ nn ih => intro a hd; exact bX7_findOverdue_9 C0 hK hX hA  _ ih a hd
def fX7_findOverdue (n : Nat) (σ : St)  : Option (St) := (fX5_clear (σ.2.1 15) (σ.1 8)).bind (fun u_1 => loopF (fX7_findOverdue_9 n ) n (sI σ 8 u_1, (0 : Int32)))
set_option maxHeartbeats 4000000 in
set_option maxRecDepth 100000 in
theorem mX7_findOverdue (l : Launch) (dC : Nat → ClassId) (dI : Nat → Nat → Nat) (cI cJ cZ : ClassId) (ad : Nat → Nat) (n : Nat) (σ : St)  {r : St} (hd : fX7_findOverdue n σ  = some r) (sz : Nat)  : Met l yX7_findOverdue (wS yX7_findOverdue cX7_findOverdue 3 none) { frames := 2, cells := 0, slots := 0, locals := 42 } (pC (dC, dI) (kT cI cJ cZ) xC (vX7 cI cJ cZ ad σ) sz [.ref (ad 0)]) (qV (dC, dI) (kT cI cJ cZ) (vX7 cI cJ cZ ad r) (va_A (vX7 cI cJ cZ ad σ) sz)) 0 0 (va_A (vX7 cI cJ cZ ad σ) sz) := by
  refine my_ent (fun A => qV (dC, dI) (kT cI cJ cZ) (vX7 cI cJ cZ ad r) A) (by decide) (Nat.le_of_ble_eq_true rfl) ?_
  intro p e s m below meth c A hAe hnm C0 hK hX hP hD hA hS ls hl
  obtain ⟨hx, hb, hml, hown, hT, hr, hlocks⟩ := id C0
  unfold fX7_findOverdue at hd
  have hl : lv_has ls 3 [(0, .ref (ad 0))] := hl
  refine lv_aload_n hx hb dX7_findOverdue_0 rfl (lv_at hl 0 rfl) ?_
  refine gX7_0_9 C0 hK hP wm_2_19 dX7_findOverdue_1 ?_
  obtain ⟨u_1, hc_2, hd⟩ := bd hd
  refine cv_v (rest := []) C0 (mX5_clear l dC dI cI cJ cZ (ad 24) (ad 25) (σ.2.1 15) (σ.1 8)  hc_2 _) gv_X7_290 yd_X5_clear ⟨rfl, rfl, Nat.le_of_ble_eq_true rfl, Nat.le_of_ble_eq_true rfl, Nat.zero_le _, Nat.zero_le _⟩ xT_b xT_w hK hP hD hS hA 24 2 (tC_overdue rfl rfl) hl.1 rfl (Nat.le_of_ble_eq_true rfl) dX7_findOverdue_4 5 24 rfl rfl (tN_overdue_size rfl) (fun H locs hP hD hS => ?_)
  refine lv_iconst (v := 0) hx hb dX7_findOverdue_7 (by decide) ?_
  refine lv_istore_n (lv' := [(1, .int (0 : Int32)), (0, .ref (ad 0))]) hx hb dX7_findOverdue_8 rfl hl (by decide) rfl (fun ls hl => ?_)
  exact oX7_findOverdue_9 C0 hK hX hA  _ _ hd _ _ _ hP hD hS (lv_sub hl [1, 0] rfl)
def fX7_passTick_73 (n : Nat)  (a : St) : Option (St) := (fX7_goOn n a).bind (fun u_10 => some u_10)
set_option maxHeartbeats 4000000 in
set_option maxRecDepth 100000 in
theorem bX7_passTick_73 {p : Program} {l : Launch} {e : Env} {s : State} {m : MethodId} {args : Array Value} {below : List Frame} {meth : Method} {c : Code} {A : Nat → Prop} {dC : Nat → ClassId} {dI : Nat → Nat → Nat} {cI cJ cZ : ClassId} {ad : Nat → Nat} {r : St} {n : Nat} (C0 : cx p s m args meth c cX7_passTick 2 RX7 none) (hK : va_K (dC, dI) vwCl (kT cI cJ cZ) s) (hX : xC s) (hA : ∀ q : Nat, s.heap.size ≤ q → A q)  : ∀ (a : St), fX7_passTick_73 n  a = some r → ∀ (H : Heap) (locs : List Loc) (ls : Array Slot), va_P (dC, dI) vwCl (vX7 cI cJ cZ ad a) H → va_D A (vX7 cI cJ cZ ad a) → va_S A s.heap H locs → lv_has ls 2 [(0, .ref (ad 0))] → W p l e ({ frames := 5, cells := 0, slots := 0, locals := 110 } : Room) s m args below meth c H locs 0 0 (MQ below (qV (dC, dI) (kT cI cJ cZ) (vX7 cI cJ cZ ad r) A) args s 0 0 A) (F0 m 73 ls []) := by
  obtain ⟨hx, hb, hml, hown, hT, hr, hlocks⟩ := id C0
  intro a hd H locs ls hP hD hS hl
  unfold fX7_passTick_73 at hd
  refine lv_aload_n hx hb dX7_passTick_73 rfl (lv_at hl 0 rfl) ?_
  obtain ⟨u_10, hc_11, hd⟩ := bd hd
  refine cw_v (rest := []) C0 (mX7_goOn l dC dI cI cJ cZ ad n a  hc_11 _) gv_X7_117 yd_X7_goOn ⟨rfl, rfl, Nat.le_of_ble_eq_true rfl, Nat.le_of_ble_eq_true rfl, Nat.zero_le _, Nat.zero_le _⟩ xC_b (fun U h => xC_w h hX) hK hP hD hS hA hl.1 rfl (Nat.le_of_ble_eq_true rfl) dX7_passTick_74 7 0 rfl rfl (fun H locs hP hD hS => ?_)
  obtain rfl := Option.some.inj hd
  exact my_vret C0 hK hP hD hS dX7_passTick_77
def fX7_passTick_21 (n : Nat) (k21 : (St × Int32) → Option (St)) (a : St × Int32) : Option (St) := if (a.1.1 8) ≤ a.2 then (if 0 < (a.1.1 8) then (fX7_passTick_73 n  a.1) else (if (a.1.1 7) ≤ 0 then (some a.1) else (fX7_passTick_73 n  a.1))) else ((fX5_at (a.1.2.1 15) (a.1.1 8) a.2).bind (fun u_6 => (fX7_tryAgain n a.1 u_6 (3 : Int32) (0 : Int64)).bind (fun u_8 => k21 (u_8.2, a.2 + 1))))
set_option maxHeartbeats 4000000 in
set_option maxRecDepth 100000 in
theorem bX7_passTick_21 {p : Program} {l : Launch} {e : Env} {s : State} {m : MethodId} {args : Array Value} {below : List Frame} {meth : Method} {c : Code} {A : Nat → Prop} {dC : Nat → ClassId} {dI : Nat → Nat → Nat} {cI cJ cZ : ClassId} {ad : Nat → Nat} {r : St} {n : Nat} (C0 : cx p s m args meth c cX7_passTick 2 RX7 none) (hK : va_K (dC, dI) vwCl (kT cI cJ cZ) s) (hX : xC s) (hA : ∀ q : Nat, s.heap.size ≤ q → A q) (k21 : (St × Int32) → Option (St)) (ih21 : ∀ (a : St × Int32), k21 a = some r → ∀ (H : Heap) (locs : List Loc) (ls : Array Slot), va_P (dC, dI) vwCl (vX7 cI cJ cZ ad a.1) H → va_D A (vX7 cI cJ cZ ad a.1) → va_S A s.heap H locs → lv_has ls 2 [(0, .ref (ad 0)), (1, .int a.2)] → W p l e ({ frames := 5, cells := 0, slots := 0, locals := 110 } : Room) s m args below meth c H locs 0 0 (MQ below (qV (dC, dI) (kT cI cJ cZ) (vX7 cI cJ cZ ad r) A) args s 0 0 A) (F0 m 21 ls [])) : ∀ (a : St × Int32), fX7_passTick_21 n k21 a = some r → ∀ (H : Heap) (locs : List Loc) (ls : Array Slot), va_P (dC, dI) vwCl (vX7 cI cJ cZ ad a.1) H → va_D A (vX7 cI cJ cZ ad a.1) → va_S A s.heap H locs → lv_has ls 2 [(0, .ref (ad 0)), (1, .int a.2)] → W p l e ({ frames := 5, cells := 0, slots := 0, locals := 110 } : Room) s m args below meth c H locs 0 0 (MQ below (qV (dC, dI) (kT cI cJ cZ) (vX7 cI cJ cZ ad r) A) args s 0 0 A) (F0 m 21 ls []) := by
  obtain ⟨hx, hb, hml, hown, hT, hr, hlocks⟩ := id C0
  intro a hd H locs ls hP hD hS hl
  unfold fX7_passTick_21 at hd
  refine lv_iload_n hx hb dX7_passTick_21 rfl (lv_at hl 1 rfl) ?_
  refine lv_aload_n hx hb dX7_passTick_22 rfl (lv_at hl 0 rfl) ?_
  refine gX7_0_9 C0 hK hP wm_2_19 dX7_passTick_23 ?_
  refine gX7_24_1 C0 hK hP hX rfl dX7_passTick_26 ?_
  refine lv_icmp_ge (tgt := 53) hx hb dX7_passTick_29 (by decide) (fun c_3 => ?_) (fun c_3 => ?_)
  · replace hd := i_t hd c_3
    refine lv_aload_n hx hb dX7_passTick_53 rfl (lv_at hl 0 rfl) ?_
    refine gX7_0_9 C0 hK hP wm_2_19 dX7_passTick_54 ?_
    refine gX7_24_1 C0 hK hP hX rfl dX7_passTick_57 ?_
    refine lv_if_gt (tgt := 73) hx hb dX7_passTick_60 (by decide) (fun c_4 => ?_) (fun c_4 => ?_)
    · replace hd := i_t hd c_4
      exact bX7_passTick_73 C0 hK hX hA  _ hd _ _ _ hP hD hS (lv_sub hl [0] rfl)
    · replace hd := i_e hd c_4
      refine lv_aload_n hx hb dX7_passTick_63 rfl (lv_at hl 0 rfl) ?_
      refine gX7_0_8 C0 hK hP wm_2_18 dX7_passTick_64 ?_
      refine gX7_22_1 C0 hK hP hX rfl dX7_passTick_67 ?_
      refine lv_if_le (tgt := 77) hx hb dX7_passTick_70 (by decide) (fun c_5 => ?_) (fun c_5 => ?_)
      · replace hd := i_t hd c_5
        obtain rfl := Option.some.inj hd
        exact my_vret C0 hK hP hD hS dX7_passTick_77
      · replace hd := i_e hd c_5
        exact bX7_passTick_73 C0 hK hX hA  _ hd _ _ _ hP hD hS (lv_sub hl [0] rfl)
  · replace hd := i_e hd c_3
    refine lv_aload_n hx hb dX7_passTick_32 rfl (lv_at hl 0 rfl) ?_
    refine lv_aload_n hx hb dX7_passTick_33 rfl (lv_at hl 0 rfl) ?_
    refine gX7_0_9 C0 hK hP wm_2_19 dX7_passTick_34 ?_
    refine lv_iload_n hx hb dX7_passTick_37 rfl (lv_at hl 1 rfl) ?_
    obtain ⟨u_6, hc_7, hd⟩ := bd hd
    refine cv_i (rest := [.ref (ad 0)]) C0 (mX5_at l dC dI cI cJ cZ (ad 24) (ad 25) (a.1.2.1 15) (a.1.1 8) a.2 hc_7 _) gv_X7_269 yd_X5_at ⟨rfl, rfl, Nat.le_of_ble_eq_true rfl, Nat.le_of_ble_eq_true rfl, Nat.zero_le _, Nat.zero_le _⟩ xT_b xT_w hK hP hD hS hA 24 2 (tC_overdue rfl rfl) hl.1 rfl (Nat.le_of_ble_eq_true rfl) dX7_passTick_38 5 24 rfl rfl (tN_overdue_ rfl rfl) (fun H locs hP hD hS => ?_)
    refine lv_iconst (v := 3) hx hb dX7_passTick_41 (by decide) ?_
    refine lv_lconst (v := 0) hx hb dX7_passTick_42 (by decide) ?_
    obtain ⟨u_8, hc_9, hd⟩ := bd hd
    refine cw_i (rest := []) C0 (mX7_tryAgain l dC dI cI cJ cZ ad n a.1 u_6 (3 : Int32) (0 : Int64) hc_9 _) gv_X7_287 yd_X7_tryAgain ⟨rfl, rfl, Nat.le_of_ble_eq_true rfl, Nat.le_of_ble_eq_true rfl, Nat.zero_le _, Nat.zero_le _⟩ xC_b (fun U h => xC_w h hX) hK hP hD hS hA hl.1 rfl (Nat.le_of_ble_eq_true rfl) dX7_passTick_43 7 0 rfl rfl (fun H locs hP hD hS => ?_)
    refine lv_pop hx hb dX7_passTick_46 rfl ?_
    refine lv_iinc (v := a.2 + 1) (lv' := [(1, .int (a.2 + 1)), (0, .ref (ad 0))]) hx hb dX7_passTick_47 hl (k := 1) rfl rfl (by decide) rfl (fun ls hl => ?_)
    refine lv_goto (tgt := 21) hx hb dX7_passTick_50 (by decide) ?_
    exact ih21 _ hd _ _ _ hP hD hS (lv_sub hl [1, 0] rfl)
set_option maxHeartbeats 4000000 in
set_option maxRecDepth 100000 in
theorem oX7_passTick_21 {p : Program} {l : Launch} {e : Env} {s : State} {m : MethodId} {args : Array Value} {below : List Frame} {meth : Method} {c : Code} {A : Nat → Prop} {dC : Nat → ClassId} {dI : Nat → Nat → Nat} {cI cJ cZ : ClassId} {ad : Nat → Nat} {r : St} {n : Nat} (C0 : cx p s m args meth c cX7_passTick 2 RX7 none) (hK : va_K (dC, dI) vwCl (kT cI cJ cZ) s) (hX : xC s) (hA : ∀ q : Nat, s.heap.size ≤ q → A q)  : ∀ nn : Nat, ∀ (a : St × Int32), loopF (fX7_passTick_21 n ) nn a = some r → ∀ (H : Heap) (locs : List Loc) (ls : Array Slot), va_P (dC, dI) vwCl (vX7 cI cJ cZ ad a.1) H → va_D A (vX7 cI cJ cZ ad a.1) → va_S A s.heap H locs → lv_has ls 2 [(0, .ref (ad 0)), (1, .int a.2)] → W p l e ({ frames := 5, cells := 0, slots := 0, locals := 110 } : Room) s m args below meth c H locs 0 0 (MQ below (qV (dC, dI) (kT cI cJ cZ) (vX7 cI cJ cZ ad r) A) args s 0 0 A) (F0 m 21 ls []) := by
  intro nn
  induction nn with
  | zero => intro a hd; cases hd
  | succ nn ih => intro a hd; exact bX7_passTick_21 C0 hK hX hA  _ ih a hd
def fX7_passTick (n : Nat) (σ : St)  : Option (St) := (fX7_findOverdue n (sI (sI σ 12 ((σ.1 12) + (1 : Int32))) 13 (0 : Int32))).bind (fun u_1 => loopF (fX7_passTick_21 n ) n (u_1, (0 : Int32)))
set_option maxHeartbeats 4000000 in
set_option maxRecDepth 100000 in
theorem mX7_passTick (l : Launch) (dC : Nat → ClassId) (dI : Nat → Nat → Nat) (cI cJ cZ : ClassId) (ad : Nat → Nat) (n : Nat) (σ : St)  {r : St} (hd : fX7_passTick n σ  = some r) (sz : Nat)  : Met l yX7_passTick (wS yX7_passTick cX7_passTick 2 none) { frames := 5, cells := 0, slots := 0, locals := 110 } (pC (dC, dI) (kT cI cJ cZ) xC (vX7 cI cJ cZ ad σ) sz [.ref (ad 0)]) (qV (dC, dI) (kT cI cJ cZ) (vX7 cI cJ cZ ad r) (va_A (vX7 cI cJ cZ ad σ) sz)) 0 0 (va_A (vX7 cI cJ cZ ad σ) sz) := by
  refine my_ent (fun A => qV (dC, dI) (kT cI cJ cZ) (vX7 cI cJ cZ ad r) A) (by decide) (Nat.le_of_ble_eq_true rfl) ?_
  intro p e s m below meth c A hAe hnm C0 hK hX hP hD hA hS ls hl
  obtain ⟨hx, hb, hml, hown, hT, hr, hlocks⟩ := id C0
  unfold fX7_passTick at hd
  have hl : lv_has ls 2 [(0, .ref (ad 0))] := hl
  refine lv_aload_n hx hb dX7_passTick_0 rfl (lv_at hl 0 rfl) ?_
  refine lv_dup hx hb dX7_passTick_1 rfl ?_
  refine gX7_0_14 C0 hK hP wm_3_9 rfl dX7_passTick_2 ?_
  refine lv_iconst (v := 1) hx hb dX7_passTick_5 (by decide) ?_
  refine lv_iadd hx hb dX7_passTick_6 ?_
  refine pX7_0_14 C0 hK hP hD hS wm_3_9 dX7_passTick_7 (fun H locs hP hD hS => ?_)
  refine lv_aload_n hx hb dX7_passTick_10 rfl (lv_at hl 0 rfl) ?_
  refine lv_iconst (v := 0) hx hb dX7_passTick_11 (by decide) ?_
  refine pX7_0_15 C0 hK hP hD hS wm_3_10 dX7_passTick_12 (fun H locs hP hD hS => ?_)
  refine lv_aload_n hx hb dX7_passTick_15 rfl (lv_at hl 0 rfl) ?_
  obtain ⟨u_1, hc_2, hd⟩ := bd hd
  refine cw_v (rest := []) C0 (mX7_findOverdue l dC dI cI cJ cZ ad n (sI (sI σ 12 ((σ.1 12) + (1 : Int32))) 13 (0 : Int32))  hc_2 _) gv_X7_284 yd_X7_findOverdue ⟨rfl, rfl, Nat.le_of_ble_eq_true rfl, Nat.le_of_ble_eq_true rfl, Nat.zero_le _, Nat.zero_le _⟩ xC_b (fun U h => xC_w h hX) hK hP hD hS hA hl.1 rfl (Nat.le_of_ble_eq_true rfl) dX7_passTick_16 7 0 rfl rfl (fun H locs hP hD hS => ?_)
  refine lv_iconst (v := 0) hx hb dX7_passTick_19 (by decide) ?_
  refine lv_istore_n (lv' := [(1, .int (0 : Int32)), (0, .ref (ad 0))]) hx hb dX7_passTick_20 rfl hl (by decide) rfl (fun ls hl => ?_)
  exact oX7_passTick_21 C0 hK hX hA  _ _ hd _ _ _ hP hD hS (lv_sub hl [1, 0] rfl)
def fX7_isCause (σ : St) (p1 : Int32) : Option (Int32) := if p1 < (1 : Int32) then (some (0 : Int32)) else (if (3 : Int32) < p1 then (some (0 : Int32)) else (some (1 : Int32)))
set_option maxHeartbeats 4000000 in
set_option maxRecDepth 100000 in
theorem mX7_isCause (l : Launch) (dC : Nat → ClassId) (dI : Nat → Nat → Nat) (cI cJ cZ : ClassId) (ad : Nat → Nat) (σ : St) (p1 : Int32) {r : Int32} (hd : fX7_isCause σ p1 = some r) (sz : Nat)  : Met l yX7_isCause (wS yX7_isCause cX7_isCause 2 (some .boolean)) { frames := 0, cells := 0, slots := 0, locals := 0 } (pC (dC, dI) (kT cI cJ cZ) xC (vX7 cI cJ cZ ad σ) sz [.ref (ad 0), .int p1]) (qI (dC, dI) (kT cI cJ cZ) (vX7 cI cJ cZ ad σ) (va_A (vX7 cI cJ cZ ad σ) sz) r) 0 0 (va_A (vX7 cI cJ cZ ad σ) sz) := by
  refine my_ent (fun A => qI (dC, dI) (kT cI cJ cZ) (vX7 cI cJ cZ ad σ) A r) (by decide) (Nat.le_of_ble_eq_true rfl) ?_
  intro p e s m below meth c A hAe hnm C0 hK hX hP hD hA hS ls hl
  obtain ⟨hx, hb, hml, hown, hT, hr, hlocks⟩ := id C0
  unfold fX7_isCause at hd
  have hl : lv_has ls 2 [(0, .ref (ad 0)), (1, .int p1)] := hl
  refine lv_iload_n hx hb dX7_isCause_0 rfl (lv_at hl 1 rfl) ?_
  refine lv_iconst (v := 1) hx hb dX7_isCause_1 (by decide) ?_
  refine lv_icmp_lt (tgt := 14) hx hb dX7_isCause_2 (by decide) (fun c_1 => ?_) (fun c_1 => ?_)
  · replace hd := i_t hd c_1
    refine lv_iconst (v := 0) hx hb dX7_isCause_14 (by decide) ?_
    obtain rfl := Option.some.inj hd
    exact my_zret C0 hK hP hD hS (Or.inl rfl) dX7_isCause_15
  · replace hd := i_e hd c_1
    refine lv_iload_n hx hb dX7_isCause_5 rfl (lv_at hl 1 rfl) ?_
    refine lv_iconst (v := 3) hx hb dX7_isCause_6 (by decide) ?_
    refine lv_icmp_gt (tgt := 14) hx hb dX7_isCause_7 (by decide) (fun c_2 => ?_) (fun c_2 => ?_)
    · replace hd := i_t hd c_2
      refine lv_iconst (v := 0) hx hb dX7_isCause_14 (by decide) ?_
      obtain rfl := Option.some.inj hd
      exact my_zret C0 hK hP hD hS (Or.inl rfl) dX7_isCause_15
    · replace hd := i_e hd c_2
      refine lv_iconst (v := 1) hx hb dX7_isCause_10 (by decide) ?_
      refine lv_goto (tgt := 15) hx hb dX7_isCause_11 (by decide) ?_
      obtain rfl := Option.some.inj hd
      exact my_zret C0 hK hP hD hS (Or.inr rfl) dX7_isCause_15
def fX7_ruleOf (σ : St) (p1 : Int32) : Option (Int32) := (fX7_isCause σ p1).bind (fun u_1 => if u_1 = 0 then (some (0 : Int32)) else (ix ((3 : Int32) + p1) 8 (some ((σ.2.1 0) ((3 : Int32) + p1).toNatClampNeg))))
set_option maxHeartbeats 4000000 in
set_option maxRecDepth 100000 in
theorem mX7_ruleOf (l : Launch) (dC : Nat → ClassId) (dI : Nat → Nat → Nat) (cI cJ cZ : ClassId) (ad : Nat → Nat) (σ : St) (p1 : Int32) {r : Int32} (hd : fX7_ruleOf σ p1 = some r) (sz : Nat)  : Met l yX7_ruleOf (wS yX7_ruleOf cX7_ruleOf 2 (some .int)) { frames := 1, cells := 0, slots := 0, locals := 21 } (pC (dC, dI) (kT cI cJ cZ) xC (vX7 cI cJ cZ ad σ) sz [.ref (ad 0), .int p1]) (qI (dC, dI) (kT cI cJ cZ) (vX7 cI cJ cZ ad σ) (va_A (vX7 cI cJ cZ ad σ) sz) r) 0 0 (va_A (vX7 cI cJ cZ ad σ) sz) := by
  refine my_ent (fun A => qI (dC, dI) (kT cI cJ cZ) (vX7 cI cJ cZ ad σ) A r) (by decide) (Nat.le_of_ble_eq_true rfl) ?_
  intro p e s m below meth c A hAe hnm C0 hK hX hP hD hA hS ls hl
  obtain ⟨hx, hb, hml, hown, hT, hr, hlocks⟩ := id C0
  unfold fX7_ruleOf at hd
  have hl : lv_has ls 2 [(0, .ref (ad 0)), (1, .int p1)] := hl
  refine lv_aload_n hx hb dX7_ruleOf_0 rfl (lv_at hl 0 rfl) ?_
  refine lv_iload_n hx hb dX7_ruleOf_1 rfl (lv_at hl 1 rfl) ?_
  obtain ⟨u_1, hc_2, hd⟩ := bd hd
  refine cw_i (rest := []) C0 (mX7_isCause l dC dI cI cJ cZ ad σ p1 hc_2 _) gv_X7_169 yd_X7_isCause ⟨rfl, rfl, Nat.le_of_ble_eq_true rfl, Nat.le_of_ble_eq_true rfl, Nat.zero_le _, Nat.zero_le _⟩ xC_b (fun U h => xC_w h hX) hK hP hD hS hA hl.1 rfl (Nat.le_of_ble_eq_true rfl) dX7_ruleOf_2 7 0 rfl rfl (fun H locs hP hD hS => ?_)
  refine lv_if_eq (tgt := 19) hx hb dX7_ruleOf_5 (by decide) (fun c_3 => ?_) (fun c_3 => ?_)
  · replace hd := i_t hd c_3
    refine lv_iconst (v := 0) hx hb dX7_ruleOf_19 (by decide) ?_
    obtain rfl := Option.some.inj hd
    exact my_iret C0 hK hP hD hS dX7_ruleOf_20
  · replace hd := i_e hd c_3
    refine lv_aload_n hx hb dX7_ruleOf_8 rfl (lv_at hl 0 rfl) ?_
    refine gX7_0_2 C0 hK hP wm_2_0 dX7_ruleOf_9 ?_
    refine lv_iconst (v := 3) hx hb dX7_ruleOf_12 (by decide) ?_
    refine lv_iload_n hx hb dX7_ruleOf_13 rfl (lv_at hl 1 rfl) ?_
    refine lv_iadd hx hb dX7_ruleOf_14 ?_
    obtain ⟨g_4, hd⟩ := ix_some hd
    refine lX7_1 C0 hK hP rfl g_4 dX7_ruleOf_15 ?_
    refine lv_goto (tgt := 20) hx hb dX7_ruleOf_16 (by decide) ?_
    obtain rfl := Option.some.inj hd
    exact my_iret C0 hK hP hD hS dX7_ruleOf_20
def fX7_takeCause (n : Nat) (σ : St) (p1 : Int32) (p2 : Int32) : Option (Int32 × St) := (fX7_ruleOf σ p2).bind (fun u_1 => if u_1 = (1 : Int32) then ((fX5_find n (σ.2.1 14) (σ.1 7) p1).bind (fun u_9 => if u_9 = (-1 : Int32) then ((fX7_tryAgain n σ p1 (2 : Int32) p2.toInt64).bind (fun u_12 => if u_12.1 = 0 then (some ((0 : Int32), u_12.2)) else (some ((1 : Int32), u_12.2)))) else (some ((0 : Int32), σ)))) else (if u_1 = 0 then ((fX7_settle n σ p1 (2 : Int32) p2.toInt64).bind (fun u_7 => some ((1 : Int32), u_7))) else ((fX7_settle n σ p1 (4 : Int32) (0 : Int64)).bind (fun u_5 => some ((1 : Int32), u_5)))))
set_option maxHeartbeats 4000000 in
set_option maxRecDepth 100000 in
theorem mX7_takeCause (l : Launch) (dC : Nat → ClassId) (dI : Nat → Nat → Nat) (cI cJ cZ : ClassId) (ad : Nat → Nat) (n : Nat) (σ : St) (p1 : Int32) (p2 : Int32) {r : Int32 × St} (hd : fX7_takeCause n σ p1 p2 = some r) (sz : Nat)  : Met l yX7_takeCause (wS yX7_takeCause cX7_takeCause 4 (some .boolean)) { frames := 4, cells := 0, slots := 0, locals := 93 } (pC (dC, dI) (kT cI cJ cZ) xC (vX7 cI cJ cZ ad σ) sz [.ref (ad 0), .int p1, .int p2]) (qI (dC, dI) (kT cI cJ cZ) (vX7 cI cJ cZ ad r.2) (va_A (vX7 cI cJ cZ ad σ) sz) r.1) 0 0 (va_A (vX7 cI cJ cZ ad σ) sz) := by
  refine my_ent (fun A => qI (dC, dI) (kT cI cJ cZ) (vX7 cI cJ cZ ad r.2) A r.1) (by decide) (Nat.le_of_ble_eq_true rfl) ?_
  intro p e s m below meth c A hAe hnm C0 hK hX hP hD hA hS ls hl
  obtain ⟨hx, hb, hml, hown, hT, hr, hlocks⟩ := id C0
  unfold fX7_takeCause at hd
  have hl : lv_has ls 4 [(0, .ref (ad 0)), (1, .int p1), (2, .int p2)] := hl
  refine lv_aload_n hx hb dX7_takeCause_0 rfl (lv_at hl 0 rfl) ?_
  refine lv_iload_n hx hb dX7_takeCause_1 rfl (lv_at hl 2 rfl) ?_
  obtain ⟨u_1, hc_2, hd⟩ := bd hd
  refine cw_i (rest := []) C0 (mX7_ruleOf l dC dI cI cJ cZ ad σ p2 hc_2 _) gv_X7_310 yd_X7_ruleOf ⟨rfl, rfl, Nat.le_of_ble_eq_true rfl, Nat.le_of_ble_eq_true rfl, Nat.zero_le _, Nat.zero_le _⟩ xC_b (fun U h => xC_w h hX) hK hP hD hS hA hl.1 rfl (Nat.le_of_ble_eq_true rfl) dX7_takeCause_2 7 0 rfl rfl (fun H locs hP hD hS => ?_)
  refine lv_istore_n (lv' := [(3, .int u_1), (0, .ref (ad 0)), (1, .int p1), (2, .int p2)]) hx hb dX7_takeCause_5 rfl hl (by decide) rfl (fun ls hl => ?_)
  refine lv_iload_n hx hb dX7_takeCause_6 rfl (lv_at hl 0 rfl) ?_
  refine lv_iconst (v := 1) hx hb dX7_takeCause_7 (by decide) ?_
  refine lv_icmp_ne (tgt := 40) hx hb dX7_takeCause_8 (by decide) (fun c_3 => ?_) (fun c_3 => ?_)
  · replace hd := i_e hd c_3
    refine lv_iload_n hx hb dX7_takeCause_40 rfl (lv_at hl 0 rfl) ?_
    refine lv_if_ne (tgt := 55) hx hb dX7_takeCause_41 (by decide) (fun c_4 => ?_) (fun c_4 => ?_)
    · replace hd := i_e hd c_4
      refine lv_aload_n hx hb dX7_takeCause_55 rfl (lv_at hl 1 rfl) ?_
      refine lv_iload_n hx hb dX7_takeCause_56 rfl (lv_at hl 2 rfl) ?_
      refine lv_iconst (v := 4) hx hb dX7_takeCause_57 (by decide) ?_
      refine lv_lconst (v := 0) hx hb dX7_takeCause_58 (by decide) ?_
      obtain ⟨u_5, hc_6, hd⟩ := bd hd
      refine cw_v (rest := []) C0 (mX7_settle l dC dI cI cJ cZ ad n σ p1 (4 : Int32) (0 : Int64) hc_6 _) gv_X7_296 yd_X7_settle ⟨rfl, rfl, Nat.le_of_ble_eq_true rfl, Nat.le_of_ble_eq_true rfl, Nat.zero_le _, Nat.zero_le _⟩ xC_b (fun U h => xC_w h hX) hK hP hD hS hA hl.1 rfl (Nat.le_of_ble_eq_true rfl) dX7_takeCause_59 7 0 rfl rfl (fun H locs hP hD hS => ?_)
      refine lv_iconst (v := 1) hx hb dX7_takeCause_62 (by decide) ?_
      obtain rfl := Option.some.inj hd
      exact my_zret C0 hK hP hD hS (Or.inr rfl) dX7_takeCause_63
    · replace hd := i_t hd c_4
      refine lv_aload_n hx hb dX7_takeCause_44 rfl (lv_at hl 1 rfl) ?_
      refine lv_iload_n hx hb dX7_takeCause_45 rfl (lv_at hl 2 rfl) ?_
      refine lv_iconst (v := 2) hx hb dX7_takeCause_46 (by decide) ?_
      refine lv_iload_n hx hb dX7_takeCause_47 rfl (lv_at hl 3 rfl) ?_
      refine lv_i2l (v := p2.toInt64) hx hb dX7_takeCause_48 rfl ?_
      obtain ⟨u_7, hc_8, hd⟩ := bd hd
      refine cw_v (rest := []) C0 (mX7_settle l dC dI cI cJ cZ ad n σ p1 (2 : Int32) p2.toInt64 hc_8 _) gv_X7_296 yd_X7_settle ⟨rfl, rfl, Nat.le_of_ble_eq_true rfl, Nat.le_of_ble_eq_true rfl, Nat.zero_le _, Nat.zero_le _⟩ xC_b (fun U h => xC_w h hX) hK hP hD hS hA hl.1 rfl (Nat.le_of_ble_eq_true rfl) dX7_takeCause_49 7 0 rfl rfl (fun H locs hP hD hS => ?_)
      refine lv_goto (tgt := 62) hx hb dX7_takeCause_52 (by decide) ?_
      refine lv_iconst (v := 1) hx hb dX7_takeCause_62 (by decide) ?_
      obtain rfl := Option.some.inj hd
      exact my_zret C0 hK hP hD hS (Or.inr rfl) dX7_takeCause_63
  · replace hd := i_t hd c_3
    refine lv_aload_n hx hb dX7_takeCause_11 rfl (lv_at hl 1 rfl) ?_
    refine gX7_0_8 C0 hK hP wm_2_18 dX7_takeCause_12 ?_
    refine lv_iload_n hx hb dX7_takeCause_15 rfl (lv_at hl 2 rfl) ?_
    obtain ⟨u_9, hc_10, hd⟩ := bd hd
    refine cv_i (rest := []) C0 (mX5_find l dC dI cI cJ cZ (ad 22) (ad 23) n (σ.2.1 14) (σ.1 7) p1 hc_10 _) gv_X7_214 yd_X5_find ⟨rfl, rfl, Nat.le_of_ble_eq_true rfl, Nat.le_of_ble_eq_true rfl, Nat.zero_le _, Nat.zero_le _⟩ xT_b xT_w hK hP hD hS hA 22 2 (tC_queue rfl rfl) hl.1 rfl (Nat.le_of_ble_eq_true rfl) dX7_takeCause_16 5 22 rfl rfl (tN_queue_ rfl rfl) (fun H locs hP hD hS => ?_)
    refine lv_iconst (v := (-1)) hx hb dX7_takeCause_19 (by decide) ?_
    refine lv_icmp_ne (tgt := 38) hx hb dX7_takeCause_20 (by decide) (fun c_11 => ?_) (fun c_11 => ?_)
    · replace hd := i_e hd c_11
      refine lv_iconst (v := 0) hx hb dX7_takeCause_38 (by decide) ?_
      obtain rfl := Option.some.inj hd
      exact my_zret C0 hK hP hD hS (Or.inl rfl) dX7_takeCause_39
    · replace hd := i_t hd c_11
      refine lv_aload_n hx hb dX7_takeCause_23 rfl (lv_at hl 1 rfl) ?_
      refine lv_iload_n hx hb dX7_takeCause_24 rfl (lv_at hl 2 rfl) ?_
      refine lv_iconst (v := 2) hx hb dX7_takeCause_25 (by decide) ?_
      refine lv_iload_n hx hb dX7_takeCause_26 rfl (lv_at hl 3 rfl) ?_
      refine lv_i2l (v := p2.toInt64) hx hb dX7_takeCause_27 rfl ?_
      obtain ⟨u_12, hc_13, hd⟩ := bd hd
      refine cw_i (rest := []) C0 (mX7_tryAgain l dC dI cI cJ cZ ad n σ p1 (2 : Int32) p2.toInt64 hc_13 _) gv_X7_287 yd_X7_tryAgain ⟨rfl, rfl, Nat.le_of_ble_eq_true rfl, Nat.le_of_ble_eq_true rfl, Nat.zero_le _, Nat.zero_le _⟩ xC_b (fun U h => xC_w h hX) hK hP hD hS hA hl.1 rfl (Nat.le_of_ble_eq_true rfl) dX7_takeCause_28 7 0 rfl rfl (fun H locs hP hD hS => ?_)
      refine lv_if_eq (tgt := 38) hx hb dX7_takeCause_31 (by decide) (fun c_14 => ?_) (fun c_14 => ?_)
      · replace hd := i_t hd c_14
        refine lv_iconst (v := 0) hx hb dX7_takeCause_38 (by decide) ?_
        obtain rfl := Option.some.inj hd
        exact my_zret C0 hK hP hD hS (Or.inl rfl) dX7_takeCause_39
      · replace hd := i_e hd c_14
        refine lv_iconst (v := 1) hx hb dX7_takeCause_34 (by decide) ?_
        refine lv_goto (tgt := 39) hx hb dX7_takeCause_35 (by decide) ?_
        obtain rfl := Option.some.inj hd
        exact my_zret C0 hK hP hD hS (Or.inr rfl) dX7_takeCause_39
def fX7_takeAnswer (n : Nat) (σ : St) (p1 : Int32) (p2 : Int32) (p3 : Int64) : Option (Int32 × St) := if p2 = 0 then ((fX7_settle n σ p1 (0 : Int32) p3).bind (fun u_2 => if ((u_2.2.1 0) (3 : Int32).toNatClampNeg) ≤ 0 then (some ((1 : Int32), u_2)) else ((fX0_keyOf (u_2.2.2 0) (u_2.2.2 1) (u_2.2.1 1) (u_2.2.1 2) p1).bind (fun u_5 => (fX1_keep n (u_2.2.2 8) (u_2.2.2 9) (u_2.2.1 21) (u_2.1 11) u_5 p3 ((u_2.1 12) + ((u_2.2.1 0) (3 : Int32).toNatClampNeg))).bind (fun u_7 => some ((1 : Int32), sI (sA (sL (sL u_2 8 u_7.1) 9 u_7.2.1) 21 u_7.2.2.1) 11 u_7.2.2.2)))))) else ((fX7_takeCause n σ p1 p2).bind (fun u_9 => gd (decide (u_9.1 = 0 ∨ u_9.1 = 1)) (some (u_9.1, u_9.2))))
set_option maxHeartbeats 4000000 in
set_option maxRecDepth 100000 in
theorem mX7_takeAnswer (l : Launch) (dC : Nat → ClassId) (dI : Nat → Nat → Nat) (cI cJ cZ : ClassId) (ad : Nat → Nat) (n : Nat) (σ : St) (p1 : Int32) (p2 : Int32) (p3 : Int64) {r : Int32 × St} (hd : fX7_takeAnswer n σ p1 p2 p3 = some r) (sz : Nat)  : Met l yX7_takeAnswer (wS yX7_takeAnswer cX7_takeAnswer 5 (some .boolean)) { frames := 5, cells := 0, slots := 0, locals := 116 } (pC (dC, dI) (kT cI cJ cZ) xC (vX7 cI cJ cZ ad σ) sz [.ref (ad 0), .int p1, .int p2, .long p3]) (qI (dC, dI) (kT cI cJ cZ) (vX7 cI cJ cZ ad r.2) (va_A (vX7 cI cJ cZ ad σ) sz) r.1) 0 0 (va_A (vX7 cI cJ cZ ad σ) sz) := by
  refine my_ent (fun A => qI (dC, dI) (kT cI cJ cZ) (vX7 cI cJ cZ ad r.2) A r.1) (by decide) (Nat.le_of_ble_eq_true rfl) ?_
  intro p e s m below meth c A hAe hnm C0 hK hX hP hD hA hS ls hl
  obtain ⟨hx, hb, hml, hown, hT, hr, hlocks⟩ := id C0
  unfold fX7_takeAnswer at hd
  have hl : lv_has ls 5 [(0, .ref (ad 0)), (1, .int p1), (2, .int p2), (3, .long p3)] := hl
  refine lv_iload_n hx hb dX7_takeAnswer_0 rfl (lv_at hl 2 rfl) ?_
  refine lv_if_eq (tgt := 11) hx hb dX7_takeAnswer_1 (by decide) (fun c_1 => ?_) (fun c_1 => ?_)
  · replace hd := i_t hd c_1
    refine lv_aload_n hx hb dX7_takeAnswer_11 rfl (lv_at hl 0 rfl) ?_
    refine lv_iload_n hx hb dX7_takeAnswer_12 rfl (lv_at hl 1 rfl) ?_
    refine lv_iconst (v := 0) hx hb dX7_takeAnswer_13 (by decide) ?_
    refine lv_lload_n hx hb dX7_takeAnswer_14 rfl (lv_at hl 3 rfl) ?_
    obtain ⟨u_2, hc_3, hd⟩ := bd hd
    refine cw_v (rest := []) C0 (mX7_settle l dC dI cI cJ cZ ad n σ p1 (0 : Int32) p3 hc_3 _) gv_X7_296 yd_X7_settle ⟨rfl, rfl, Nat.le_of_ble_eq_true rfl, Nat.le_of_ble_eq_true rfl, Nat.zero_le _, Nat.zero_le _⟩ xC_b (fun U h => xC_w h hX) hK hP hD hS hA hl.1 rfl (Nat.le_of_ble_eq_true rfl) dX7_takeAnswer_15 7 0 rfl rfl (fun H locs hP hD hS => ?_)
    refine lv_aload_n hx hb dX7_takeAnswer_18 rfl (lv_at hl 0 rfl) ?_
    refine gX7_0_2 C0 hK hP wm_2_0 dX7_takeAnswer_19 ?_
    refine lv_iconst (v := 3) hx hb dX7_takeAnswer_22 (by decide) ?_
    refine lX7_1 C0 hK hP rfl (by unfold vp_in; decide) dX7_takeAnswer_23 ?_
    refine lv_if_le (tgt := 54) hx hb dX7_takeAnswer_24 (by decide) (fun c_4 => ?_) (fun c_4 => ?_)
    · replace hd := i_t hd c_4
      refine lv_iconst (v := 1) hx hb dX7_takeAnswer_54 (by decide) ?_
      obtain rfl := Option.some.inj hd
      exact my_zret C0 hK hP hD hS (Or.inr rfl) dX7_takeAnswer_55
    · replace hd := i_e hd c_4
      refine lv_aload_n hx hb dX7_takeAnswer_27 rfl (lv_at hl 0 rfl) ?_
      refine gX7_0_13 C0 hK hP wm_3_8 dX7_takeAnswer_28 ?_
      refine lv_aload_n hx hb dX7_takeAnswer_31 rfl (lv_at hl 0 rfl) ?_
      refine gX7_0_3 C0 hK hP wm_2_4 dX7_takeAnswer_32 ?_
      refine lv_iload_n hx hb dX7_takeAnswer_35 rfl (lv_at hl 1 rfl) ?_
      obtain ⟨u_5, hc_6, hd⟩ := bd hd
      refine cv_l (rest := [.ref (ad 38)]) C0 (mX0_keyOf l dC dI cI cJ cZ (ad 2) (ad 3) (ad 4) (ad 5) (ad 6) (u_2.2.2 0) (u_2.2.2 1) (u_2.2.1 1) (u_2.2.1 2) p1 hc_6 _) gv_X7_151 yd_X0_keyOf ⟨rfl, rfl, Nat.le_of_ble_eq_true rfl, Nat.le_of_ble_eq_true rfl, Nat.zero_le _, Nat.zero_le _⟩ xT_b xT_w hK hP hD hS hA 2 5 (tC_items rfl rfl rfl rfl) hl.1 rfl (Nat.le_of_ble_eq_true rfl) dX7_takeAnswer_36 0 2 rfl rfl (tN_items_ rfl rfl rfl rfl) (fun H locs hP hD hS => ?_)
      refine lv_lload_n hx hb dX7_takeAnswer_39 rfl (lv_at hl 3 rfl) ?_
      refine lv_aload_n hx hb dX7_takeAnswer_40 rfl (lv_at hl 0 rfl) ?_
      refine gX7_0_14 C0 hK hP wm_3_9 rfl dX7_takeAnswer_41 ?_
      refine lv_aload_n hx hb dX7_takeAnswer_44 rfl (lv_at hl 0 rfl) ?_
      refine gX7_0_2 C0 hK hP wm_2_0 dX7_takeAnswer_45 ?_
      refine lv_iconst (v := 3) hx hb dX7_takeAnswer_48 (by decide) ?_
      refine lX7_1 C0 hK hP rfl (by unfold vp_in; decide) dX7_takeAnswer_49 ?_
      refine lv_iadd hx hb dX7_takeAnswer_50 ?_
      obtain ⟨u_7, hc_8, hd⟩ := bd hd
      refine cv_v (rest := []) C0 (mX1_keep l dC dI cI cJ cZ (ad 38) (ad 39) (ad 40) (ad 41) n (u_2.2.2 8) (u_2.2.2 9) (u_2.2.1 21) (u_2.1 11) u_5 p3 ((u_2.1 12) + ((u_2.2.1 0) (3 : Int32).toNatClampNeg)) hc_8 _) gv_X7_306 yd_X1_keep ⟨rfl, rfl, Nat.le_of_ble_eq_true rfl, Nat.le_of_ble_eq_true rfl, Nat.zero_le _, Nat.zero_le _⟩ xT_b xT_w hK hP hD hS hA 38 4 (tC_keptAnswers rfl rfl rfl rfl) hl.1 rfl (Nat.le_of_ble_eq_true rfl) dX7_takeAnswer_51 1 38 rfl rfl (tN_keptAnswers_keys_values_ends_size ) (fun H locs hP hD hS => ?_)
      refine lv_iconst (v := 1) hx hb dX7_takeAnswer_54 (by decide) ?_
      obtain rfl := Option.some.inj hd
      exact my_zret C0 hK hP hD hS (Or.inr rfl) dX7_takeAnswer_55
  · replace hd := i_e hd c_1
    refine lv_aload_n hx hb dX7_takeAnswer_4 rfl (lv_at hl 0 rfl) ?_
    refine lv_iload_n hx hb dX7_takeAnswer_5 rfl (lv_at hl 1 rfl) ?_
    refine lv_iload_n hx hb dX7_takeAnswer_6 rfl (lv_at hl 2 rfl) ?_
    obtain ⟨u_9, hc_10, hd⟩ := bd hd
    refine cw_i (rest := []) C0 (mX7_takeCause l dC dI cI cJ cZ ad n σ p1 p2 hc_10 _) gv_X7_302 yd_X7_takeCause ⟨rfl, rfl, Nat.le_of_ble_eq_true rfl, Nat.le_of_ble_eq_true rfl, Nat.zero_le _, Nat.zero_le _⟩ xC_b (fun U h => xC_w h hX) hK hP hD hS hA hl.1 rfl (Nat.le_of_ble_eq_true rfl) dX7_takeAnswer_7 7 0 rfl rfl (fun H locs hP hD hS => ?_)
    obtain ⟨g_11, hd⟩ := gd_some hd
    obtain rfl := Option.some.inj hd
    exact my_zret C0 hK hP hD hS (of_decide_eq_true g_11) dX7_takeAnswer_10
def fX7_askAgainAllWorking_63 (n : Nat) (k16 : (St × Int32) → Option (St)) (a : St × Int32) : Option (St) := k16 (a.1, a.2 + 1)
set_option maxHeartbeats 4000000 in
set_option maxRecDepth 100000 in
theorem bX7_askAgainAllWorking_63 {p : Program} {l : Launch} {e : Env} {s : State} {m : MethodId} {args : Array Value} {below : List Frame} {meth : Method} {c : Code} {A : Nat → Prop} {dC : Nat → ClassId} {dI : Nat → Nat → Nat} {cI cJ cZ : ClassId} {ad : Nat → Nat} {r : St} {n : Nat} (C0 : cx p s m args meth c cX7_askAgainAllWorking 2 RX7 none) (hK : va_K (dC, dI) vwCl (kT cI cJ cZ) s) (hX : xC s) (hA : ∀ q : Nat, s.heap.size ≤ q → A q) (k16 : (St × Int32) → Option (St)) (ih16 : ∀ (a : St × Int32), k16 a = some r → ∀ (H : Heap) (locs : List Loc) (ls : Array Slot), va_P (dC, dI) vwCl (vX7 cI cJ cZ ad a.1) H → va_D A (vX7 cI cJ cZ ad a.1) → va_S A s.heap H locs → lv_has ls 2 [(0, .ref (ad 0)), (1, .int a.2)] → W p l e ({ frames := 2, cells := 0, slots := 0, locals := 42 } : Room) s m args below meth c H locs 0 0 (MQ below (qV (dC, dI) (kT cI cJ cZ) (vX7 cI cJ cZ ad r) A) args s 0 0 A) (F0 m 16 ls [])) : ∀ (a : St × Int32), fX7_askAgainAllWorking_63 n k16 a = some r → ∀ (H : Heap) (locs : List Loc) (ls : Array Slot), va_P (dC, dI) vwCl (vX7 cI cJ cZ ad a.1) H → va_D A (vX7 cI cJ cZ ad a.1) → va_S A s.heap H locs → lv_has ls 2 [(0, .ref (ad 0)), (1, .int a.2)] → W p l e ({ frames := 2, cells := 0, slots := 0, locals := 42 } : Room) s m args below meth c H locs 0 0 (MQ below (qV (dC, dI) (kT cI cJ cZ) (vX7 cI cJ cZ ad r) A) args s 0 0 A) (F0 m 63 ls []) := by
  obtain ⟨hx, hb, hml, hown, hT, hr, hlocks⟩ := id C0
  intro a hd H locs ls hP hD hS hl
  unfold fX7_askAgainAllWorking_63 at hd
  refine lv_iinc (v := a.2 + 1) (lv' := [(1, .int (a.2 + 1)), (0, .ref (ad 0))]) hx hb dX7_askAgainAllWorking_63 hl (k := 1) rfl rfl (by decide) rfl (fun ls hl => ?_)
  refine lv_goto (tgt := 16) hx hb dX7_askAgainAllWorking_66 (by decide) ?_
  exact ih16 _ hd _ _ _ hP hD hS (lv_sub hl [1, 0] rfl)
def fX7_askAgainAllWorking_16 (n : Nat) (k16 : (St × Int32) → Option (St)) (a : St × Int32) : Option (St) := if (a.1.1 2) ≤ a.2 then (some a.1) else ((fX4_stateOf (a.1.2.1 3) (a.1.2.1 4) (a.1.2.1 5) (a.1.2.2 2) (a.1.1 2) (a.1.1 3) (a.1.1 16) (a.1.1 17) a.2).bind (fun u_6 => if u_6 = (1 : Int32) then ((fX4_addTry (a.1.2.1 3) (a.1.2.1 4) (a.1.2.1 5) (a.1.2.2 2) (a.1.1 2) (a.1.1 3) (a.1.1 16) (a.1.1 17) a.2).bind (fun u_9 => (fX5_append (a.1.2.1 13) (a.1.1 6) a.2).bind (fun u_11 => (fX5_append (a.1.2.1 14) (a.1.1 7) a.2).bind (fun u_13 => fX7_askAgainAllWorking_63 n k16 (sI (sA (sI (sA (sA a.1 5 u_9) 13 u_11.1) 6 u_11.2) 14 u_13.1) 7 u_13.2, a.2))))) else (fX7_askAgainAllWorking_63 n k16 (a.1, a.2))))
set_option maxHeartbeats 4000000 in
set_option maxRecDepth 100000 in
theorem bX7_askAgainAllWorking_16 {p : Program} {l : Launch} {e : Env} {s : State} {m : MethodId} {args : Array Value} {below : List Frame} {meth : Method} {c : Code} {A : Nat → Prop} {dC : Nat → ClassId} {dI : Nat → Nat → Nat} {cI cJ cZ : ClassId} {ad : Nat → Nat} {r : St} {n : Nat} (C0 : cx p s m args meth c cX7_askAgainAllWorking 2 RX7 none) (hK : va_K (dC, dI) vwCl (kT cI cJ cZ) s) (hX : xC s) (hA : ∀ q : Nat, s.heap.size ≤ q → A q) (k16 : (St × Int32) → Option (St)) (ih16 : ∀ (a : St × Int32), k16 a = some r → ∀ (H : Heap) (locs : List Loc) (ls : Array Slot), va_P (dC, dI) vwCl (vX7 cI cJ cZ ad a.1) H → va_D A (vX7 cI cJ cZ ad a.1) → va_S A s.heap H locs → lv_has ls 2 [(0, .ref (ad 0)), (1, .int a.2)] → W p l e ({ frames := 2, cells := 0, slots := 0, locals := 42 } : Room) s m args below meth c H locs 0 0 (MQ below (qV (dC, dI) (kT cI cJ cZ) (vX7 cI cJ cZ ad r) A) args s 0 0 A) (F0 m 16 ls [])) : ∀ (a : St × Int32), fX7_askAgainAllWorking_16 n k16 a = some r → ∀ (H : Heap) (locs : List Loc) (ls : Array Slot), va_P (dC, dI) vwCl (vX7 cI cJ cZ ad a.1) H → va_D A (vX7 cI cJ cZ ad a.1) → va_S A s.heap H locs → lv_has ls 2 [(0, .ref (ad 0)), (1, .int a.2)] → W p l e ({ frames := 2, cells := 0, slots := 0, locals := 42 } : Room) s m args below meth c H locs 0 0 (MQ below (qV (dC, dI) (kT cI cJ cZ) (vX7 cI cJ cZ ad r) A) args s 0 0 A) (F0 m 16 ls []) := by
  obtain ⟨hx, hb, hml, hown, hT, hr, hlocks⟩ := id C0
  intro a hd H locs ls hP hD hS hl
  unfold fX7_askAgainAllWorking_16 at hd
  refine lv_iload_n hx hb dX7_askAgainAllWorking_16 rfl (lv_at hl 1 rfl) ?_
  refine lv_aload_n hx hb dX7_askAgainAllWorking_17 rfl (lv_at hl 0 rfl) ?_
  refine gX7_0_4 C0 hK hP wm_2_8 dX7_askAgainAllWorking_18 ?_
  refine gX7_7_4 C0 hK hP hX rfl dX7_askAgainAllWorking_21 ?_
  refine lv_icmp_ge (tgt := 69) hx hb dX7_askAgainAllWorking_24 (by decide) (fun c_5 => ?_) (fun c_5 => ?_)
  · replace hd := i_t hd c_5
    obtain rfl := Option.some.inj hd
    exact my_vret C0 hK hP hD hS dX7_askAgainAllWorking_69
  · replace hd := i_e hd c_5
    refine lv_aload_n hx hb dX7_askAgainAllWorking_27 rfl (lv_at hl 0 rfl) ?_
    refine gX7_0_4 C0 hK hP wm_2_8 dX7_askAgainAllWorking_28 ?_
    refine lv_iload_n hx hb dX7_askAgainAllWorking_31 rfl (lv_at hl 1 rfl) ?_
    obtain ⟨u_6, hc_7, hd⟩ := bd hd
    refine cv_i (rest := []) C0 (mX4_stateOf l dC dI cI cJ cZ (ad 7) (ad 8) (ad 9) (ad 10) (ad 11) (a.1.2.1 3) (a.1.2.1 4) (a.1.2.1 5) (a.1.2.2 2) (a.1.1 2) (a.1.1 3) (a.1.1 16) (a.1.1 17) a.2 hc_7 _) gv_X7_178 yd_X4_stateOf ⟨rfl, rfl, Nat.le_of_ble_eq_true rfl, Nat.le_of_ble_eq_true rfl, Nat.zero_le _, Nat.zero_le _⟩ xT_b xT_w hK hP hD hS hA 7 5 (tC_live rfl rfl rfl rfl rfl rfl rfl rfl) hl.1 rfl (Nat.le_of_ble_eq_true rfl) dX7_askAgainAllWorking_32 4 7 rfl rfl (tN_live_ rfl rfl rfl rfl rfl rfl rfl rfl) (fun H locs hP hD hS => ?_)
    refine lv_iconst (v := 1) hx hb dX7_askAgainAllWorking_35 (by decide) ?_
    refine lv_icmp_ne (tgt := 63) hx hb dX7_askAgainAllWorking_36 (by decide) (fun c_8 => ?_) (fun c_8 => ?_)
    · replace hd := i_e hd c_8
      exact bX7_askAgainAllWorking_63 C0 hK hX hA k16 ih16 _ hd _ _ _ hP hD hS (lv_sub hl [0, 1] rfl)
    · replace hd := i_t hd c_8
      refine lv_aload_n hx hb dX7_askAgainAllWorking_39 rfl (lv_at hl 0 rfl) ?_
      refine gX7_0_4 C0 hK hP wm_2_8 dX7_askAgainAllWorking_40 ?_
      refine lv_iload_n hx hb dX7_askAgainAllWorking_43 rfl (lv_at hl 1 rfl) ?_
      obtain ⟨u_9, hc_10, hd⟩ := bd hd
      refine cv_v (rest := []) C0 (mX4_addTry l dC dI cI cJ cZ (ad 7) (ad 8) (ad 9) (ad 10) (ad 11) (a.1.2.1 3) (a.1.2.1 4) (a.1.2.1 5) (a.1.2.2 2) (a.1.1 2) (a.1.1 3) (a.1.1 16) (a.1.1 17) a.2 hc_10 _) gv_X7_299 yd_X4_addTry ⟨rfl, rfl, Nat.le_of_ble_eq_true rfl, Nat.le_of_ble_eq_true rfl, Nat.zero_le _, Nat.zero_le _⟩ xT_b xT_w hK hP hD hS hA 7 5 (tC_live rfl rfl rfl rfl rfl rfl rfl rfl) hl.1 rfl (Nat.le_of_ble_eq_true rfl) dX7_askAgainAllWorking_44 4 7 rfl rfl (tN_live_tries rfl rfl rfl rfl rfl rfl rfl) (fun H locs hP hD hS => ?_)
      refine lv_aload_n hx hb dX7_askAgainAllWorking_47 rfl (lv_at hl 0 rfl) ?_
      refine gX7_0_7 C0 hK hP wm_2_17 dX7_askAgainAllWorking_48 ?_
      refine lv_iload_n hx hb dX7_askAgainAllWorking_51 rfl (lv_at hl 1 rfl) ?_
      obtain ⟨u_11, hc_12, hd⟩ := bd hd
      refine cv_v (rest := []) C0 (mX5_append l dC dI cI cJ cZ (ad 20) (ad 21) (a.1.2.1 13) (a.1.1 6) a.2 hc_12 _) gv_X7_266 yd_X5_append ⟨rfl, rfl, Nat.le_of_ble_eq_true rfl, Nat.le_of_ble_eq_true rfl, Nat.zero_le _, Nat.zero_le _⟩ xT_b xT_w hK hP hD hS hA 20 2 (tC_working (sA_n (by decide)) (sA_I)) hl.1 rfl (Nat.le_of_ble_eq_true rfl) dX7_askAgainAllWorking_52 5 20 rfl rfl (tN_working_rows_size ) (fun H locs hP hD hS => ?_)
      refine lv_aload_n hx hb dX7_askAgainAllWorking_55 rfl (lv_at hl 0 rfl) ?_
      refine gX7_0_8 C0 hK hP wm_2_18 dX7_askAgainAllWorking_56 ?_
      refine lv_iload_n hx hb dX7_askAgainAllWorking_59 rfl (lv_at hl 1 rfl) ?_
      obtain ⟨u_13, hc_14, hd⟩ := bd hd
      refine cv_v (rest := []) C0 (mX5_append l dC dI cI cJ cZ (ad 22) (ad 23) (a.1.2.1 14) (a.1.1 7) a.2 hc_14 _) gv_X7_266 yd_X5_append ⟨rfl, rfl, Nat.le_of_ble_eq_true rfl, Nat.le_of_ble_eq_true rfl, Nat.zero_le _, Nat.zero_le _⟩ xT_b xT_w hK hP hD hS hA 22 2 (tC_queue ((sI_A).trans ((sA_n (by decide)).trans (sA_n (by decide)))) ((sI_n (by decide)).trans ((sA_I).trans (sA_I)))) hl.1 rfl (Nat.le_of_ble_eq_true rfl) dX7_askAgainAllWorking_60 5 22 rfl rfl (tN_queue_rows_size ) (fun H locs hP hD hS => ?_)
      exact bX7_askAgainAllWorking_63 C0 hK hX hA k16 ih16 _ hd _ _ _ hP hD hS (lv_sub hl [0, 1] rfl)
set_option maxHeartbeats 4000000 in
set_option maxRecDepth 100000 in
theorem oX7_askAgainAllWorking_16 {p : Program} {l : Launch} {e : Env} {s : State} {m : MethodId} {args : Array Value} {below : List Frame} {meth : Method} {c : Code} {A : Nat → Prop} {dC : Nat → ClassId} {dI : Nat → Nat → Nat} {cI cJ cZ : ClassId} {ad : Nat → Nat} {r : St} {n : Nat} (C0 : cx p s m args meth c cX7_askAgainAllWorking 2 RX7 none) (hK : va_K (dC, dI) vwCl (kT cI cJ cZ) s) (hX : xC s) (hA : ∀ q : Nat, s.heap.size ≤ q → A q)  : ∀ nn : Nat, ∀ (a : St × Int32), loopF (fX7_askAgainAllWorking_16 n ) nn a = some r → ∀ (H : Heap) (locs : List Loc) (ls : Array Slot), va_P (dC, dI) vwCl (vX7 cI cJ cZ ad a.1) H → va_D A (vX7 cI cJ cZ ad a.1) → va_S A s.heap H locs → lv_has ls 2 [(0, .ref (ad 0)), (1, .int a.2)] → W p l e ({ frames := 2, cells := 0, slots := 0, locals := 42 } : Room) s m args below meth c H locs 0 0 (MQ below (qV (dC, dI) (kT cI cJ cZ) (vX7 cI cJ cZ ad r) A) args s 0 0 A) (F0 m 16 ls []) := by
  intro nn
  induction nn with
  | zero => intro a hd; cases hd
  | succ nn ih => intro a hd; exact bX7_askAgainAllWorking_16 C0 hK hX hA  _ ih a hd
def fX7_askAgainAllWorking (n : Nat) (σ : St)  : Option (St) := (fX5_clear (σ.2.1 13) (σ.1 6)).bind (fun u_1 => (fX5_clear (σ.2.1 14) (σ.1 7)).bind (fun u_3 => loopF (fX7_askAgainAllWorking_16 n ) n (sI (sI σ 6 u_1) 7 u_3, (0 : Int32))))
set_option maxHeartbeats 4000000 in
set_option maxRecDepth 100000 in
theorem mX7_askAgainAllWorking (l : Launch) (dC : Nat → ClassId) (dI : Nat → Nat → Nat) (cI cJ cZ : ClassId) (ad : Nat → Nat) (n : Nat) (σ : St)  {r : St} (hd : fX7_askAgainAllWorking n σ  = some r) (sz : Nat)  : Met l yX7_askAgainAllWorking (wS yX7_askAgainAllWorking cX7_askAgainAllWorking 2 none) { frames := 2, cells := 0, slots := 0, locals := 42 } (pC (dC, dI) (kT cI cJ cZ) xC (vX7 cI cJ cZ ad σ) sz [.ref (ad 0)]) (qV (dC, dI) (kT cI cJ cZ) (vX7 cI cJ cZ ad r) (va_A (vX7 cI cJ cZ ad σ) sz)) 0 0 (va_A (vX7 cI cJ cZ ad σ) sz) := by
  refine my_ent (fun A => qV (dC, dI) (kT cI cJ cZ) (vX7 cI cJ cZ ad r) A) (by decide) (Nat.le_of_ble_eq_true rfl) ?_
  intro p e s m below meth c A hAe hnm C0 hK hX hP hD hA hS ls hl
  obtain ⟨hx, hb, hml, hown, hT, hr, hlocks⟩ := id C0
  unfold fX7_askAgainAllWorking at hd
  have hl : lv_has ls 2 [(0, .ref (ad 0))] := hl
  refine lv_aload_n hx hb dX7_askAgainAllWorking_0 rfl (lv_at hl 0 rfl) ?_
  refine gX7_0_7 C0 hK hP wm_2_17 dX7_askAgainAllWorking_1 ?_
  obtain ⟨u_1, hc_2, hd⟩ := bd hd
  refine cv_v (rest := []) C0 (mX5_clear l dC dI cI cJ cZ (ad 20) (ad 21) (σ.2.1 13) (σ.1 6)  hc_2 _) gv_X7_290 yd_X5_clear ⟨rfl, rfl, Nat.le_of_ble_eq_true rfl, Nat.le_of_ble_eq_true rfl, Nat.zero_le _, Nat.zero_le _⟩ xT_b xT_w hK hP hD hS hA 20 2 (tC_working rfl rfl) hl.1 rfl (Nat.le_of_ble_eq_true rfl) dX7_askAgainAllWorking_4 5 20 rfl rfl (tN_working_size rfl) (fun H locs hP hD hS => ?_)
  refine lv_aload_n hx hb dX7_askAgainAllWorking_7 rfl (lv_at hl 0 rfl) ?_
  refine gX7_0_8 C0 hK hP wm_2_18 dX7_askAgainAllWorking_8 ?_
  obtain ⟨u_3, hc_4, hd⟩ := bd hd
  refine cv_v (rest := []) C0 (mX5_clear l dC dI cI cJ cZ (ad 22) (ad 23) (σ.2.1 14) (σ.1 7)  hc_4 _) gv_X7_290 yd_X5_clear ⟨rfl, rfl, Nat.le_of_ble_eq_true rfl, Nat.le_of_ble_eq_true rfl, Nat.zero_le _, Nat.zero_le _⟩ xT_b xT_w hK hP hD hS hA 22 2 (tC_queue (sI_A) (sI_n (by decide))) hl.1 rfl (Nat.le_of_ble_eq_true rfl) dX7_askAgainAllWorking_11 5 22 rfl rfl (tN_queue_size (sI_A)) (fun H locs hP hD hS => ?_)
  refine lv_iconst (v := 0) hx hb dX7_askAgainAllWorking_14 (by decide) ?_
  refine lv_istore_n (lv' := [(1, .int (0 : Int32)), (0, .ref (ad 0))]) hx hb dX7_askAgainAllWorking_15 rfl hl (by decide) rfl (fun ls hl => ?_)
  exact oX7_askAgainAllWorking_16 C0 hK hX hA  _ _ hd _ _ _ hP hD hS (lv_sub hl [1, 0] rfl)
def fX7_set (n : Nat) (σ : St) (p1 : Int32) (p2 : Int32) : Option (Int32 × St) := if p1 < 0 then (some ((-1 : Int32), σ)) else (if p1 < (8 : Int32) then (ix p1 8 (if p2 < (set_lo p1.toNatClampNeg) then (some ((-1 : Int32), σ)) else (ix p1 8 (if p2 ≤ (set_hi p1.toNatClampNeg) then (ix p1 8 (ix p1 8 ((fX7_goOn n (sA σ 0 (upd (σ.2.1 0) p1.toNatClampNeg p2))).bind (fun u_9 => some ((σ.2.1 0) p1.toNatClampNeg, u_9))))) else (some ((-1 : Int32), σ)))))) else (some ((-1 : Int32), σ)))
set_option maxHeartbeats 4000000 in
set_option maxRecDepth 100000 in
theorem mX7_set (l : Launch) (dC : Nat → ClassId) (dI : Nat → Nat → Nat) (cI cJ cZ : ClassId) (ad : Nat → Nat) (n : Nat) (σ : St) (p1 : Int32) (p2 : Int32) {r : Int32 × St} (hd : fX7_set n σ p1 p2 = some r) (sz : Nat) (t1 t2 : Nat) : Met l yX7_set (wS yX7_set cX7_set 4 (some .int)) { frames := 5, cells := 0, slots := 0, locals := 110 } (pC (dC, dI) (kT cI cJ cZ) (xS t1 t2 (va_A (vX7 cI cJ cZ ad σ) sz)) (vX7 cI cJ cZ ad σ) sz [.ref (ad 0), .int p1, .int p2]) (qI (dC, dI) (kT cI cJ cZ) (vX7 cI cJ cZ ad r.2) (va_A (vX7 cI cJ cZ ad σ) sz) r.1) 0 0 (va_A (vX7 cI cJ cZ ad σ) sz) := by
  refine my_ent2 (fun A => qI (dC, dI) (kT cI cJ cZ) (vX7 cI cJ cZ ad r.2) A r.1) (by decide) (Nat.le_of_ble_eq_true rfl) ?_
  intro p e s m below meth c A hsz hAe hnm C0 hK hX hP hD hA hS ls hl
  subst hsz
  rw [hAe] at hX
  obtain ⟨hX, hZ1, hT1, hZ2, hT2⟩ := hX
  obtain ⟨hx, hb, hml, hown, hT, hr, hlocks⟩ := id C0
  unfold fX7_set at hd
  have hl : lv_has ls 4 [(0, .ref (ad 0)), (1, .int p1), (2, .int p2)] := hl
  refine lv_iload_n hx hb dX7_set_0 rfl (lv_at hl 1 rfl) ?_
  refine lv_if_lt (tgt := 13) hx hb dX7_set_1 (by decide) (fun c_1 => ?_) (fun c_1 => ?_)
  · replace hd := i_t hd c_1
    refine lv_iconst (v := (-1)) hx hb dX7_set_13 (by decide) ?_
    obtain rfl := Option.some.inj hd
    exact my_iret C0 hK hP hD hS dX7_set_14
  · replace hd := i_e hd c_1
    refine lv_iload_n hx hb dX7_set_4 rfl (lv_at hl 1 rfl) ?_
    refine lv_aload_n hx hb dX7_set_5 rfl (lv_at hl 0 rfl) ?_
    refine gX7_0_2 C0 hK hP wm_2_0 dX7_set_6 ?_
    refine nX7_1 C0 hK hP dX7_set_9 ?_
    refine lv_icmp_lt (tgt := 15) hx hb dX7_set_10 (by decide) (fun c_2 => ?_) (fun c_2 => ?_)
    · replace hd := i_t hd c_2
      refine lv_iload_n hx hb dX7_set_15 rfl (lv_at hl 2 rfl) ?_
      refine va_gets hx hb hZ1 hS hown (hT _ wm_7_13) (fun _ h9 => h9) dX7_set_16 ?_
      refine lv_iload_n hx hb dX7_set_19 rfl (lv_at hl 1 rfl) ?_
      obtain ⟨g_3, hd⟩ := ix_some hd
      refine va_ti hx hb hT1 hS g_3 (v := .int (set_lo p1.toNatClampNeg)) rfl dX7_set_20 ?_
      refine lv_icmp_lt (tgt := 33) hx hb dX7_set_21 (by decide) (fun c_4 => ?_) (fun c_4 => ?_)
      · replace hd := i_t hd c_4
        refine lv_iconst (v := (-1)) hx hb dX7_set_33 (by decide) ?_
        obtain rfl := Option.some.inj hd
        exact my_iret C0 hK hP hD hS dX7_set_34
      · replace hd := i_e hd c_4
        refine lv_iload_n hx hb dX7_set_24 rfl (lv_at hl 2 rfl) ?_
        refine va_gets hx hb hZ2 hS hown (hT _ wm_7_14) (fun _ h9 => h9) dX7_set_25 ?_
        refine lv_iload_n hx hb dX7_set_28 rfl (lv_at hl 1 rfl) ?_
        obtain ⟨g_5, hd⟩ := ix_some hd
        refine va_ti hx hb hT2 hS g_5 (v := .int (set_hi p1.toNatClampNeg)) rfl dX7_set_29 ?_
        refine lv_icmp_le (tgt := 35) hx hb dX7_set_30 (by decide) (fun c_6 => ?_) (fun c_6 => ?_)
        · replace hd := i_t hd c_6
          refine lv_aload_n hx hb dX7_set_35 rfl (lv_at hl 0 rfl) ?_
          refine gX7_0_2 C0 hK hP wm_2_0 dX7_set_36 ?_
          refine lv_iload_n hx hb dX7_set_39 rfl (lv_at hl 1 rfl) ?_
          obtain ⟨g_7, hd⟩ := ix_some hd
          refine lX7_1 C0 hK hP rfl g_7 dX7_set_40 ?_
          refine lv_istore_n (lv' := [(3, .int ((σ.2.1 0) p1.toNatClampNeg)), (0, .ref (ad 0)), (1, .int p1), (2, .int p2)]) hx hb dX7_set_41 rfl hl (by decide) rfl (fun ls hl => ?_)
          refine lv_aload_n hx hb dX7_set_42 rfl (lv_at hl 1 rfl) ?_
          refine gX7_0_2 C0 hK hP wm_2_0 dX7_set_43 ?_
          refine lv_iload_n hx hb dX7_set_46 rfl (lv_at hl 2 rfl) ?_
          refine lv_iload_n hx hb dX7_set_47 rfl (lv_at hl 3 rfl) ?_
          obtain ⟨g_8, hd⟩ := ix_some hd
          refine aX7_1 C0 hK hP hD hS rfl g_8 dX7_set_48 (fun H locs hP hD hS => ?_)
          refine lv_aload_n hx hb dX7_set_49 rfl (lv_at hl 1 rfl) ?_
          obtain ⟨u_9, hc_10, hd⟩ := bd hd
          refine cw_v (rest := []) C0 (mX7_goOn l dC dI cI cJ cZ ad n (sA σ 0 (upd (σ.2.1 0) p1.toNatClampNeg p2))  hc_10 _) gv_X7_117 yd_X7_goOn ⟨rfl, rfl, Nat.le_of_ble_eq_true rfl, Nat.le_of_ble_eq_true rfl, Nat.zero_le _, Nat.zero_le _⟩ xC_b (fun U h => xC_w h hX) hK hP hD hS hA hl.1 rfl (Nat.le_of_ble_eq_true rfl) dX7_set_50 7 0 rfl rfl (fun H locs hP hD hS => ?_)
          refine lv_iload_n hx hb dX7_set_53 rfl (lv_at hl 0 rfl) ?_
          obtain rfl := Option.some.inj hd
          exact my_iret C0 hK hP hD hS dX7_set_54
        · replace hd := i_e hd c_6
          refine lv_iconst (v := (-1)) hx hb dX7_set_33 (by decide) ?_
          obtain rfl := Option.some.inj hd
          exact my_iret C0 hK hP hD hS dX7_set_34
    · replace hd := i_e hd c_2
      refine lv_iconst (v := (-1)) hx hb dX7_set_13 (by decide) ?_
      obtain rfl := Option.some.inj hd
      exact my_iret C0 hK hP hD hS dX7_set_14
def fX7_row (n : Nat) (σ : St) (p1 : Int64) (p3 : Int64) : Option (Int32 × St) := if (σ.1 2) < (300 : Int32) then ((fX0_noteRow (σ.2.2 0) (σ.2.2 1) (σ.2.1 1) (σ.2.1 2) (σ.1 2) p1 p3).bind (fun u_2 => (fX4_addRow (σ.2.1 3) (σ.2.1 4) (σ.2.1 5) (σ.2.2 2) (σ.1 2) (σ.1 3) (σ.1 16) (σ.1 17)).bind (fun u_4 => (fX7_goOn n (sI (sI (sA (sA (sL (sL σ 0 u_2.1) 1 u_2.2) 3 u_4.1) 4 u_4.2.1) 2 u_4.2.2.1) 16 u_4.2.2.2)).bind (fun u_6 => some (σ.1 2, u_6))))) else (some ((-4 : Int32), σ))
set_option maxHeartbeats 4000000 in
set_option maxRecDepth 100000 in
theorem mX7_row (l : Launch) (dC : Nat → ClassId) (dI : Nat → Nat → Nat) (cI cJ cZ : ClassId) (ad : Nat → Nat) (n : Nat) (σ : St) (p1 : Int64) (p3 : Int64) {r : Int32 × St} (hd : fX7_row n σ p1 p3 = some r) (sz : Nat)  : Met l yX7_row (wS yX7_row cX7_row 6 (some .int)) { frames := 5, cells := 0, slots := 0, locals := 110 } (pC (dC, dI) (kT cI cJ cZ) xC (vX7 cI cJ cZ ad σ) sz [.ref (ad 0), .long p1, .long p3]) (qI (dC, dI) (kT cI cJ cZ) (vX7 cI cJ cZ ad r.2) (va_A (vX7 cI cJ cZ ad σ) sz) r.1) 0 0 (va_A (vX7 cI cJ cZ ad σ) sz) := by
  refine my_ent (fun A => qI (dC, dI) (kT cI cJ cZ) (vX7 cI cJ cZ ad r.2) A r.1) (by decide) (Nat.le_of_ble_eq_true rfl) ?_
  intro p e s m below meth c A hAe hnm C0 hK hX hP hD hA hS ls hl
  obtain ⟨hx, hb, hml, hown, hT, hr, hlocks⟩ := id C0
  unfold fX7_row at hd
  have hl : lv_has ls 6 [(0, .ref (ad 0)), (1, .long p1), (3, .long p3)] := hl
  refine lv_aload_n hx hb dX7_row_0 rfl (lv_at hl 0 rfl) ?_
  refine gX7_0_4 C0 hK hP wm_2_8 dX7_row_1 ?_
  refine gX7_7_4 C0 hK hP hX rfl dX7_row_4 ?_
  refine lv_istore (lv' := [(5, .int (σ.1 2)), (0, .ref (ad 0)), (1, .long p1), (3, .long p3)]) hx hb dX7_row_7 hl (by decide) rfl (fun ls hl => ?_)
  refine lv_iload hx hb dX7_row_9 (lv_at hl 0 rfl) ?_
  refine lv_sipush (v := 300) hx hb dX7_row_11 (by decide) ?_
  refine lv_icmp_lt (tgt := 20) hx hb dX7_row_14 (by decide) (fun c_1 => ?_) (fun c_1 => ?_)
  · replace hd := i_t hd c_1
    refine lv_aload_n hx hb dX7_row_20 rfl (lv_at hl 1 rfl) ?_
    refine gX7_0_3 C0 hK hP wm_2_4 dX7_row_21 ?_
    refine lv_iload hx hb dX7_row_24 (lv_at hl 0 rfl) ?_
    refine lv_lload_n hx hb dX7_row_26 rfl (lv_at hl 2 rfl) ?_
    refine lv_lload_n hx hb dX7_row_27 rfl (lv_at hl 3 rfl) ?_
    obtain ⟨u_2, hc_3, hd⟩ := bd hd
    refine cv_v (rest := []) C0 (mX0_noteRow l dC dI cI cJ cZ (ad 2) (ad 3) (ad 4) (ad 5) (ad 6) (σ.2.2 0) (σ.2.2 1) (σ.2.1 1) (σ.2.1 2) (σ.1 2) p1 p3 hc_3 _) gv_X7_122 yd_X0_noteRow ⟨rfl, rfl, Nat.le_of_ble_eq_true rfl, Nat.le_of_ble_eq_true rfl, Nat.zero_le _, Nat.zero_le _⟩ xT_b xT_w hK hP hD hS hA 2 5 (tC_items rfl rfl rfl rfl) hl.1 rfl (Nat.le_of_ble_eq_true rfl) dX7_row_28 0 2 rfl rfl (tN_items_keys_values rfl rfl) (fun H locs hP hD hS => ?_)
    refine lv_aload_n hx hb dX7_row_31 rfl (lv_at hl 1 rfl) ?_
    refine gX7_0_4 C0 hK hP wm_2_8 dX7_row_32 ?_
    obtain ⟨u_4, hc_5, hd⟩ := bd hd
    refine cv_v (rest := []) C0 (mX4_addRow l dC dI cI cJ cZ (ad 7) (ad 8) (ad 9) (ad 10) (ad 11) (σ.2.1 3) (σ.2.1 4) (σ.2.1 5) (σ.2.2 2) (σ.1 2) (σ.1 3) (σ.1 16) (σ.1 17)  hc_5 _) gv_X7_126 yd_X4_addRow ⟨rfl, rfl, Nat.le_of_ble_eq_true rfl, Nat.le_of_ble_eq_true rfl, Nat.zero_le _, Nat.zero_le _⟩ xT_b xT_w hK hP hD hS hA 7 5 (tC_live ((sL_A).trans (sL_A)) ((sL_A).trans (sL_A)) ((sL_A).trans (sL_A)) ((sL_n (by decide)).trans (sL_n (by decide))) ((sL_I).trans (sL_I)) ((sL_I).trans (sL_I)) ((sL_I).trans (sL_I)) ((sL_I).trans (sL_I))) hl.1 rfl (Nat.le_of_ble_eq_true rfl) dX7_row_35 4 7 rfl rfl (tN_live_states_results_items_waiting ((sL_A).trans (sL_A)) ((sL_n (by decide)).trans (sL_n (by decide))) ((sL_I).trans (sL_I)) ((sL_I).trans (sL_I))) (fun H locs hP hD hS => ?_)
    refine lv_aload_n hx hb dX7_row_38 rfl (lv_at hl 1 rfl) ?_
    obtain ⟨u_6, hc_7, hd⟩ := bd hd
    refine cw_v (rest := []) C0 (mX7_goOn l dC dI cI cJ cZ ad n (sI (sI (sA (sA (sL (sL σ 0 u_2.1) 1 u_2.2) 3 u_4.1) 4 u_4.2.1) 2 u_4.2.2.1) 16 u_4.2.2.2)  hc_7 _) gv_X7_117 yd_X7_goOn ⟨rfl, rfl, Nat.le_of_ble_eq_true rfl, Nat.le_of_ble_eq_true rfl, Nat.zero_le _, Nat.zero_le _⟩ xC_b (fun U h => xC_w h hX) hK hP hD hS hA hl.1 rfl (Nat.le_of_ble_eq_true rfl) dX7_row_39 7 0 rfl rfl (fun H locs hP hD hS => ?_)
    refine lv_iload hx hb dX7_row_42 (lv_at hl 0 rfl) ?_
    obtain rfl := Option.some.inj hd
    exact my_iret C0 hK hP hD hS dX7_row_44
  · replace hd := i_e hd c_1
    refine lv_bipush (v := (-4)) hx hb dX7_row_17 (by decide) ?_
    obtain rfl := Option.some.inj hd
    exact my_iret C0 hK hP hD hS dX7_row_19
def fX7_mark (n : Nat) (σ : St)  : Option (Int32 × St) := if (σ.1 2) < (300 : Int32) then ((fX0_noteMark (σ.2.2 0) (σ.2.2 1) (σ.2.1 1) (σ.2.1 2) (σ.1 2)).bind (fun u_2 => (fX4_addMark (σ.2.1 3) (σ.2.1 4) (σ.2.1 5) (σ.2.2 2) (σ.1 2) (σ.1 3) (σ.1 16) (σ.1 17)).bind (fun u_4 => (fX7_goOn n (sI (sI (sA (sA (sA σ 1 u_2) 3 u_4.1) 4 u_4.2.1) 2 u_4.2.2.1) 17 u_4.2.2.2)).bind (fun u_6 => some (σ.1 2, u_6))))) else (some ((-4 : Int32), σ))
set_option maxHeartbeats 4000000 in
set_option maxRecDepth 100000 in
theorem mX7_mark (l : Launch) (dC : Nat → ClassId) (dI : Nat → Nat → Nat) (cI cJ cZ : ClassId) (ad : Nat → Nat) (n : Nat) (σ : St)  {r : Int32 × St} (hd : fX7_mark n σ  = some r) (sz : Nat)  : Met l yX7_mark (wS yX7_mark cX7_mark 2 (some .int)) { frames := 5, cells := 0, slots := 0, locals := 110 } (pC (dC, dI) (kT cI cJ cZ) xC (vX7 cI cJ cZ ad σ) sz [.ref (ad 0)]) (qI (dC, dI) (kT cI cJ cZ) (vX7 cI cJ cZ ad r.2) (va_A (vX7 cI cJ cZ ad σ) sz) r.1) 0 0 (va_A (vX7 cI cJ cZ ad σ) sz) := by
  refine my_ent (fun A => qI (dC, dI) (kT cI cJ cZ) (vX7 cI cJ cZ ad r.2) A r.1) (by decide) (Nat.le_of_ble_eq_true rfl) ?_
  intro p e s m below meth c A hAe hnm C0 hK hX hP hD hA hS ls hl
  obtain ⟨hx, hb, hml, hown, hT, hr, hlocks⟩ := id C0
  unfold fX7_mark at hd
  have hl : lv_has ls 2 [(0, .ref (ad 0))] := hl
  refine lv_aload_n hx hb dX7_mark_0 rfl (lv_at hl 0 rfl) ?_
  refine gX7_0_4 C0 hK hP wm_2_8 dX7_mark_1 ?_
  refine gX7_7_4 C0 hK hP hX rfl dX7_mark_4 ?_
  refine lv_istore_n (lv' := [(1, .int (σ.1 2)), (0, .ref (ad 0))]) hx hb dX7_mark_7 rfl hl (by decide) rfl (fun ls hl => ?_)
  refine lv_iload_n hx hb dX7_mark_8 rfl (lv_at hl 0 rfl) ?_
  refine lv_sipush (v := 300) hx hb dX7_mark_9 (by decide) ?_
  refine lv_icmp_lt (tgt := 18) hx hb dX7_mark_12 (by decide) (fun c_1 => ?_) (fun c_1 => ?_)
  · replace hd := i_t hd c_1
    refine lv_aload_n hx hb dX7_mark_18 rfl (lv_at hl 1 rfl) ?_
    refine gX7_0_3 C0 hK hP wm_2_4 dX7_mark_19 ?_
    refine lv_iload_n hx hb dX7_mark_22 rfl (lv_at hl 0 rfl) ?_
    obtain ⟨u_2, hc_3, hd⟩ := bd hd
    refine cv_v (rest := []) C0 (mX0_noteMark l dC dI cI cJ cZ (ad 2) (ad 3) (ad 4) (ad 5) (ad 6) (σ.2.2 0) (σ.2.2 1) (σ.2.1 1) (σ.2.1 2) (σ.1 2) hc_3 _) gv_X7_129 yd_X0_noteMark ⟨rfl, rfl, Nat.le_of_ble_eq_true rfl, Nat.le_of_ble_eq_true rfl, Nat.zero_le _, Nat.zero_le _⟩ xT_b xT_w hK hP hD hS hA 2 5 (tC_items rfl rfl rfl rfl) hl.1 rfl (Nat.le_of_ble_eq_true rfl) dX7_mark_23 0 2 rfl rfl (tN_items_marks rfl rfl rfl) (fun H locs hP hD hS => ?_)
    refine lv_aload_n hx hb dX7_mark_26 rfl (lv_at hl 1 rfl) ?_
    refine gX7_0_4 C0 hK hP wm_2_8 dX7_mark_27 ?_
    obtain ⟨u_4, hc_5, hd⟩ := bd hd
    refine cv_v (rest := []) C0 (mX4_addMark l dC dI cI cJ cZ (ad 7) (ad 8) (ad 9) (ad 10) (ad 11) (σ.2.1 3) (σ.2.1 4) (σ.2.1 5) (σ.2.2 2) (σ.1 2) (σ.1 3) (σ.1 16) (σ.1 17)  hc_5 _) gv_X7_133 yd_X4_addMark ⟨rfl, rfl, Nat.le_of_ble_eq_true rfl, Nat.le_of_ble_eq_true rfl, Nat.zero_le _, Nat.zero_le _⟩ xT_b xT_w hK hP hD hS hA 7 5 (tC_live (sA_n (by decide)) (sA_n (by decide)) (sA_n (by decide)) (sA_L) (sA_I) (sA_I) (sA_I) (sA_I)) hl.1 rfl (Nat.le_of_ble_eq_true rfl) dX7_mark_30 4 7 rfl rfl (tN_live_states_results_items_settled (sA_n (by decide)) (sA_L) (sA_I) (sA_I)) (fun H locs hP hD hS => ?_)
    refine lv_aload_n hx hb dX7_mark_33 rfl (lv_at hl 1 rfl) ?_
    obtain ⟨u_6, hc_7, hd⟩ := bd hd
    refine cw_v (rest := []) C0 (mX7_goOn l dC dI cI cJ cZ ad n (sI (sI (sA (sA (sA σ 1 u_2) 3 u_4.1) 4 u_4.2.1) 2 u_4.2.2.1) 17 u_4.2.2.2)  hc_7 _) gv_X7_117 yd_X7_goOn ⟨rfl, rfl, Nat.le_of_ble_eq_true rfl, Nat.le_of_ble_eq_true rfl, Nat.zero_le _, Nat.zero_le _⟩ xC_b (fun U h => xC_w h hX) hK hP hD hS hA hl.1 rfl (Nat.le_of_ble_eq_true rfl) dX7_mark_34 7 0 rfl rfl (fun H locs hP hD hS => ?_)
    refine lv_iload_n hx hb dX7_mark_37 rfl (lv_at hl 0 rfl) ?_
    obtain rfl := Option.some.inj hd
    exact my_iret C0 hK hP hD hS dX7_mark_38
  · replace hd := i_e hd c_1
    refine lv_bipush (v := (-4)) hx hb dX7_mark_15 (by decide) ?_
    obtain rfl := Option.some.inj hd
    exact my_iret C0 hK hP hD hS dX7_mark_17
def fX7_tick_26 (n : Nat) (k26 : (St × Int32 × Int32) → Option (Int32 × St)) (a : St × Int32 × Int32) : Option (Int32 × St) := if a.2.1 ≤ a.2.2 then (some (a.1.1 12, a.1)) else ((fX7_passTick n a.1).bind (fun u_5 => k26 (u_5, a.2.1, a.2.2 + 1)))
set_option maxHeartbeats 4000000 in
set_option maxRecDepth 100000 in
theorem bX7_tick_26 {p : Program} {l : Launch} {e : Env} {s : State} {m : MethodId} {args : Array Value} {below : List Frame} {meth : Method} {c : Code} {A : Nat → Prop} {dC : Nat → ClassId} {dI : Nat → Nat → Nat} {cI cJ cZ : ClassId} {ad : Nat → Nat} {r : Int32 × St} {n : Nat} (C0 : cx p s m args meth c cX7_tick 3 RX7 (some .int)) (hK : va_K (dC, dI) vwCl (kT cI cJ cZ) s) (hX : xC s) (hA : ∀ q : Nat, s.heap.size ≤ q → A q) (k26 : (St × Int32 × Int32) → Option (Int32 × St)) (ih26 : ∀ (a : St × Int32 × Int32), k26 a = some r → ∀ (H : Heap) (locs : List Loc) (ls : Array Slot), va_P (dC, dI) vwCl (vX7 cI cJ cZ ad a.1) H → va_D A (vX7 cI cJ cZ ad a.1) → va_S A s.heap H locs → lv_has ls 3 [(0, .ref (ad 0)), (1, .int a.2.1), (2, .int a.2.2)] → W p l e ({ frames := 6, cells := 0, slots := 0, locals := 131 } : Room) s m args below meth c H locs 0 0 (MQ below (qI (dC, dI) (kT cI cJ cZ) (vX7 cI cJ cZ ad r.2) A r.1) args s 0 0 A) (F0 m 26 ls [])) : ∀ (a : St × Int32 × Int32), fX7_tick_26 n k26 a = some r → ∀ (H : Heap) (locs : List Loc) (ls : Array Slot), va_P (dC, dI) vwCl (vX7 cI cJ cZ ad a.1) H → va_D A (vX7 cI cJ cZ ad a.1) → va_S A s.heap H locs → lv_has ls 3 [(0, .ref (ad 0)), (1, .int a.2.1), (2, .int a.2.2)] → W p l e ({ frames := 6, cells := 0, slots := 0, locals := 131 } : Room) s m args below meth c H locs 0 0 (MQ below (qI (dC, dI) (kT cI cJ cZ) (vX7 cI cJ cZ ad r.2) A r.1) args s 0 0 A) (F0 m 26 ls []) := by
  obtain ⟨hx, hb, hml, hown, hT, hr, hlocks⟩ := id C0
  intro a hd H locs ls hP hD hS hl
  unfold fX7_tick_26 at hd
  refine lv_iload_n hx hb dX7_tick_26 rfl (lv_at hl 2 rfl) ?_
  refine lv_iload_n hx hb dX7_tick_27 rfl (lv_at hl 1 rfl) ?_
  refine lv_icmp_ge (tgt := 41) hx hb dX7_tick_28 (by decide) (fun c_4 => ?_) (fun c_4 => ?_)
  · replace hd := i_t hd c_4
    refine lv_aload_n hx hb dX7_tick_41 rfl (lv_at hl 0 rfl) ?_
    refine gX7_0_14 C0 hK hP wm_3_9 rfl dX7_tick_42 ?_
    obtain rfl := Option.some.inj hd
    exact my_iret C0 hK hP hD hS dX7_tick_45
  · replace hd := i_e hd c_4
    refine lv_aload_n hx hb dX7_tick_31 rfl (lv_at hl 0 rfl) ?_
    obtain ⟨u_5, hc_6, hd⟩ := bd hd
    refine cw_v (rest := []) C0 (mX7_passTick l dC dI cI cJ cZ ad n a.1  hc_6 _) gv_X7_137 yd_X7_passTick ⟨rfl, rfl, Nat.le_of_ble_eq_true rfl, Nat.le_of_ble_eq_true rfl, Nat.zero_le _, Nat.zero_le _⟩ xC_b (fun U h => xC_w h hX) hK hP hD hS hA hl.1 rfl (Nat.le_of_ble_eq_true rfl) dX7_tick_32 7 0 rfl rfl (fun H locs hP hD hS => ?_)
    refine lv_iinc (v := a.2.2 + 1) (lv' := [(2, .int (a.2.2 + 1)), (0, .ref (ad 0)), (1, .int a.2.1)]) hx hb dX7_tick_35 hl (k := 2) rfl rfl (by decide) rfl (fun ls hl => ?_)
    refine lv_goto (tgt := 26) hx hb dX7_tick_38 (by decide) ?_
    exact ih26 _ hd _ _ _ hP hD hS (lv_sub hl [1, 2, 0] rfl)
set_option maxHeartbeats 4000000 in
set_option maxRecDepth 100000 in
theorem oX7_tick_26 {p : Program} {l : Launch} {e : Env} {s : State} {m : MethodId} {args : Array Value} {below : List Frame} {meth : Method} {c : Code} {A : Nat → Prop} {dC : Nat → ClassId} {dI : Nat → Nat → Nat} {cI cJ cZ : ClassId} {ad : Nat → Nat} {r : Int32 × St} {n : Nat} (C0 : cx p s m args meth c cX7_tick 3 RX7 (some .int)) (hK : va_K (dC, dI) vwCl (kT cI cJ cZ) s) (hX : xC s) (hA : ∀ q : Nat, s.heap.size ≤ q → A q)  : ∀ nn : Nat, ∀ (a : St × Int32 × Int32), loopF (fX7_tick_26 n ) nn a = some r → ∀ (H : Heap) (locs : List Loc) (ls : Array Slot), va_P (dC, dI) vwCl (vX7 cI cJ cZ ad a.1) H → va_D A (vX7 cI cJ cZ ad a.1) → va_S A s.heap H locs → lv_has ls 3 [(0, .ref (ad 0)), (1, .int a.2.1), (2, .int a.2.2)] → W p l e ({ frames := 6, cells := 0, slots := 0, locals := 131 } : Room) s m args below meth c H locs 0 0 (MQ below (qI (dC, dI) (kT cI cJ cZ) (vX7 cI cJ cZ ad r.2) A r.1) args s 0 0 A) (F0 m 26 ls []) := by
  intro nn
  induction nn with
  | zero => intro a hd; cases hd
  | succ nn ih => intro a hd; exact bX7_tick_26 C0 hK hX hA  _ ih a hd
def fX7_tick (n : Nat) (σ : St) (p1 : Int32) : Option (Int32 × St) := if p1 < 0 then (some ((-1 : Int32), σ)) else (if (1000 : Int32) < p1 then (some ((-1 : Int32), σ)) else (if ((σ.1 12) + p1) ≤ (1000000 : Int32) then (loopF (fX7_tick_26 n ) n (σ, p1, (0 : Int32))) else (some ((-1 : Int32), σ))))
set_option maxHeartbeats 4000000 in
set_option maxRecDepth 100000 in
theorem mX7_tick (l : Launch) (dC : Nat → ClassId) (dI : Nat → Nat → Nat) (cI cJ cZ : ClassId) (ad : Nat → Nat) (n : Nat) (σ : St) (p1 : Int32) {r : Int32 × St} (hd : fX7_tick n σ p1 = some r) (sz : Nat)  : Met l yX7_tick (wS yX7_tick cX7_tick 3 (some .int)) { frames := 6, cells := 0, slots := 0, locals := 131 } (pC (dC, dI) (kT cI cJ cZ) xC (vX7 cI cJ cZ ad σ) sz [.ref (ad 0), .int p1]) (qI (dC, dI) (kT cI cJ cZ) (vX7 cI cJ cZ ad r.2) (va_A (vX7 cI cJ cZ ad σ) sz) r.1) 0 0 (va_A (vX7 cI cJ cZ ad σ) sz) := by
  refine my_ent (fun A => qI (dC, dI) (kT cI cJ cZ) (vX7 cI cJ cZ ad r.2) A r.1) (by decide) (Nat.le_of_ble_eq_true rfl) ?_
  intro p e s m below meth c A hAe hnm C0 hK hX hP hD hA hS ls hl
  obtain ⟨hx, hb, hml, hown, hT, hr, hlocks⟩ := id C0
  unfold fX7_tick at hd
  have hl : lv_has ls 3 [(0, .ref (ad 0)), (1, .int p1)] := hl
  refine lv_iload_n hx hb dX7_tick_0 rfl (lv_at hl 1 rfl) ?_
  refine lv_if_lt (tgt := 22) hx hb dX7_tick_1 (by decide) (fun c_1 => ?_) (fun c_1 => ?_)
  · replace hd := i_t hd c_1
    refine lv_iconst (v := (-1)) hx hb dX7_tick_22 (by decide) ?_
    obtain rfl := Option.some.inj hd
    exact my_iret C0 hK hP hD hS dX7_tick_23
  · replace hd := i_e hd c_1
    refine lv_iload_n hx hb dX7_tick_4 rfl (lv_at hl 1 rfl) ?_
    refine lv_sipush (v := 1000) hx hb dX7_tick_5 (by decide) ?_
    refine lv_icmp_gt (tgt := 22) hx hb dX7_tick_8 (by decide) (fun c_2 => ?_) (fun c_2 => ?_)
    · replace hd := i_t hd c_2
      refine lv_iconst (v := (-1)) hx hb dX7_tick_22 (by decide) ?_
      obtain rfl := Option.some.inj hd
      exact my_iret C0 hK hP hD hS dX7_tick_23
    · replace hd := i_e hd c_2
      refine lv_aload_n hx hb dX7_tick_11 rfl (lv_at hl 0 rfl) ?_
      refine gX7_0_14 C0 hK hP wm_3_9 rfl dX7_tick_12 ?_
      refine lv_iload_n hx hb dX7_tick_15 rfl (lv_at hl 1 rfl) ?_
      refine lv_iadd hx hb dX7_tick_16 ?_
      refine lv_ldc (v := 1000000) hx hb hown (hT _ wm_15_2) dX7_tick_17 ?_
      refine lv_icmp_le (tgt := 24) hx hb dX7_tick_19 (by decide) (fun c_3 => ?_) (fun c_3 => ?_)
      · replace hd := i_t hd c_3
        refine lv_iconst (v := 0) hx hb dX7_tick_24 (by decide) ?_
        refine lv_istore_n (lv' := [(2, .int (0 : Int32)), (0, .ref (ad 0)), (1, .int p1)]) hx hb dX7_tick_25 rfl hl (by decide) rfl (fun ls hl => ?_)
        exact oX7_tick_26 C0 hK hX hA  _ _ hd _ _ _ hP hD hS (lv_sub hl [1, 2, 0] rfl)
      · replace hd := i_e hd c_3
        refine lv_iconst (v := (-1)) hx hb dX7_tick_22 (by decide) ?_
        obtain rfl := Option.some.inj hd
        exact my_iret C0 hK hP hD hS dX7_tick_23
def fX7_serve_46 (n : Nat)  (a : St × Int32 × Int32) : Option (Int32 × St) := (fX0_keyOf (a.1.2.2 0) (a.1.2.2 1) (a.1.2.1 1) (a.1.2.1 2) a.2.1).bind (fun u_9 => (fX0_valueOf (a.1.2.2 0) (a.1.2.2 1) (a.1.2.1 1) (a.1.2.1 2) a.2.1).bind (fun u_11 => (fX6_takeAsk n (a.1.2.2 6) (a.1.2.1 20) (a.1.2.2 7) a.2.1 u_9 u_11 a.2.2).bind (fun u_13 => (fX6_answerTo u_13.2.1 u_13.2.2.1 u_13.2.2.2 a.2.1).bind (fun u_15 => (fX2_setOut (a.1.2.1 18) (a.1.2.1 19) (a.1.2.2 5) (a.1.1 10) a.2.1 (0 : Int32) u_15).bind (fun u_17 => (fX7_goOn n (sI (sL (sA (sA (sL (sA (sL a.1 6 u_13.2.1) 20 u_13.2.2.1) 7 u_13.2.2.2) 18 u_17.1) 19 u_17.2.1) 5 u_17.2.2.1) 10 u_17.2.2.2)).bind (fun u_19 => if u_13.1 = 0 then (some ((0 : Int32), u_19)) else (some ((1 : Int32), u_19))))))))
set_option maxHeartbeats 4000000 in
set_option maxRecDepth 100000 in
theorem bX7_serve_46 {p : Program} {l : Launch} {e : Env} {s : State} {m : MethodId} {args : Array Value} {below : List Frame} {meth : Method} {c : Code} {A : Nat → Prop} {dC : Nat → ClassId} {dI : Nat → Nat → Nat} {cI cJ cZ : ClassId} {ad : Nat → Nat} {r : Int32 × St} {n : Nat} (C0 : cx p s m args meth c cX7_serve 5 RX7 (some .int)) (hK : va_K (dC, dI) vwCl (kT cI cJ cZ) s) (hX : xC s) (hA : ∀ q : Nat, s.heap.size ≤ q → A q)  : ∀ (a : St × Int32 × Int32), fX7_serve_46 n  a = some r → ∀ (H : Heap) (locs : List Loc) (ls : Array Slot), va_P (dC, dI) vwCl (vX7 cI cJ cZ ad a.1) H → va_D A (vX7 cI cJ cZ ad a.1) → va_S A s.heap H locs → lv_has ls 5 [(0, .ref (ad 0)), (2, .int a.2.1)] → W p l e ({ frames := 5, cells := 0, slots := 0, locals := 110 } : Room) s m args below meth c H locs 0 0 (MQ below (qI (dC, dI) (kT cI cJ cZ) (vX7 cI cJ cZ ad r.2) A r.1) args s 0 0 A) (F0 m 46 ls [.int a.2.2]) := by
  obtain ⟨hx, hb, hml, hown, hT, hr, hlocks⟩ := id C0
  intro a hd H locs ls hP hD hS hl
  unfold fX7_serve_46 at hd
  refine lv_istore_n (lv' := [(3, .int a.2.2), (0, .ref (ad 0)), (2, .int a.2.1)]) hx hb dX7_serve_46 rfl hl (by decide) rfl (fun ls hl => ?_)
  refine lv_aload_n hx hb dX7_serve_47 rfl (lv_at hl 1 rfl) ?_
  refine gX7_0_12 C0 hK hP wm_3_4 dX7_serve_48 ?_
  refine lv_iload_n hx hb dX7_serve_51 rfl (lv_at hl 2 rfl) ?_
  refine lv_aload_n hx hb dX7_serve_52 rfl (lv_at hl 1 rfl) ?_
  refine gX7_0_3 C0 hK hP wm_2_4 dX7_serve_53 ?_
  refine lv_iload_n hx hb dX7_serve_56 rfl (lv_at hl 2 rfl) ?_
  obtain ⟨u_9, hc_10, hd⟩ := bd hd
  refine cv_l (rest := [.int a.2.1, .ref (ad 34)]) C0 (mX0_keyOf l dC dI cI cJ cZ (ad 2) (ad 3) (ad 4) (ad 5) (ad 6) (a.1.2.2 0) (a.1.2.2 1) (a.1.2.1 1) (a.1.2.1 2) a.2.1 hc_10 _) gv_X7_151 yd_X0_keyOf ⟨rfl, rfl, Nat.le_of_ble_eq_true rfl, Nat.le_of_ble_eq_true rfl, Nat.zero_le _, Nat.zero_le _⟩ xT_b xT_w hK hP hD hS hA 2 5 (tC_items rfl rfl rfl rfl) hl.1 rfl (Nat.le_of_ble_eq_true rfl) dX7_serve_57 0 2 rfl rfl (tN_items_ rfl rfl rfl rfl) (fun H locs hP hD hS => ?_)
  refine lv_aload_n hx hb dX7_serve_60 rfl (lv_at hl 1 rfl) ?_
  refine gX7_0_3 C0 hK hP wm_2_4 dX7_serve_61 ?_
  refine lv_iload_n hx hb dX7_serve_64 rfl (lv_at hl 2 rfl) ?_
  obtain ⟨u_11, hc_12, hd⟩ := bd hd
  refine cv_l (rest := [.long u_9, .int a.2.1, .ref (ad 34)]) C0 (mX0_valueOf l dC dI cI cJ cZ (ad 2) (ad 3) (ad 4) (ad 5) (ad 6) (a.1.2.2 0) (a.1.2.2 1) (a.1.2.1 1) (a.1.2.1 2) a.2.1 hc_12 _) gv_X7_155 yd_X0_valueOf ⟨rfl, rfl, Nat.le_of_ble_eq_true rfl, Nat.le_of_ble_eq_true rfl, Nat.zero_le _, Nat.zero_le _⟩ xT_b xT_w hK hP hD hS hA 2 5 (tC_items rfl rfl rfl rfl) hl.1 rfl (Nat.le_of_ble_eq_true rfl) dX7_serve_65 0 2 rfl rfl (tN_items_ rfl rfl rfl rfl) (fun H locs hP hD hS => ?_)
  refine lv_iload_n hx hb dX7_serve_68 rfl (lv_at hl 0 rfl) ?_
  obtain ⟨u_13, hc_14, hd⟩ := bd hd
  refine cv_i (rest := []) C0 (mX6_takeAsk l dC dI cI cJ cZ (ad 34) (ad 35) (ad 36) (ad 37) n (a.1.2.2 6) (a.1.2.1 20) (a.1.2.2 7) a.2.1 u_9 u_11 a.2.2 hc_14 _) gv_X7_158 yd_X6_takeAsk ⟨rfl, rfl, Nat.le_of_ble_eq_true rfl, Nat.le_of_ble_eq_true rfl, Nat.zero_le _, Nat.zero_le _⟩ xT_b xT_w hK hP hD hS hA 34 4 (tC_service rfl rfl rfl) hl.1 rfl (Nat.le_of_ble_eq_true rfl) dX7_serve_69 6 34 rfl rfl (tN_service_keys_acts_latestAnswers ) (fun H locs hP hD hS => ?_)
  refine lv_istore (lv' := [(4, .int u_13.1), (3, .int a.2.2), (0, .ref (ad 0)), (2, .int a.2.1)]) hx hb dX7_serve_72 hl (by decide) rfl (fun ls hl => ?_)
  refine lv_aload_n hx hb dX7_serve_74 rfl (lv_at hl 2 rfl) ?_
  refine gX7_0_11 C0 hK hP wm_3_0 dX7_serve_75 ?_
  refine lv_iload_n hx hb dX7_serve_78 rfl (lv_at hl 3 rfl) ?_
  refine lv_iconst (v := 0) hx hb dX7_serve_79 (by decide) ?_
  refine lv_aload_n hx hb dX7_serve_80 rfl (lv_at hl 2 rfl) ?_
  refine gX7_0_12 C0 hK hP wm_3_4 dX7_serve_81 ?_
  refine lv_iload_n hx hb dX7_serve_84 rfl (lv_at hl 3 rfl) ?_
  obtain ⟨u_15, hc_16, hd⟩ := bd hd
  refine cv_l (rest := [.int (0 : Int32), .int a.2.1, .ref (ad 30)]) C0 (mX6_answerTo l dC dI cI cJ cZ (ad 34) (ad 35) (ad 36) (ad 37) u_13.2.1 u_13.2.2.1 u_13.2.2.2 a.2.1 hc_16 _) gv_X7_162 yd_X6_answerTo ⟨rfl, rfl, Nat.le_of_ble_eq_true rfl, Nat.le_of_ble_eq_true rfl, Nat.zero_le _, Nat.zero_le _⟩ xT_b xT_w hK hP hD hS hA 34 4 (tC_service ((sL_n (by decide)).trans ((sA_L).trans sL_s)) ((sL_A).trans sA_s) sL_s) hl.1 rfl (Nat.le_of_ble_eq_true rfl) dX7_serve_85 6 34 rfl rfl (tN_service_ ((sL_n (by decide)).trans ((sA_L).trans sL_s)) ((sL_A).trans sA_s) sL_s) (fun H locs hP hD hS => ?_)
  obtain ⟨u_17, hc_18, hd⟩ := bd hd
  refine cv_v (rest := []) C0 (mX2_setOut l dC dI cI cJ cZ (ad 30) (ad 31) (ad 32) (ad 33) (a.1.2.1 18) (a.1.2.1 19) (a.1.2.2 5) (a.1.1 10) a.2.1 (0 : Int32) u_15 hc_18 _) gv_X7_165 yd_X2_setOut ⟨rfl, rfl, Nat.le_of_ble_eq_true rfl, Nat.le_of_ble_eq_true rfl, Nat.zero_le _, Nat.zero_le _⟩ xT_b xT_w hK hP hD hS hA 30 4 (tC_answers ((sL_A).trans ((sA_n (by decide)).trans (sL_A))) ((sL_A).trans ((sA_n (by decide)).trans (sL_A))) ((sL_n (by decide)).trans ((sA_L).trans (sL_n (by decide)))) ((sL_I).trans ((sA_I).trans (sL_I)))) hl.1 rfl (Nat.le_of_ble_eq_true rfl) dX7_serve_88 2 30 rfl rfl (tN_answers_rows_causes_values_size ) (fun H locs hP hD hS => ?_)
  refine lv_aload_n hx hb dX7_serve_91 rfl (lv_at hl 2 rfl) ?_
  obtain ⟨u_19, hc_20, hd⟩ := bd hd
  refine cw_v (rest := []) C0 (mX7_goOn l dC dI cI cJ cZ ad n (sI (sL (sA (sA (sL (sA (sL a.1 6 u_13.2.1) 20 u_13.2.2.1) 7 u_13.2.2.2) 18 u_17.1) 19 u_17.2.1) 5 u_17.2.2.1) 10 u_17.2.2.2)  hc_20 _) gv_X7_117 yd_X7_goOn ⟨rfl, rfl, Nat.le_of_ble_eq_true rfl, Nat.le_of_ble_eq_true rfl, Nat.zero_le _, Nat.zero_le _⟩ xC_b (fun U h => xC_w h hX) hK hP hD hS hA hl.1 rfl (Nat.le_of_ble_eq_true rfl) dX7_serve_92 7 0 rfl rfl (fun H locs hP hD hS => ?_)
  refine lv_iload hx hb dX7_serve_95 (lv_at hl 0 rfl) ?_
  refine lv_if_eq (tgt := 104) hx hb dX7_serve_97 (by decide) (fun c_21 => ?_) (fun c_21 => ?_)
  · replace hd := i_t hd c_21
    refine lv_iconst (v := 0) hx hb dX7_serve_104 (by decide) ?_
    obtain rfl := Option.some.inj hd
    exact my_iret C0 hK hP hD hS dX7_serve_105
  · replace hd := i_e hd c_21
    refine lv_iconst (v := 1) hx hb dX7_serve_100 (by decide) ?_
    refine lv_goto (tgt := 105) hx hb dX7_serve_101 (by decide) ?_
    obtain rfl := Option.some.inj hd
    exact my_iret C0 hK hP hD hS dX7_serve_105
def fX7_serve (n : Nat) (σ : St) (p1 : Int32) : Option (Int32 × St) := (fX2_has (σ.2.1 16) (σ.2.1 17) (σ.2.2 4) (σ.1 9) p1).bind (fun u_1 => if u_1 = 0 then (some ((-1 : Int32), σ)) else ((fX2_rowAt (σ.2.1 16) (σ.2.1 17) (σ.2.2 4) (σ.1 9) p1).bind (fun u_4 => (fX2_removeAt (σ.2.1 16) (σ.2.1 17) (σ.2.2 4) (σ.1 9) p1).bind (fun u_6 => if ((σ.2.1 0) (7 : Int32).toNatClampNeg) = (1 : Int32) then (fX7_serve_46 n  (sI (sL (sA (sA σ 16 u_6.1) 17 u_6.2.1) 4 u_6.2.2.1) 9 u_6.2.2.2, u_4, (1 : Int32))) else (fX7_serve_46 n  (sI (sL (sA (sA σ 16 u_6.1) 17 u_6.2.1) 4 u_6.2.2.1) 9 u_6.2.2.2, u_4, (0 : Int32)))))))
set_option maxHeartbeats 4000000 in
set_option maxRecDepth 100000 in
theorem mX7_serve (l : Launch) (dC : Nat → ClassId) (dI : Nat → Nat → Nat) (cI cJ cZ : ClassId) (ad : Nat → Nat) (n : Nat) (σ : St) (p1 : Int32) {r : Int32 × St} (hd : fX7_serve n σ p1 = some r) (sz : Nat)  : Met l yX7_serve (wS yX7_serve cX7_serve 5 (some .int)) { frames := 5, cells := 0, slots := 0, locals := 110 } (pC (dC, dI) (kT cI cJ cZ) xC (vX7 cI cJ cZ ad σ) sz [.ref (ad 0), .int p1]) (qI (dC, dI) (kT cI cJ cZ) (vX7 cI cJ cZ ad r.2) (va_A (vX7 cI cJ cZ ad σ) sz) r.1) 0 0 (va_A (vX7 cI cJ cZ ad σ) sz) := by
  refine my_ent (fun A => qI (dC, dI) (kT cI cJ cZ) (vX7 cI cJ cZ ad r.2) A r.1) (by decide) (Nat.le_of_ble_eq_true rfl) ?_
  intro p e s m below meth c A hAe hnm C0 hK hX hP hD hA hS ls hl
  obtain ⟨hx, hb, hml, hown, hT, hr, hlocks⟩ := id C0
  unfold fX7_serve at hd
  have hl : lv_has ls 5 [(0, .ref (ad 0)), (1, .int p1)] := hl
  refine lv_aload_n hx hb dX7_serve_0 rfl (lv_at hl 0 rfl) ?_
  refine gX7_0_10 C0 hK hP wm_2_23 dX7_serve_1 ?_
  refine lv_iload_n hx hb dX7_serve_4 rfl (lv_at hl 1 rfl) ?_
  obtain ⟨u_1, hc_2, hd⟩ := bd hd
  refine cv_i (rest := []) C0 (mX2_has l dC dI cI cJ cZ (ad 26) (ad 27) (ad 28) (ad 29) (σ.2.1 16) (σ.2.1 17) (σ.2.2 4) (σ.1 9) p1 hc_2 _) gv_X7_140 yd_X2_has ⟨rfl, rfl, Nat.le_of_ble_eq_true rfl, Nat.le_of_ble_eq_true rfl, Nat.zero_le _, Nat.zero_le _⟩ xT_b xT_w hK hP hD hS hA 26 4 (tC_asks rfl rfl rfl rfl) hl.1 rfl (Nat.le_of_ble_eq_true rfl) dX7_serve_5 2 26 rfl rfl (tN_asks_ rfl rfl rfl rfl) (fun H locs hP hD hS => ?_)
  refine lv_if_ne (tgt := 13) hx hb dX7_serve_8 (by decide) (fun c_3 => ?_) (fun c_3 => ?_)
  · replace hd := i_e hd c_3
    refine lv_aload_n hx hb dX7_serve_13 rfl (lv_at hl 0 rfl) ?_
    refine gX7_0_10 C0 hK hP wm_2_23 dX7_serve_14 ?_
    refine lv_iload_n hx hb dX7_serve_17 rfl (lv_at hl 1 rfl) ?_
    obtain ⟨u_4, hc_5, hd⟩ := bd hd
    refine cv_i (rest := []) C0 (mX2_rowAt l dC dI cI cJ cZ (ad 26) (ad 27) (ad 28) (ad 29) (σ.2.1 16) (σ.2.1 17) (σ.2.2 4) (σ.1 9) p1 hc_5 _) gv_X7_144 yd_X2_rowAt ⟨rfl, rfl, Nat.le_of_ble_eq_true rfl, Nat.le_of_ble_eq_true rfl, Nat.zero_le _, Nat.zero_le _⟩ xT_b xT_w hK hP hD hS hA 26 4 (tC_asks rfl rfl rfl rfl) hl.1 rfl (Nat.le_of_ble_eq_true rfl) dX7_serve_18 2 26 rfl rfl (tN_asks_ rfl rfl rfl rfl) (fun H locs hP hD hS => ?_)
    refine lv_istore_n (lv' := [(2, .int u_4), (0, .ref (ad 0)), (1, .int p1)]) hx hb dX7_serve_21 rfl hl (by decide) rfl (fun ls hl => ?_)
    refine lv_aload_n hx hb dX7_serve_22 rfl (lv_at hl 1 rfl) ?_
    refine gX7_0_10 C0 hK hP wm_2_23 dX7_serve_23 ?_
    refine lv_iload_n hx hb dX7_serve_26 rfl (lv_at hl 2 rfl) ?_
    obtain ⟨u_6, hc_7, hd⟩ := bd hd
    refine cv_v (rest := []) C0 (mX2_removeAt l dC dI cI cJ cZ (ad 26) (ad 27) (ad 28) (ad 29) (σ.2.1 16) (σ.2.1 17) (σ.2.2 4) (σ.1 9) p1 hc_7 _) gv_X7_148 yd_X2_removeAt ⟨rfl, rfl, Nat.le_of_ble_eq_true rfl, Nat.le_of_ble_eq_true rfl, Nat.zero_le _, Nat.zero_le _⟩ xT_b xT_w hK hP hD hS hA 26 4 (tC_asks rfl rfl rfl rfl) hl.1 rfl (Nat.le_of_ble_eq_true rfl) dX7_serve_27 2 26 rfl rfl (tN_asks_rows_causes_values_size ) (fun H locs hP hD hS => ?_)
    refine lv_aload_n hx hb dX7_serve_30 rfl (lv_at hl 1 rfl) ?_
    refine gX7_0_2 C0 hK hP wm_2_0 dX7_serve_31 ?_
    refine lv_bipush (v := 7) hx hb dX7_serve_34 (by decide) ?_
    refine lX7_1 C0 hK hP ((sI_A).trans ((sL_A).trans ((sA_n (by decide)).trans (sA_n (by decide))))) (by unfold vp_in; decide) dX7_serve_36 ?_
    refine lv_iconst (v := 1) hx hb dX7_serve_37 (by decide) ?_
    refine lv_icmp_ne (tgt := 45) hx hb dX7_serve_38 (by decide) (fun c_8 => ?_) (fun c_8 => ?_)
    · replace hd := i_e hd c_8
      refine lv_iconst (v := 0) hx hb dX7_serve_45 (by decide) ?_
      exact bX7_serve_46 C0 hK hX hA  _ hd _ _ _ hP hD hS (lv_sub hl [1, 0] rfl)
    · replace hd := i_t hd c_8
      refine lv_iconst (v := 1) hx hb dX7_serve_41 (by decide) ?_
      refine lv_goto (tgt := 46) hx hb dX7_serve_42 (by decide) ?_
      exact bX7_serve_46 C0 hK hX hA  _ hd _ _ _ hP hD hS (lv_sub hl [1, 0] rfl)
  · replace hd := i_t hd c_3
    refine lv_iconst (v := (-1)) hx hb dX7_serve_11 (by decide) ?_
    obtain rfl := Option.some.inj hd
    exact my_iret C0 hK hP hD hS dX7_serve_12
def fX7_refuse (n : Nat) (σ : St) (p1 : Int32) (p2 : Int32) : Option (Int32 × St) := (fX2_has (σ.2.1 16) (σ.2.1 17) (σ.2.2 4) (σ.1 9) p1).bind (fun u_1 => if u_1 = 0 then (some ((-1 : Int32), σ)) else ((fX7_isCause σ p2).bind (fun u_4 => if u_4 = 0 then (some ((-1 : Int32), σ)) else ((fX2_rowAt (σ.2.1 16) (σ.2.1 17) (σ.2.2 4) (σ.1 9) p1).bind (fun u_7 => (fX2_removeAt (σ.2.1 16) (σ.2.1 17) (σ.2.2 4) (σ.1 9) p1).bind (fun u_9 => (fX2_setOut (σ.2.1 18) (σ.2.1 19) (σ.2.2 5) (σ.1 10) u_7 p2 (0 : Int64)).bind (fun u_11 => (fX7_goOn n (sI (sL (sA (sA (sI (sL (sA (sA σ 16 u_9.1) 17 u_9.2.1) 4 u_9.2.2.1) 9 u_9.2.2.2) 18 u_11.1) 19 u_11.2.1) 5 u_11.2.2.1) 10 u_11.2.2.2)).bind (fun u_13 => some ((0 : Int32), u_13)))))))))
set_option maxHeartbeats 4000000 in
set_option maxRecDepth 100000 in
theorem mX7_refuse (l : Launch) (dC : Nat → ClassId) (dI : Nat → Nat → Nat) (cI cJ cZ : ClassId) (ad : Nat → Nat) (n : Nat) (σ : St) (p1 : Int32) (p2 : Int32) {r : Int32 × St} (hd : fX7_refuse n σ p1 p2 = some r) (sz : Nat)  : Met l yX7_refuse (wS yX7_refuse cX7_refuse 4 (some .int)) { frames := 5, cells := 0, slots := 0, locals := 110 } (pC (dC, dI) (kT cI cJ cZ) xC (vX7 cI cJ cZ ad σ) sz [.ref (ad 0), .int p1, .int p2]) (qI (dC, dI) (kT cI cJ cZ) (vX7 cI cJ cZ ad r.2) (va_A (vX7 cI cJ cZ ad σ) sz) r.1) 0 0 (va_A (vX7 cI cJ cZ ad σ) sz) := by
  refine my_ent (fun A => qI (dC, dI) (kT cI cJ cZ) (vX7 cI cJ cZ ad r.2) A r.1) (by decide) (Nat.le_of_ble_eq_true rfl) ?_
  intro p e s m below meth c A hAe hnm C0 hK hX hP hD hA hS ls hl
  obtain ⟨hx, hb, hml, hown, hT, hr, hlocks⟩ := id C0
  unfold fX7_refuse at hd
  have hl : lv_has ls 4 [(0, .ref (ad 0)), (1, .int p1), (2, .int p2)] := hl
  refine lv_aload_n hx hb dX7_refuse_0 rfl (lv_at hl 0 rfl) ?_
  refine gX7_0_10 C0 hK hP wm_2_23 dX7_refuse_1 ?_
  refine lv_iload_n hx hb dX7_refuse_4 rfl (lv_at hl 1 rfl) ?_
  obtain ⟨u_1, hc_2, hd⟩ := bd hd
  refine cv_i (rest := []) C0 (mX2_has l dC dI cI cJ cZ (ad 26) (ad 27) (ad 28) (ad 29) (σ.2.1 16) (σ.2.1 17) (σ.2.2 4) (σ.1 9) p1 hc_2 _) gv_X7_140 yd_X2_has ⟨rfl, rfl, Nat.le_of_ble_eq_true rfl, Nat.le_of_ble_eq_true rfl, Nat.zero_le _, Nat.zero_le _⟩ xT_b xT_w hK hP hD hS hA 26 4 (tC_asks rfl rfl rfl rfl) hl.1 rfl (Nat.le_of_ble_eq_true rfl) dX7_refuse_5 2 26 rfl rfl (tN_asks_ rfl rfl rfl rfl) (fun H locs hP hD hS => ?_)
  refine lv_if_eq (tgt := 19) hx hb dX7_refuse_8 (by decide) (fun c_3 => ?_) (fun c_3 => ?_)
  · replace hd := i_t hd c_3
    refine lv_iconst (v := (-1)) hx hb dX7_refuse_19 (by decide) ?_
    obtain rfl := Option.some.inj hd
    exact my_iret C0 hK hP hD hS dX7_refuse_20
  · replace hd := i_e hd c_3
    refine lv_aload_n hx hb dX7_refuse_11 rfl (lv_at hl 0 rfl) ?_
    refine lv_iload_n hx hb dX7_refuse_12 rfl (lv_at hl 2 rfl) ?_
    obtain ⟨u_4, hc_5, hd⟩ := bd hd
    refine cw_i (rest := []) C0 (mX7_isCause l dC dI cI cJ cZ ad σ p2 hc_5 _) gv_X7_169 yd_X7_isCause ⟨rfl, rfl, Nat.le_of_ble_eq_true rfl, Nat.le_of_ble_eq_true rfl, Nat.zero_le _, Nat.zero_le _⟩ xC_b (fun U h => xC_w h hX) hK hP hD hS hA hl.1 rfl (Nat.le_of_ble_eq_true rfl) dX7_refuse_13 7 0 rfl rfl (fun H locs hP hD hS => ?_)
    refine lv_if_ne (tgt := 21) hx hb dX7_refuse_16 (by decide) (fun c_6 => ?_) (fun c_6 => ?_)
    · replace hd := i_e hd c_6
      refine lv_aload_n hx hb dX7_refuse_21 rfl (lv_at hl 0 rfl) ?_
      refine gX7_0_10 C0 hK hP wm_2_23 dX7_refuse_22 ?_
      refine lv_iload_n hx hb dX7_refuse_25 rfl (lv_at hl 1 rfl) ?_
      obtain ⟨u_7, hc_8, hd⟩ := bd hd
      refine cv_i (rest := []) C0 (mX2_rowAt l dC dI cI cJ cZ (ad 26) (ad 27) (ad 28) (ad 29) (σ.2.1 16) (σ.2.1 17) (σ.2.2 4) (σ.1 9) p1 hc_8 _) gv_X7_144 yd_X2_rowAt ⟨rfl, rfl, Nat.le_of_ble_eq_true rfl, Nat.le_of_ble_eq_true rfl, Nat.zero_le _, Nat.zero_le _⟩ xT_b xT_w hK hP hD hS hA 26 4 (tC_asks rfl rfl rfl rfl) hl.1 rfl (Nat.le_of_ble_eq_true rfl) dX7_refuse_26 2 26 rfl rfl (tN_asks_ rfl rfl rfl rfl) (fun H locs hP hD hS => ?_)
      refine lv_istore_n (lv' := [(3, .int u_7), (0, .ref (ad 0)), (1, .int p1), (2, .int p2)]) hx hb dX7_refuse_29 rfl hl (by decide) rfl (fun ls hl => ?_)
      refine lv_aload_n hx hb dX7_refuse_30 rfl (lv_at hl 1 rfl) ?_
      refine gX7_0_10 C0 hK hP wm_2_23 dX7_refuse_31 ?_
      refine lv_iload_n hx hb dX7_refuse_34 rfl (lv_at hl 2 rfl) ?_
      obtain ⟨u_9, hc_10, hd⟩ := bd hd
      refine cv_v (rest := []) C0 (mX2_removeAt l dC dI cI cJ cZ (ad 26) (ad 27) (ad 28) (ad 29) (σ.2.1 16) (σ.2.1 17) (σ.2.2 4) (σ.1 9) p1 hc_10 _) gv_X7_148 yd_X2_removeAt ⟨rfl, rfl, Nat.le_of_ble_eq_true rfl, Nat.le_of_ble_eq_true rfl, Nat.zero_le _, Nat.zero_le _⟩ xT_b xT_w hK hP hD hS hA 26 4 (tC_asks rfl rfl rfl rfl) hl.1 rfl (Nat.le_of_ble_eq_true rfl) dX7_refuse_35 2 26 rfl rfl (tN_asks_rows_causes_values_size ) (fun H locs hP hD hS => ?_)
      refine lv_aload_n hx hb dX7_refuse_38 rfl (lv_at hl 1 rfl) ?_
      refine gX7_0_11 C0 hK hP wm_3_0 dX7_refuse_39 ?_
      refine lv_iload_n hx hb dX7_refuse_42 rfl (lv_at hl 0 rfl) ?_
      refine lv_iload_n hx hb dX7_refuse_43 rfl (lv_at hl 3 rfl) ?_
      refine lv_lconst (v := 0) hx hb dX7_refuse_44 (by decide) ?_
      obtain ⟨u_11, hc_12, hd⟩ := bd hd
      refine cv_v (rest := []) C0 (mX2_setOut l dC dI cI cJ cZ (ad 30) (ad 31) (ad 32) (ad 33) (σ.2.1 18) (σ.2.1 19) (σ.2.2 5) (σ.1 10) u_7 p2 (0 : Int64) hc_12 _) gv_X7_165 yd_X2_setOut ⟨rfl, rfl, Nat.le_of_ble_eq_true rfl, Nat.le_of_ble_eq_true rfl, Nat.zero_le _, Nat.zero_le _⟩ xT_b xT_w hK hP hD hS hA 30 4 (tC_answers ((sI_A).trans ((sL_A).trans ((sA_n (by decide)).trans (sA_n (by decide))))) ((sI_A).trans ((sL_A).trans ((sA_n (by decide)).trans (sA_n (by decide))))) ((sI_L).trans ((sL_n (by decide)).trans ((sA_L).trans (sA_L)))) ((sI_n (by decide)).trans ((sL_I).trans ((sA_I).trans (sA_I))))) hl.1 rfl (Nat.le_of_ble_eq_true rfl) dX7_refuse_45 2 30 rfl rfl (tN_answers_rows_causes_values_size ) (fun H locs hP hD hS => ?_)
      refine lv_aload_n hx hb dX7_refuse_48 rfl (lv_at hl 1 rfl) ?_
      obtain ⟨u_13, hc_14, hd⟩ := bd hd
      refine cw_v (rest := []) C0 (mX7_goOn l dC dI cI cJ cZ ad n (sI (sL (sA (sA (sI (sL (sA (sA σ 16 u_9.1) 17 u_9.2.1) 4 u_9.2.2.1) 9 u_9.2.2.2) 18 u_11.1) 19 u_11.2.1) 5 u_11.2.2.1) 10 u_11.2.2.2)  hc_14 _) gv_X7_117 yd_X7_goOn ⟨rfl, rfl, Nat.le_of_ble_eq_true rfl, Nat.le_of_ble_eq_true rfl, Nat.zero_le _, Nat.zero_le _⟩ xC_b (fun U h => xC_w h hX) hK hP hD hS hA hl.1 rfl (Nat.le_of_ble_eq_true rfl) dX7_refuse_49 7 0 rfl rfl (fun H locs hP hD hS => ?_)
      refine lv_iconst (v := 0) hx hb dX7_refuse_52 (by decide) ?_
      obtain rfl := Option.some.inj hd
      exact my_iret C0 hK hP hD hS dX7_refuse_53
    · replace hd := i_t hd c_6
      refine lv_iconst (v := (-1)) hx hb dX7_refuse_19 (by decide) ?_
      obtain rfl := Option.some.inj hd
      exact my_iret C0 hK hP hD hS dX7_refuse_20
def fX7_arrive_77 (n : Nat)  (a : St × Int32) : Option (Int32 × St) := (fX7_goOn n a.1).bind (fun u_18 => if a.2 = 0 then (some ((0 : Int32), u_18)) else (some ((1 : Int32), u_18)))
set_option maxHeartbeats 4000000 in
set_option maxRecDepth 100000 in
theorem bX7_arrive_77 {p : Program} {l : Launch} {e : Env} {s : State} {m : MethodId} {args : Array Value} {below : List Frame} {meth : Method} {c : Code} {A : Nat → Prop} {dC : Nat → ClassId} {dI : Nat → Nat → Nat} {cI cJ cZ : ClassId} {ad : Nat → Nat} {r : Int32 × St} {n : Nat} (C0 : cx p s m args meth c cX7_arrive 7 RX7 (some .int)) (hK : va_K (dC, dI) vwCl (kT cI cJ cZ) s) (hX : xC s) (hA : ∀ q : Nat, s.heap.size ≤ q → A q)  : ∀ (a : St × Int32), fX7_arrive_77 n  a = some r → ∀ (H : Heap) (locs : List Loc) (ls : Array Slot), va_P (dC, dI) vwCl (vX7 cI cJ cZ ad a.1) H → va_D A (vX7 cI cJ cZ ad a.1) → va_S A s.heap H locs → lv_has ls 7 [(0, .ref (ad 0))] → W p l e ({ frames := 6, cells := 0, slots := 0, locals := 140 } : Room) s m args below meth c H locs 0 0 (MQ below (qI (dC, dI) (kT cI cJ cZ) (vX7 cI cJ cZ ad r.2) A r.1) args s 0 0 A) (F0 m 77 ls [.int a.2]) := by
  obtain ⟨hx, hb, hml, hown, hT, hr, hlocks⟩ := id C0
  intro a hd H locs ls hP hD hS hl
  unfold fX7_arrive_77 at hd
  refine lv_istore (lv' := [(6, .int a.2), (0, .ref (ad 0))]) hx hb dX7_arrive_77 hl (by decide) rfl (fun ls hl => ?_)
  refine lv_aload_n hx hb dX7_arrive_79 rfl (lv_at hl 1 rfl) ?_
  obtain ⟨u_18, hc_19, hd⟩ := bd hd
  refine cw_v (rest := []) C0 (mX7_goOn l dC dI cI cJ cZ ad n a.1  hc_19 _) gv_X7_117 yd_X7_goOn ⟨rfl, rfl, Nat.le_of_ble_eq_true rfl, Nat.le_of_ble_eq_true rfl, Nat.zero_le _, Nat.zero_le _⟩ xC_b (fun U h => xC_w h hX) hK hP hD hS hA hl.1 rfl (Nat.le_of_ble_eq_true rfl) dX7_arrive_80 7 0 rfl rfl (fun H locs hP hD hS => ?_)
  refine lv_iload hx hb dX7_arrive_83 (lv_at hl 0 rfl) ?_
  refine lv_if_eq (tgt := 92) hx hb dX7_arrive_85 (by decide) (fun c_20 => ?_) (fun c_20 => ?_)
  · replace hd := i_t hd c_20
    refine lv_iconst (v := 0) hx hb dX7_arrive_92 (by decide) ?_
    obtain rfl := Option.some.inj hd
    exact my_iret C0 hK hP hD hS dX7_arrive_93
  · replace hd := i_e hd c_20
    refine lv_iconst (v := 1) hx hb dX7_arrive_88 (by decide) ?_
    refine lv_goto (tgt := 93) hx hb dX7_arrive_89 (by decide) ?_
    obtain rfl := Option.some.inj hd
    exact my_iret C0 hK hP hD hS dX7_arrive_93
def fX7_arrive_76 (n : Nat)  (a : St) : Option (Int32 × St) := fX7_arrive_77 n  (a, (0 : Int32))
set_option maxHeartbeats 4000000 in
set_option maxRecDepth 100000 in
theorem bX7_arrive_76 {p : Program} {l : Launch} {e : Env} {s : State} {m : MethodId} {args : Array Value} {below : List Frame} {meth : Method} {c : Code} {A : Nat → Prop} {dC : Nat → ClassId} {dI : Nat → Nat → Nat} {cI cJ cZ : ClassId} {ad : Nat → Nat} {r : Int32 × St} {n : Nat} (C0 : cx p s m args meth c cX7_arrive 7 RX7 (some .int)) (hK : va_K (dC, dI) vwCl (kT cI cJ cZ) s) (hX : xC s) (hA : ∀ q : Nat, s.heap.size ≤ q → A q)  : ∀ (a : St), fX7_arrive_76 n  a = some r → ∀ (H : Heap) (locs : List Loc) (ls : Array Slot), va_P (dC, dI) vwCl (vX7 cI cJ cZ ad a) H → va_D A (vX7 cI cJ cZ ad a) → va_S A s.heap H locs → lv_has ls 7 [(0, .ref (ad 0))] → W p l e ({ frames := 6, cells := 0, slots := 0, locals := 140 } : Room) s m args below meth c H locs 0 0 (MQ below (qI (dC, dI) (kT cI cJ cZ) (vX7 cI cJ cZ ad r.2) A r.1) args s 0 0 A) (F0 m 76 ls []) := by
  obtain ⟨hx, hb, hml, hown, hT, hr, hlocks⟩ := id C0
  intro a hd H locs ls hP hD hS hl
  unfold fX7_arrive_76 at hd
  refine lv_iconst (v := 0) hx hb dX7_arrive_76 (by decide) ?_
  exact bX7_arrive_77 C0 hK hX hA  _ hd _ _ _ hP hD hS (lv_sub hl [0] rfl)
def fX7_arrive (n : Nat) (σ : St) (p1 : Int32) : Option (Int32 × St) := (fX2_has (σ.2.1 18) (σ.2.1 19) (σ.2.2 5) (σ.1 10) p1).bind (fun u_1 => if u_1 = 0 then (some ((-1 : Int32), σ)) else ((fX2_rowAt (σ.2.1 18) (σ.2.1 19) (σ.2.2 5) (σ.1 10) p1).bind (fun u_4 => (fX2_causeAt (σ.2.1 18) (σ.2.1 19) (σ.2.2 5) (σ.1 10) p1).bind (fun u_6 => (fX2_valueAt (σ.2.1 18) (σ.2.1 19) (σ.2.2 5) (σ.1 10) p1).bind (fun u_8 => (fX2_removeAt (σ.2.1 18) (σ.2.1 19) (σ.2.2 5) (σ.1 10) p1).bind (fun u_10 => (fX4_stateOf (σ.2.1 3) (σ.2.1 4) (σ.2.1 5) (σ.2.2 2) (σ.1 2) (σ.1 3) (σ.1 16) (σ.1 17) u_4).bind (fun u_12 => if u_12 = (1 : Int32) then ((fX7_takeAnswer n (sI (sL (sA (sA σ 18 u_10.1) 19 u_10.2.1) 5 u_10.2.2.1) 10 u_10.2.2.2) u_4 u_6 u_8).bind (fun u_15 => if u_15.1 = 0 then (fX7_arrive_76 n  u_15.2) else (fX7_arrive_77 n  (u_15.2, (1 : Int32))))) else (fX7_arrive_76 n  (sI (sL (sA (sA σ 18 u_10.1) 19 u_10.2.1) 5 u_10.2.2.1) 10 u_10.2.2.2)))))))))
set_option maxHeartbeats 4000000 in
set_option maxRecDepth 100000 in
theorem mX7_arrive (l : Launch) (dC : Nat → ClassId) (dI : Nat → Nat → Nat) (cI cJ cZ : ClassId) (ad : Nat → Nat) (n : Nat) (σ : St) (p1 : Int32) {r : Int32 × St} (hd : fX7_arrive n σ p1 = some r) (sz : Nat)  : Met l yX7_arrive (wS yX7_arrive cX7_arrive 7 (some .int)) { frames := 6, cells := 0, slots := 0, locals := 140 } (pC (dC, dI) (kT cI cJ cZ) xC (vX7 cI cJ cZ ad σ) sz [.ref (ad 0), .int p1]) (qI (dC, dI) (kT cI cJ cZ) (vX7 cI cJ cZ ad r.2) (va_A (vX7 cI cJ cZ ad σ) sz) r.1) 0 0 (va_A (vX7 cI cJ cZ ad σ) sz) := by
  refine my_ent (fun A => qI (dC, dI) (kT cI cJ cZ) (vX7 cI cJ cZ ad r.2) A r.1) (by decide) (Nat.le_of_ble_eq_true rfl) ?_
  intro p e s m below meth c A hAe hnm C0 hK hX hP hD hA hS ls hl
  obtain ⟨hx, hb, hml, hown, hT, hr, hlocks⟩ := id C0
  unfold fX7_arrive at hd
  have hl : lv_has ls 7 [(0, .ref (ad 0)), (1, .int p1)] := hl
  refine lv_aload_n hx hb dX7_arrive_0 rfl (lv_at hl 0 rfl) ?_
  refine gX7_0_11 C0 hK hP wm_3_0 dX7_arrive_1 ?_
  refine lv_iload_n hx hb dX7_arrive_4 rfl (lv_at hl 1 rfl) ?_
  obtain ⟨u_1, hc_2, hd⟩ := bd hd
  refine cv_i (rest := []) C0 (mX2_has l dC dI cI cJ cZ (ad 30) (ad 31) (ad 32) (ad 33) (σ.2.1 18) (σ.2.1 19) (σ.2.2 5) (σ.1 10) p1 hc_2 _) gv_X7_140 yd_X2_has ⟨rfl, rfl, Nat.le_of_ble_eq_true rfl, Nat.le_of_ble_eq_true rfl, Nat.zero_le _, Nat.zero_le _⟩ xT_b xT_w hK hP hD hS hA 30 4 (tC_answers rfl rfl rfl rfl) hl.1 rfl (Nat.le_of_ble_eq_true rfl) dX7_arrive_5 2 30 rfl rfl (tN_answers_ rfl rfl rfl rfl) (fun H locs hP hD hS => ?_)
  refine lv_if_ne (tgt := 13) hx hb dX7_arrive_8 (by decide) (fun c_3 => ?_) (fun c_3 => ?_)
  · replace hd := i_e hd c_3
    refine lv_aload_n hx hb dX7_arrive_13 rfl (lv_at hl 0 rfl) ?_
    refine gX7_0_11 C0 hK hP wm_3_0 dX7_arrive_14 ?_
    refine lv_iload_n hx hb dX7_arrive_17 rfl (lv_at hl 1 rfl) ?_
    obtain ⟨u_4, hc_5, hd⟩ := bd hd
    refine cv_i (rest := []) C0 (mX2_rowAt l dC dI cI cJ cZ (ad 30) (ad 31) (ad 32) (ad 33) (σ.2.1 18) (σ.2.1 19) (σ.2.2 5) (σ.1 10) p1 hc_5 _) gv_X7_144 yd_X2_rowAt ⟨rfl, rfl, Nat.le_of_ble_eq_true rfl, Nat.le_of_ble_eq_true rfl, Nat.zero_le _, Nat.zero_le _⟩ xT_b xT_w hK hP hD hS hA 30 4 (tC_answers rfl rfl rfl rfl) hl.1 rfl (Nat.le_of_ble_eq_true rfl) dX7_arrive_18 2 30 rfl rfl (tN_answers_ rfl rfl rfl rfl) (fun H locs hP hD hS => ?_)
    refine lv_istore_n (lv' := [(2, .int u_4), (0, .ref (ad 0)), (1, .int p1)]) hx hb dX7_arrive_21 rfl hl (by decide) rfl (fun ls hl => ?_)
    refine lv_aload_n hx hb dX7_arrive_22 rfl (lv_at hl 1 rfl) ?_
    refine gX7_0_11 C0 hK hP wm_3_0 dX7_arrive_23 ?_
    refine lv_iload_n hx hb dX7_arrive_26 rfl (lv_at hl 2 rfl) ?_
    obtain ⟨u_6, hc_7, hd⟩ := bd hd
    refine cv_i (rest := []) C0 (mX2_causeAt l dC dI cI cJ cZ (ad 30) (ad 31) (ad 32) (ad 33) (σ.2.1 18) (σ.2.1 19) (σ.2.2 5) (σ.1 10) p1 hc_7 _) gv_X7_172 yd_X2_causeAt ⟨rfl, rfl, Nat.le_of_ble_eq_true rfl, Nat.le_of_ble_eq_true rfl, Nat.zero_le _, Nat.zero_le _⟩ xT_b xT_w hK hP hD hS hA 30 4 (tC_answers rfl rfl rfl rfl) hl.1 rfl (Nat.le_of_ble_eq_true rfl) dX7_arrive_27 2 30 rfl rfl (tN_answers_ rfl rfl rfl rfl) (fun H locs hP hD hS => ?_)
    refine lv_istore_n (lv' := [(3, .int u_6), (2, .int u_4), (0, .ref (ad 0)), (1, .int p1)]) hx hb dX7_arrive_30 rfl hl (by decide) rfl (fun ls hl => ?_)
    refine lv_aload_n hx hb dX7_arrive_31 rfl (lv_at hl 2 rfl) ?_
    refine gX7_0_11 C0 hK hP wm_3_0 dX7_arrive_32 ?_
    refine lv_iload_n hx hb dX7_arrive_35 rfl (lv_at hl 3 rfl) ?_
    obtain ⟨u_8, hc_9, hd⟩ := bd hd
    refine cv_l (rest := []) C0 (mX2_valueAt l dC dI cI cJ cZ (ad 30) (ad 31) (ad 32) (ad 33) (σ.2.1 18) (σ.2.1 19) (σ.2.2 5) (σ.1 10) p1 hc_9 _) gv_X7_175 yd_X2_valueAt ⟨rfl, rfl, Nat.le_of_ble_eq_true rfl, Nat.le_of_ble_eq_true rfl, Nat.zero_le _, Nat.zero_le _⟩ xT_b xT_w hK hP hD hS hA 30 4 (tC_answers rfl rfl rfl rfl) hl.1 rfl (Nat.le_of_ble_eq_true rfl) dX7_arrive_36 2 30 rfl rfl (tN_answers_ rfl rfl rfl rfl) (fun H locs hP hD hS => ?_)
    refine lv_lstore (lv' := [(4, .long u_8), (3, .int u_6), (2, .int u_4), (0, .ref (ad 0)), (1, .int p1)]) hx hb dX7_arrive_39 hl (by decide) rfl (fun ls hl => ?_)
    refine lv_aload_n hx hb dX7_arrive_41 rfl (lv_at hl 3 rfl) ?_
    refine gX7_0_11 C0 hK hP wm_3_0 dX7_arrive_42 ?_
    refine lv_iload_n hx hb dX7_arrive_45 rfl (lv_at hl 4 rfl) ?_
    obtain ⟨u_10, hc_11, hd⟩ := bd hd
    refine cv_v (rest := []) C0 (mX2_removeAt l dC dI cI cJ cZ (ad 30) (ad 31) (ad 32) (ad 33) (σ.2.1 18) (σ.2.1 19) (σ.2.2 5) (σ.1 10) p1 hc_11 _) gv_X7_148 yd_X2_removeAt ⟨rfl, rfl, Nat.le_of_ble_eq_true rfl, Nat.le_of_ble_eq_true rfl, Nat.zero_le _, Nat.zero_le _⟩ xT_b xT_w hK hP hD hS hA 30 4 (tC_answers rfl rfl rfl rfl) hl.1 rfl (Nat.le_of_ble_eq_true rfl) dX7_arrive_46 2 30 rfl rfl (tN_answers_rows_causes_values_size ) (fun H locs hP hD hS => ?_)
    refine lv_aload_n hx hb dX7_arrive_49 rfl (lv_at hl 3 rfl) ?_
    refine gX7_0_4 C0 hK hP wm_2_8 dX7_arrive_50 ?_
    refine lv_iload_n hx hb dX7_arrive_53 rfl (lv_at hl 2 rfl) ?_
    obtain ⟨u_12, hc_13, hd⟩ := bd hd
    refine cv_i (rest := []) C0 (mX4_stateOf l dC dI cI cJ cZ (ad 7) (ad 8) (ad 9) (ad 10) (ad 11) (σ.2.1 3) (σ.2.1 4) (σ.2.1 5) (σ.2.2 2) (σ.1 2) (σ.1 3) (σ.1 16) (σ.1 17) u_4 hc_13 _) gv_X7_178 yd_X4_stateOf ⟨rfl, rfl, Nat.le_of_ble_eq_true rfl, Nat.le_of_ble_eq_true rfl, Nat.zero_le _, Nat.zero_le _⟩ xT_b xT_w hK hP hD hS hA 7 5 (tC_live ((sI_A).trans ((sL_A).trans ((sA_n (by decide)).trans (sA_n (by decide))))) ((sI_A).trans ((sL_A).trans ((sA_n (by decide)).trans (sA_n (by decide))))) ((sI_A).trans ((sL_A).trans ((sA_n (by decide)).trans (sA_n (by decide))))) ((sI_L).trans ((sL_n (by decide)).trans ((sA_L).trans (sA_L)))) ((sI_n (by decide)).trans ((sL_I).trans ((sA_I).trans (sA_I)))) ((sI_n (by decide)).trans ((sL_I).trans ((sA_I).trans (sA_I)))) ((sI_n (by decide)).trans ((sL_I).trans ((sA_I).trans (sA_I)))) ((sI_n (by decide)).trans ((sL_I).trans ((sA_I).trans (sA_I))))) hl.1 rfl (Nat.le_of_ble_eq_true rfl) dX7_arrive_54 4 7 rfl rfl (tN_live_ ((sI_A).trans ((sL_A).trans ((sA_n (by decide)).trans (sA_n (by decide))))) ((sI_A).trans ((sL_A).trans ((sA_n (by decide)).trans (sA_n (by decide))))) ((sI_A).trans ((sL_A).trans ((sA_n (by decide)).trans (sA_n (by decide))))) ((sI_L).trans ((sL_n (by decide)).trans ((sA_L).trans (sA_L)))) ((sI_n (by decide)).trans ((sL_I).trans ((sA_I).trans (sA_I)))) ((sI_n (by decide)).trans ((sL_I).trans ((sA_I).trans (sA_I)))) ((sI_n (by decide)).trans ((sL_I).trans ((sA_I).trans (sA_I)))) ((sI_n (by decide)).trans ((sL_I).trans ((sA_I).trans (sA_I))))) (fun H locs hP hD hS => ?_)
    refine lv_iconst (v := 1) hx hb dX7_arrive_57 (by decide) ?_
    refine lv_icmp_ne (tgt := 76) hx hb dX7_arrive_58 (by decide) (fun c_14 => ?_) (fun c_14 => ?_)
    · replace hd := i_e hd c_14
      exact bX7_arrive_76 C0 hK hX hA  _ hd _ _ _ hP hD hS (lv_sub hl [3] rfl)
    · replace hd := i_t hd c_14
      refine lv_aload_n hx hb dX7_arrive_61 rfl (lv_at hl 3 rfl) ?_
      refine lv_iload_n hx hb dX7_arrive_62 rfl (lv_at hl 2 rfl) ?_
      refine lv_iload_n hx hb dX7_arrive_63 rfl (lv_at hl 1 rfl) ?_
      refine lv_lload hx hb dX7_arrive_64 (lv_at hl 0 rfl) ?_
      obtain ⟨u_15, hc_16, hd⟩ := bd hd
      refine cw_i (rest := []) C0 (mX7_takeAnswer l dC dI cI cJ cZ ad n (sI (sL (sA (sA σ 18 u_10.1) 19 u_10.2.1) 5 u_10.2.2.1) 10 u_10.2.2.2) u_4 u_6 u_8 hc_16 _) gv_X7_181 yd_X7_takeAnswer ⟨rfl, rfl, Nat.le_of_ble_eq_true rfl, Nat.le_of_ble_eq_true rfl, Nat.zero_le _, Nat.zero_le _⟩ xC_b (fun U h => xC_w h hX) hK hP hD hS hA hl.1 rfl (Nat.le_of_ble_eq_true rfl) dX7_arrive_66 7 0 rfl rfl (fun H locs hP hD hS => ?_)
      refine lv_if_eq (tgt := 76) hx hb dX7_arrive_69 (by decide) (fun c_17 => ?_) (fun c_17 => ?_)
      · replace hd := i_t hd c_17
        exact bX7_arrive_76 C0 hK hX hA  _ hd _ _ _ hP hD hS (lv_sub hl [3] rfl)
      · replace hd := i_e hd c_17
        refine lv_iconst (v := 1) hx hb dX7_arrive_72 (by decide) ?_
        refine lv_goto (tgt := 77) hx hb dX7_arrive_73 (by decide) ?_
        exact bX7_arrive_77 C0 hK hX hA  _ hd _ _ _ hP hD hS (lv_sub hl [3] rfl)
  · replace hd := i_t hd c_3
    refine lv_iconst (v := (-1)) hx hb dX7_arrive_11 (by decide) ?_
    obtain rfl := Option.some.inj hd
    exact my_iret C0 hK hP hD hS dX7_arrive_12
def fX7_lose (n : Nat) (σ : St) (p1 : Int32) (p2 : Int32) : Option (Int32 × St) := if p1 = 0 then ((fX2_has (σ.2.1 16) (σ.2.1 17) (σ.2.2 4) (σ.1 9) p2).bind (fun u_5 => if u_5 = 0 then (some ((-1 : Int32), σ)) else ((fX2_removeAt (σ.2.1 16) (σ.2.1 17) (σ.2.2 4) (σ.1 9) p2).bind (fun u_8 => (fX7_goOn n (sI (sL (sA (sA σ 16 u_8.1) 17 u_8.2.1) 4 u_8.2.2.1) 9 u_8.2.2.2)).bind (fun u_10 => some (u_10.1 9, u_10)))))) else (if p1 = 1 then ((fX2_has (σ.2.1 18) (σ.2.1 19) (σ.2.2 5) (σ.1 10) p2).bind (fun u_12 => if u_12 = 0 then (some ((-1 : Int32), σ)) else ((fX2_removeAt (σ.2.1 18) (σ.2.1 19) (σ.2.2 5) (σ.1 10) p2).bind (fun u_15 => (fX7_goOn n (sI (sL (sA (sA σ 18 u_15.1) 19 u_15.2.1) 5 u_15.2.2.1) 10 u_15.2.2.2)).bind (fun u_17 => some (u_17.1 10, u_17)))))) else (some ((-1 : Int32), σ)))
set_option maxHeartbeats 4000000 in
set_option maxRecDepth 100000 in
theorem mX7_lose (l : Launch) (dC : Nat → ClassId) (dI : Nat → Nat → Nat) (cI cJ cZ : ClassId) (ad : Nat → Nat) (n : Nat) (σ : St) (p1 : Int32) (p2 : Int32) {r : Int32 × St} (hd : fX7_lose n σ p1 p2 = some r) (sz : Nat)  : Met l yX7_lose (wS yX7_lose cX7_lose 4 (some .int)) { frames := 5, cells := 0, slots := 0, locals := 110 } (pC (dC, dI) (kT cI cJ cZ) xC (vX7 cI cJ cZ ad σ) sz [.ref (ad 0), .int p1, .int p2]) (qI (dC, dI) (kT cI cJ cZ) (vX7 cI cJ cZ ad r.2) (va_A (vX7 cI cJ cZ ad σ) sz) r.1) 0 0 (va_A (vX7 cI cJ cZ ad σ) sz) := by
  refine my_ent (fun A => qI (dC, dI) (kT cI cJ cZ) (vX7 cI cJ cZ ad r.2) A r.1) (by decide) (Nat.le_of_ble_eq_true rfl) ?_
  intro p e s m below meth c A hAe hnm C0 hK hX hP hD hA hS ls hl
  obtain ⟨hx, hb, hml, hown, hT, hr, hlocks⟩ := id C0
  unfold fX7_lose at hd
  have hl : lv_has ls 4 [(0, .ref (ad 0)), (1, .int p1), (2, .int p2)] := hl
  refine lv_aload_n hx hb dX7_lose_0 rfl (lv_at hl 0 rfl) ?_
  refine lv_iload_n hx hb dX7_lose_1 rfl (lv_at hl 1 rfl) ?_
  by_cases c_3 : p1 = 0
  · replace hd := i_t hd c_3
    refine cw_q (r0 := some (ad 26)) (rest := []) C0 (mX7_lineOf l dC dI cI cJ cZ ad σ p1 (by unfold fX7_lineOf; rw [if_pos c_3]) _) gv_X7_185 yd_X7_lineOf ⟨rfl, rfl, Nat.le_of_ble_eq_true rfl, Nat.le_of_ble_eq_true rfl, Nat.zero_le _, Nat.zero_le _⟩ xC_b (fun U h => xC_w h hX) hK hP hD hS hA hl.1 rfl (Nat.le_of_ble_eq_true rfl) dX7_lose_2 7 0 rfl rfl (fun H locs hP hD hS => ?_)
    refine W.eq (g2 := F0 m 5 ls [.ref (ad 26)]) rfl ?_
    refine lv_astore_n (lv' := [(3, .ref (ad 26)), (0, .ref (ad 0)), (1, .int p1), (2, .int p2)]) hx hb dX7_lose_5 rfl hl (by decide) rfl (fun ls hl => ?_)
    refine lv_aload_n hx hb dX7_lose_6 rfl (lv_at hl 0 rfl) ?_
    refine lv_ifnull hx hb dX7_lose_7 ?_
    refine lv_aload_n hx hb dX7_lose_10 rfl (lv_at hl 0 rfl) ?_
    refine lv_iload_n hx hb dX7_lose_11 rfl (lv_at hl 3 rfl) ?_
    obtain ⟨u_5, hc_6, hd⟩ := bd hd
    refine cv_i (rest := []) C0 (mX2_has l dC dI cI cJ cZ (ad 26) (ad 27) (ad 28) (ad 29) (σ.2.1 16) (σ.2.1 17) (σ.2.2 4) (σ.1 9) p2 hc_6 _) gv_X7_140 yd_X2_has ⟨rfl, rfl, Nat.le_of_ble_eq_true rfl, Nat.le_of_ble_eq_true rfl, Nat.zero_le _, Nat.zero_le _⟩ xT_b xT_w hK hP hD hS hA 26 4 (tC_asks rfl rfl rfl rfl) hl.1 rfl (Nat.le_of_ble_eq_true rfl) dX7_lose_12 2 26 rfl rfl (tN_asks_ rfl rfl rfl rfl) (fun H locs hP hD hS => ?_)
    refine lv_if_ne (tgt := 20) hx hb dX7_lose_15 (by decide) (fun c_7 => ?_) (fun c_7 => ?_)
    · replace hd := i_e hd c_7
      refine lv_aload_n hx hb dX7_lose_20 rfl (lv_at hl 0 rfl) ?_
      refine lv_iload_n hx hb dX7_lose_21 rfl (lv_at hl 3 rfl) ?_
      obtain ⟨u_8, hc_9, hd⟩ := bd hd
      refine cv_v (rest := []) C0 (mX2_removeAt l dC dI cI cJ cZ (ad 26) (ad 27) (ad 28) (ad 29) (σ.2.1 16) (σ.2.1 17) (σ.2.2 4) (σ.1 9) p2 hc_9 _) gv_X7_148 yd_X2_removeAt ⟨rfl, rfl, Nat.le_of_ble_eq_true rfl, Nat.le_of_ble_eq_true rfl, Nat.zero_le _, Nat.zero_le _⟩ xT_b xT_w hK hP hD hS hA 26 4 (tC_asks rfl rfl rfl rfl) hl.1 rfl (Nat.le_of_ble_eq_true rfl) dX7_lose_22 2 26 rfl rfl (tN_asks_rows_causes_values_size ) (fun H locs hP hD hS => ?_)
      refine lv_aload_n hx hb dX7_lose_25 rfl (lv_at hl 1 rfl) ?_
      obtain ⟨u_10, hc_11, hd⟩ := bd hd
      refine cw_v (rest := []) C0 (mX7_goOn l dC dI cI cJ cZ ad n (sI (sL (sA (sA σ 16 u_8.1) 17 u_8.2.1) 4 u_8.2.2.1) 9 u_8.2.2.2)  hc_11 _) gv_X7_117 yd_X7_goOn ⟨rfl, rfl, Nat.le_of_ble_eq_true rfl, Nat.le_of_ble_eq_true rfl, Nat.zero_le _, Nat.zero_le _⟩ xC_b (fun U h => xC_w h hX) hK hP hD hS hA hl.1 rfl (Nat.le_of_ble_eq_true rfl) dX7_lose_26 7 0 rfl rfl (fun H locs hP hD hS => ?_)
      refine lv_aload_n hx hb dX7_lose_29 rfl (lv_at hl 0 rfl) ?_
      refine gX7_26_3 C0 hK hP hX rfl dX7_lose_30 ?_
      obtain rfl := Option.some.inj hd
      exact my_iret C0 hK hP hD hS dX7_lose_33
    · replace hd := i_t hd c_7
      refine lv_iconst (v := (-1)) hx hb dX7_lose_18 (by decide) ?_
      obtain rfl := Option.some.inj hd
      exact my_iret C0 hK hP hD hS dX7_lose_19
  replace hd := i_e hd c_3
  by_cases c_4 : p1 = 1
  · replace hd := i_t hd c_4
    refine cw_q (r0 := some (ad 30)) (rest := []) C0 (mX7_lineOf l dC dI cI cJ cZ ad σ p1 (by unfold fX7_lineOf; rw [if_neg c_3, if_pos c_4]) _) gv_X7_185 yd_X7_lineOf ⟨rfl, rfl, Nat.le_of_ble_eq_true rfl, Nat.le_of_ble_eq_true rfl, Nat.zero_le _, Nat.zero_le _⟩ xC_b (fun U h => xC_w h hX) hK hP hD hS hA hl.1 rfl (Nat.le_of_ble_eq_true rfl) dX7_lose_2 7 0 rfl rfl (fun H locs hP hD hS => ?_)
    refine W.eq (g2 := F0 m 5 ls [.ref (ad 30)]) rfl ?_
    refine lv_astore_n (lv' := [(3, .ref (ad 30)), (0, .ref (ad 0)), (1, .int p1), (2, .int p2)]) hx hb dX7_lose_5 rfl hl (by decide) rfl (fun ls hl => ?_)
    refine lv_aload_n hx hb dX7_lose_6 rfl (lv_at hl 0 rfl) ?_
    refine lv_ifnull hx hb dX7_lose_7 ?_
    refine lv_aload_n hx hb dX7_lose_10 rfl (lv_at hl 0 rfl) ?_
    refine lv_iload_n hx hb dX7_lose_11 rfl (lv_at hl 3 rfl) ?_
    obtain ⟨u_12, hc_13, hd⟩ := bd hd
    refine cv_i (rest := []) C0 (mX2_has l dC dI cI cJ cZ (ad 30) (ad 31) (ad 32) (ad 33) (σ.2.1 18) (σ.2.1 19) (σ.2.2 5) (σ.1 10) p2 hc_13 _) gv_X7_140 yd_X2_has ⟨rfl, rfl, Nat.le_of_ble_eq_true rfl, Nat.le_of_ble_eq_true rfl, Nat.zero_le _, Nat.zero_le _⟩ xT_b xT_w hK hP hD hS hA 30 4 (tC_answers rfl rfl rfl rfl) hl.1 rfl (Nat.le_of_ble_eq_true rfl) dX7_lose_12 2 30 rfl rfl (tN_answers_ rfl rfl rfl rfl) (fun H locs hP hD hS => ?_)
    refine lv_if_ne (tgt := 20) hx hb dX7_lose_15 (by decide) (fun c_14 => ?_) (fun c_14 => ?_)
    · replace hd := i_e hd c_14
      refine lv_aload_n hx hb dX7_lose_20 rfl (lv_at hl 0 rfl) ?_
      refine lv_iload_n hx hb dX7_lose_21 rfl (lv_at hl 3 rfl) ?_
      obtain ⟨u_15, hc_16, hd⟩ := bd hd
      refine cv_v (rest := []) C0 (mX2_removeAt l dC dI cI cJ cZ (ad 30) (ad 31) (ad 32) (ad 33) (σ.2.1 18) (σ.2.1 19) (σ.2.2 5) (σ.1 10) p2 hc_16 _) gv_X7_148 yd_X2_removeAt ⟨rfl, rfl, Nat.le_of_ble_eq_true rfl, Nat.le_of_ble_eq_true rfl, Nat.zero_le _, Nat.zero_le _⟩ xT_b xT_w hK hP hD hS hA 30 4 (tC_answers rfl rfl rfl rfl) hl.1 rfl (Nat.le_of_ble_eq_true rfl) dX7_lose_22 2 30 rfl rfl (tN_answers_rows_causes_values_size ) (fun H locs hP hD hS => ?_)
      refine lv_aload_n hx hb dX7_lose_25 rfl (lv_at hl 1 rfl) ?_
      obtain ⟨u_17, hc_18, hd⟩ := bd hd
      refine cw_v (rest := []) C0 (mX7_goOn l dC dI cI cJ cZ ad n (sI (sL (sA (sA σ 18 u_15.1) 19 u_15.2.1) 5 u_15.2.2.1) 10 u_15.2.2.2)  hc_18 _) gv_X7_117 yd_X7_goOn ⟨rfl, rfl, Nat.le_of_ble_eq_true rfl, Nat.le_of_ble_eq_true rfl, Nat.zero_le _, Nat.zero_le _⟩ xC_b (fun U h => xC_w h hX) hK hP hD hS hA hl.1 rfl (Nat.le_of_ble_eq_true rfl) dX7_lose_26 7 0 rfl rfl (fun H locs hP hD hS => ?_)
      refine lv_aload_n hx hb dX7_lose_29 rfl (lv_at hl 0 rfl) ?_
      refine gX7_30_3 C0 hK hP hX rfl dX7_lose_30 ?_
      obtain rfl := Option.some.inj hd
      exact my_iret C0 hK hP hD hS dX7_lose_33
    · replace hd := i_t hd c_14
      refine lv_iconst (v := (-1)) hx hb dX7_lose_18 (by decide) ?_
      obtain rfl := Option.some.inj hd
      exact my_iret C0 hK hP hD hS dX7_lose_19
  replace hd := i_e hd c_4
  refine cw_q (r0 := none) (rest := []) C0 (mX7_lineOf l dC dI cI cJ cZ ad σ p1 (by unfold fX7_lineOf; rw [if_neg c_3, if_neg c_4]) _) gv_X7_185 yd_X7_lineOf ⟨rfl, rfl, Nat.le_of_ble_eq_true rfl, Nat.le_of_ble_eq_true rfl, Nat.zero_le _, Nat.zero_le _⟩ xC_b (fun U h => xC_w h hX) hK hP hD hS hA hl.1 rfl (Nat.le_of_ble_eq_true rfl) dX7_lose_2 7 0 rfl rfl (fun H locs hP hD hS => ?_)
  refine W.eq (g2 := F0 m 5 ls [.null]) rfl ?_
  refine lv_astore_nN (lv' := [(3, .null), (0, .ref (ad 0)), (1, .int p1), (2, .int p2)]) hx hb dX7_lose_5 rfl hl (by decide) rfl (fun ls hl => ?_)
  refine lv_aload_nN hx hb dX7_lose_6 rfl (lv_at hl 0 rfl) ?_
  refine lv_ifnullN (tgt := 18) hx hb dX7_lose_7 (by decide) ?_
  refine lv_iconst (v := (-1)) hx hb dX7_lose_18 (by decide) ?_
  obtain rfl := Option.some.inj hd
  exact my_iret C0 hK hP hD hS dX7_lose_19
def fX7_twice (n : Nat) (σ : St) (p1 : Int32) (p2 : Int32) : Option (Int32 × St) := if p1 = 0 then ((fX2_has (σ.2.1 16) (σ.2.1 17) (σ.2.2 4) (σ.1 9) p2).bind (fun u_5 => if u_5 = 0 then (some ((-1 : Int32), σ)) else (if (σ.1 9) < (100 : Int32) then ((fX2_rowAt (σ.2.1 16) (σ.2.1 17) (σ.2.2 4) (σ.1 9) p2).bind (fun u_9 => (fX2_causeAt (σ.2.1 16) (σ.2.1 17) (σ.2.2 4) (σ.1 9) p2).bind (fun u_11 => (fX2_valueAt (σ.2.1 16) (σ.2.1 17) (σ.2.2 4) (σ.1 9) p2).bind (fun u_13 => (fX2_setOut (σ.2.1 16) (σ.2.1 17) (σ.2.2 4) (σ.1 9) u_9 u_11 u_13).bind (fun u_15 => (fX7_goOn n (sI (sL (sA (sA σ 16 u_15.1) 17 u_15.2.1) 4 u_15.2.2.1) 9 u_15.2.2.2)).bind (fun u_17 => some (u_17.1 9, u_17))))))) else (some ((-4 : Int32), σ))))) else (if p1 = 1 then ((fX2_has (σ.2.1 18) (σ.2.1 19) (σ.2.2 5) (σ.1 10) p2).bind (fun u_19 => if u_19 = 0 then (some ((-1 : Int32), σ)) else (if (σ.1 10) < (100 : Int32) then ((fX2_rowAt (σ.2.1 18) (σ.2.1 19) (σ.2.2 5) (σ.1 10) p2).bind (fun u_23 => (fX2_causeAt (σ.2.1 18) (σ.2.1 19) (σ.2.2 5) (σ.1 10) p2).bind (fun u_25 => (fX2_valueAt (σ.2.1 18) (σ.2.1 19) (σ.2.2 5) (σ.1 10) p2).bind (fun u_27 => (fX2_setOut (σ.2.1 18) (σ.2.1 19) (σ.2.2 5) (σ.1 10) u_23 u_25 u_27).bind (fun u_29 => (fX7_goOn n (sI (sL (sA (sA σ 18 u_29.1) 19 u_29.2.1) 5 u_29.2.2.1) 10 u_29.2.2.2)).bind (fun u_31 => some (u_31.1 10, u_31))))))) else (some ((-4 : Int32), σ))))) else (some ((-1 : Int32), σ)))
set_option maxHeartbeats 4000000 in
set_option maxRecDepth 100000 in
theorem mX7_twice (l : Launch) (dC : Nat → ClassId) (dI : Nat → Nat → Nat) (cI cJ cZ : ClassId) (ad : Nat → Nat) (n : Nat) (σ : St) (p1 : Int32) (p2 : Int32) {r : Int32 × St} (hd : fX7_twice n σ p1 p2 = some r) (sz : Nat)  : Met l yX7_twice (wS yX7_twice cX7_twice 4 (some .int)) { frames := 5, cells := 0, slots := 0, locals := 110 } (pC (dC, dI) (kT cI cJ cZ) xC (vX7 cI cJ cZ ad σ) sz [.ref (ad 0), .int p1, .int p2]) (qI (dC, dI) (kT cI cJ cZ) (vX7 cI cJ cZ ad r.2) (va_A (vX7 cI cJ cZ ad σ) sz) r.1) 0 0 (va_A (vX7 cI cJ cZ ad σ) sz) := by
  refine my_ent (fun A => qI (dC, dI) (kT cI cJ cZ) (vX7 cI cJ cZ ad r.2) A r.1) (by decide) (Nat.le_of_ble_eq_true rfl) ?_
  intro p e s m below meth c A hAe hnm C0 hK hX hP hD hA hS ls hl
  obtain ⟨hx, hb, hml, hown, hT, hr, hlocks⟩ := id C0
  unfold fX7_twice at hd
  have hl : lv_has ls 4 [(0, .ref (ad 0)), (1, .int p1), (2, .int p2)] := hl
  refine lv_aload_n hx hb dX7_twice_0 rfl (lv_at hl 0 rfl) ?_
  refine lv_iload_n hx hb dX7_twice_1 rfl (lv_at hl 1 rfl) ?_
  by_cases c_3 : p1 = 0
  · replace hd := i_t hd c_3
    refine cw_q (r0 := some (ad 26)) (rest := []) C0 (mX7_lineOf l dC dI cI cJ cZ ad σ p1 (by unfold fX7_lineOf; rw [if_pos c_3]) _) gv_X7_185 yd_X7_lineOf ⟨rfl, rfl, Nat.le_of_ble_eq_true rfl, Nat.le_of_ble_eq_true rfl, Nat.zero_le _, Nat.zero_le _⟩ xC_b (fun U h => xC_w h hX) hK hP hD hS hA hl.1 rfl (Nat.le_of_ble_eq_true rfl) dX7_twice_2 7 0 rfl rfl (fun H locs hP hD hS => ?_)
    refine W.eq (g2 := F0 m 5 ls [.ref (ad 26)]) rfl ?_
    refine lv_astore_n (lv' := [(3, .ref (ad 26)), (0, .ref (ad 0)), (1, .int p1), (2, .int p2)]) hx hb dX7_twice_5 rfl hl (by decide) rfl (fun ls hl => ?_)
    refine lv_aload_n hx hb dX7_twice_6 rfl (lv_at hl 0 rfl) ?_
    refine lv_ifnull hx hb dX7_twice_7 ?_
    refine lv_aload_n hx hb dX7_twice_10 rfl (lv_at hl 0 rfl) ?_
    refine lv_iload_n hx hb dX7_twice_11 rfl (lv_at hl 3 rfl) ?_
    obtain ⟨u_5, hc_6, hd⟩ := bd hd
    refine cv_i (rest := []) C0 (mX2_has l dC dI cI cJ cZ (ad 26) (ad 27) (ad 28) (ad 29) (σ.2.1 16) (σ.2.1 17) (σ.2.2 4) (σ.1 9) p2 hc_6 _) gv_X7_140 yd_X2_has ⟨rfl, rfl, Nat.le_of_ble_eq_true rfl, Nat.le_of_ble_eq_true rfl, Nat.zero_le _, Nat.zero_le _⟩ xT_b xT_w hK hP hD hS hA 26 4 (tC_asks rfl rfl rfl rfl) hl.1 rfl (Nat.le_of_ble_eq_true rfl) dX7_twice_12 2 26 rfl rfl (tN_asks_ rfl rfl rfl rfl) (fun H locs hP hD hS => ?_)
    refine lv_if_ne (tgt := 20) hx hb dX7_twice_15 (by decide) (fun c_7 => ?_) (fun c_7 => ?_)
    · replace hd := i_e hd c_7
      refine lv_aload_n hx hb dX7_twice_20 rfl (lv_at hl 0 rfl) ?_
      refine gX7_26_3 C0 hK hP hX rfl dX7_twice_21 ?_
      refine lv_bipush (v := 100) hx hb dX7_twice_24 (by decide) ?_
      refine lv_icmp_lt (tgt := 32) hx hb dX7_twice_26 (by decide) (fun c_8 => ?_) (fun c_8 => ?_)
      · replace hd := i_t hd c_8
        refine lv_aload_n hx hb dX7_twice_32 rfl (lv_at hl 0 rfl) ?_
        refine lv_aload_n hx hb dX7_twice_33 rfl (lv_at hl 0 rfl) ?_
        refine lv_iload_n hx hb dX7_twice_34 rfl (lv_at hl 3 rfl) ?_
        obtain ⟨u_9, hc_10, hd⟩ := bd hd
        refine cv_i (rest := [.ref (ad 26)]) C0 (mX2_rowAt l dC dI cI cJ cZ (ad 26) (ad 27) (ad 28) (ad 29) (σ.2.1 16) (σ.2.1 17) (σ.2.2 4) (σ.1 9) p2 hc_10 _) gv_X7_144 yd_X2_rowAt ⟨rfl, rfl, Nat.le_of_ble_eq_true rfl, Nat.le_of_ble_eq_true rfl, Nat.zero_le _, Nat.zero_le _⟩ xT_b xT_w hK hP hD hS hA 26 4 (tC_asks rfl rfl rfl rfl) hl.1 rfl (Nat.le_of_ble_eq_true rfl) dX7_twice_35 2 26 rfl rfl (tN_asks_ rfl rfl rfl rfl) (fun H locs hP hD hS => ?_)
        refine lv_aload_n hx hb dX7_twice_38 rfl (lv_at hl 0 rfl) ?_
        refine lv_iload_n hx hb dX7_twice_39 rfl (lv_at hl 3 rfl) ?_
        obtain ⟨u_11, hc_12, hd⟩ := bd hd
        refine cv_i (rest := [.int u_9, .ref (ad 26)]) C0 (mX2_causeAt l dC dI cI cJ cZ (ad 26) (ad 27) (ad 28) (ad 29) (σ.2.1 16) (σ.2.1 17) (σ.2.2 4) (σ.1 9) p2 hc_12 _) gv_X7_172 yd_X2_causeAt ⟨rfl, rfl, Nat.le_of_ble_eq_true rfl, Nat.le_of_ble_eq_true rfl, Nat.zero_le _, Nat.zero_le _⟩ xT_b xT_w hK hP hD hS hA 26 4 (tC_asks rfl rfl rfl rfl) hl.1 rfl (Nat.le_of_ble_eq_true rfl) dX7_twice_40 2 26 rfl rfl (tN_asks_ rfl rfl rfl rfl) (fun H locs hP hD hS => ?_)
        refine lv_aload_n hx hb dX7_twice_43 rfl (lv_at hl 0 rfl) ?_
        refine lv_iload_n hx hb dX7_twice_44 rfl (lv_at hl 3 rfl) ?_
        obtain ⟨u_13, hc_14, hd⟩ := bd hd
        refine cv_l (rest := [.int u_11, .int u_9, .ref (ad 26)]) C0 (mX2_valueAt l dC dI cI cJ cZ (ad 26) (ad 27) (ad 28) (ad 29) (σ.2.1 16) (σ.2.1 17) (σ.2.2 4) (σ.1 9) p2 hc_14 _) gv_X7_175 yd_X2_valueAt ⟨rfl, rfl, Nat.le_of_ble_eq_true rfl, Nat.le_of_ble_eq_true rfl, Nat.zero_le _, Nat.zero_le _⟩ xT_b xT_w hK hP hD hS hA 26 4 (tC_asks rfl rfl rfl rfl) hl.1 rfl (Nat.le_of_ble_eq_true rfl) dX7_twice_45 2 26 rfl rfl (tN_asks_ rfl rfl rfl rfl) (fun H locs hP hD hS => ?_)
        obtain ⟨u_15, hc_16, hd⟩ := bd hd
        refine cv_v (rest := []) C0 (mX2_setOut l dC dI cI cJ cZ (ad 26) (ad 27) (ad 28) (ad 29) (σ.2.1 16) (σ.2.1 17) (σ.2.2 4) (σ.1 9) u_9 u_11 u_13 hc_16 _) gv_X7_165 yd_X2_setOut ⟨rfl, rfl, Nat.le_of_ble_eq_true rfl, Nat.le_of_ble_eq_true rfl, Nat.zero_le _, Nat.zero_le _⟩ xT_b xT_w hK hP hD hS hA 26 4 (tC_asks rfl rfl rfl rfl) hl.1 rfl (Nat.le_of_ble_eq_true rfl) dX7_twice_48 2 26 rfl rfl (tN_asks_rows_causes_values_size ) (fun H locs hP hD hS => ?_)
        refine lv_aload_n hx hb dX7_twice_51 rfl (lv_at hl 1 rfl) ?_
        obtain ⟨u_17, hc_18, hd⟩ := bd hd
        refine cw_v (rest := []) C0 (mX7_goOn l dC dI cI cJ cZ ad n (sI (sL (sA (sA σ 16 u_15.1) 17 u_15.2.1) 4 u_15.2.2.1) 9 u_15.2.2.2)  hc_18 _) gv_X7_117 yd_X7_goOn ⟨rfl, rfl, Nat.le_of_ble_eq_true rfl, Nat.le_of_ble_eq_true rfl, Nat.zero_le _, Nat.zero_le _⟩ xC_b (fun U h => xC_w h hX) hK hP hD hS hA hl.1 rfl (Nat.le_of_ble_eq_true rfl) dX7_twice_52 7 0 rfl rfl (fun H locs hP hD hS => ?_)
        refine lv_aload_n hx hb dX7_twice_55 rfl (lv_at hl 0 rfl) ?_
        refine gX7_26_3 C0 hK hP hX rfl dX7_twice_56 ?_
        obtain rfl := Option.some.inj hd
        exact my_iret C0 hK hP hD hS dX7_twice_59
      · replace hd := i_e hd c_8
        refine lv_bipush (v := (-4)) hx hb dX7_twice_29 (by decide) ?_
        obtain rfl := Option.some.inj hd
        exact my_iret C0 hK hP hD hS dX7_twice_31
    · replace hd := i_t hd c_7
      refine lv_iconst (v := (-1)) hx hb dX7_twice_18 (by decide) ?_
      obtain rfl := Option.some.inj hd
      exact my_iret C0 hK hP hD hS dX7_twice_19
  replace hd := i_e hd c_3
  by_cases c_4 : p1 = 1
  · replace hd := i_t hd c_4
    refine cw_q (r0 := some (ad 30)) (rest := []) C0 (mX7_lineOf l dC dI cI cJ cZ ad σ p1 (by unfold fX7_lineOf; rw [if_neg c_3, if_pos c_4]) _) gv_X7_185 yd_X7_lineOf ⟨rfl, rfl, Nat.le_of_ble_eq_true rfl, Nat.le_of_ble_eq_true rfl, Nat.zero_le _, Nat.zero_le _⟩ xC_b (fun U h => xC_w h hX) hK hP hD hS hA hl.1 rfl (Nat.le_of_ble_eq_true rfl) dX7_twice_2 7 0 rfl rfl (fun H locs hP hD hS => ?_)
    refine W.eq (g2 := F0 m 5 ls [.ref (ad 30)]) rfl ?_
    refine lv_astore_n (lv' := [(3, .ref (ad 30)), (0, .ref (ad 0)), (1, .int p1), (2, .int p2)]) hx hb dX7_twice_5 rfl hl (by decide) rfl (fun ls hl => ?_)
    refine lv_aload_n hx hb dX7_twice_6 rfl (lv_at hl 0 rfl) ?_
    refine lv_ifnull hx hb dX7_twice_7 ?_
    refine lv_aload_n hx hb dX7_twice_10 rfl (lv_at hl 0 rfl) ?_
    refine lv_iload_n hx hb dX7_twice_11 rfl (lv_at hl 3 rfl) ?_
    obtain ⟨u_19, hc_20, hd⟩ := bd hd
    refine cv_i (rest := []) C0 (mX2_has l dC dI cI cJ cZ (ad 30) (ad 31) (ad 32) (ad 33) (σ.2.1 18) (σ.2.1 19) (σ.2.2 5) (σ.1 10) p2 hc_20 _) gv_X7_140 yd_X2_has ⟨rfl, rfl, Nat.le_of_ble_eq_true rfl, Nat.le_of_ble_eq_true rfl, Nat.zero_le _, Nat.zero_le _⟩ xT_b xT_w hK hP hD hS hA 30 4 (tC_answers rfl rfl rfl rfl) hl.1 rfl (Nat.le_of_ble_eq_true rfl) dX7_twice_12 2 30 rfl rfl (tN_answers_ rfl rfl rfl rfl) (fun H locs hP hD hS => ?_)
    refine lv_if_ne (tgt := 20) hx hb dX7_twice_15 (by decide) (fun c_21 => ?_) (fun c_21 => ?_)
    · replace hd := i_e hd c_21
      refine lv_aload_n hx hb dX7_twice_20 rfl (lv_at hl 0 rfl) ?_
      refine gX7_30_3 C0 hK hP hX rfl dX7_twice_21 ?_
      refine lv_bipush (v := 100) hx hb dX7_twice_24 (by decide) ?_
      refine lv_icmp_lt (tgt := 32) hx hb dX7_twice_26 (by decide) (fun c_22 => ?_) (fun c_22 => ?_)
      · replace hd := i_t hd c_22
        refine lv_aload_n hx hb dX7_twice_32 rfl (lv_at hl 0 rfl) ?_
        refine lv_aload_n hx hb dX7_twice_33 rfl (lv_at hl 0 rfl) ?_
        refine lv_iload_n hx hb dX7_twice_34 rfl (lv_at hl 3 rfl) ?_
        obtain ⟨u_23, hc_24, hd⟩ := bd hd
        refine cv_i (rest := [.ref (ad 30)]) C0 (mX2_rowAt l dC dI cI cJ cZ (ad 30) (ad 31) (ad 32) (ad 33) (σ.2.1 18) (σ.2.1 19) (σ.2.2 5) (σ.1 10) p2 hc_24 _) gv_X7_144 yd_X2_rowAt ⟨rfl, rfl, Nat.le_of_ble_eq_true rfl, Nat.le_of_ble_eq_true rfl, Nat.zero_le _, Nat.zero_le _⟩ xT_b xT_w hK hP hD hS hA 30 4 (tC_answers rfl rfl rfl rfl) hl.1 rfl (Nat.le_of_ble_eq_true rfl) dX7_twice_35 2 30 rfl rfl (tN_answers_ rfl rfl rfl rfl) (fun H locs hP hD hS => ?_)
        refine lv_aload_n hx hb dX7_twice_38 rfl (lv_at hl 0 rfl) ?_
        refine lv_iload_n hx hb dX7_twice_39 rfl (lv_at hl 3 rfl) ?_
        obtain ⟨u_25, hc_26, hd⟩ := bd hd
        refine cv_i (rest := [.int u_23, .ref (ad 30)]) C0 (mX2_causeAt l dC dI cI cJ cZ (ad 30) (ad 31) (ad 32) (ad 33) (σ.2.1 18) (σ.2.1 19) (σ.2.2 5) (σ.1 10) p2 hc_26 _) gv_X7_172 yd_X2_causeAt ⟨rfl, rfl, Nat.le_of_ble_eq_true rfl, Nat.le_of_ble_eq_true rfl, Nat.zero_le _, Nat.zero_le _⟩ xT_b xT_w hK hP hD hS hA 30 4 (tC_answers rfl rfl rfl rfl) hl.1 rfl (Nat.le_of_ble_eq_true rfl) dX7_twice_40 2 30 rfl rfl (tN_answers_ rfl rfl rfl rfl) (fun H locs hP hD hS => ?_)
        refine lv_aload_n hx hb dX7_twice_43 rfl (lv_at hl 0 rfl) ?_
        refine lv_iload_n hx hb dX7_twice_44 rfl (lv_at hl 3 rfl) ?_
        obtain ⟨u_27, hc_28, hd⟩ := bd hd
        refine cv_l (rest := [.int u_25, .int u_23, .ref (ad 30)]) C0 (mX2_valueAt l dC dI cI cJ cZ (ad 30) (ad 31) (ad 32) (ad 33) (σ.2.1 18) (σ.2.1 19) (σ.2.2 5) (σ.1 10) p2 hc_28 _) gv_X7_175 yd_X2_valueAt ⟨rfl, rfl, Nat.le_of_ble_eq_true rfl, Nat.le_of_ble_eq_true rfl, Nat.zero_le _, Nat.zero_le _⟩ xT_b xT_w hK hP hD hS hA 30 4 (tC_answers rfl rfl rfl rfl) hl.1 rfl (Nat.le_of_ble_eq_true rfl) dX7_twice_45 2 30 rfl rfl (tN_answers_ rfl rfl rfl rfl) (fun H locs hP hD hS => ?_)
        obtain ⟨u_29, hc_30, hd⟩ := bd hd
        refine cv_v (rest := []) C0 (mX2_setOut l dC dI cI cJ cZ (ad 30) (ad 31) (ad 32) (ad 33) (σ.2.1 18) (σ.2.1 19) (σ.2.2 5) (σ.1 10) u_23 u_25 u_27 hc_30 _) gv_X7_165 yd_X2_setOut ⟨rfl, rfl, Nat.le_of_ble_eq_true rfl, Nat.le_of_ble_eq_true rfl, Nat.zero_le _, Nat.zero_le _⟩ xT_b xT_w hK hP hD hS hA 30 4 (tC_answers rfl rfl rfl rfl) hl.1 rfl (Nat.le_of_ble_eq_true rfl) dX7_twice_48 2 30 rfl rfl (tN_answers_rows_causes_values_size ) (fun H locs hP hD hS => ?_)
        refine lv_aload_n hx hb dX7_twice_51 rfl (lv_at hl 1 rfl) ?_
        obtain ⟨u_31, hc_32, hd⟩ := bd hd
        refine cw_v (rest := []) C0 (mX7_goOn l dC dI cI cJ cZ ad n (sI (sL (sA (sA σ 18 u_29.1) 19 u_29.2.1) 5 u_29.2.2.1) 10 u_29.2.2.2)  hc_32 _) gv_X7_117 yd_X7_goOn ⟨rfl, rfl, Nat.le_of_ble_eq_true rfl, Nat.le_of_ble_eq_true rfl, Nat.zero_le _, Nat.zero_le _⟩ xC_b (fun U h => xC_w h hX) hK hP hD hS hA hl.1 rfl (Nat.le_of_ble_eq_true rfl) dX7_twice_52 7 0 rfl rfl (fun H locs hP hD hS => ?_)
        refine lv_aload_n hx hb dX7_twice_55 rfl (lv_at hl 0 rfl) ?_
        refine gX7_30_3 C0 hK hP hX rfl dX7_twice_56 ?_
        obtain rfl := Option.some.inj hd
        exact my_iret C0 hK hP hD hS dX7_twice_59
      · replace hd := i_e hd c_22
        refine lv_bipush (v := (-4)) hx hb dX7_twice_29 (by decide) ?_
        obtain rfl := Option.some.inj hd
        exact my_iret C0 hK hP hD hS dX7_twice_31
    · replace hd := i_t hd c_21
      refine lv_iconst (v := (-1)) hx hb dX7_twice_18 (by decide) ?_
      obtain rfl := Option.some.inj hd
      exact my_iret C0 hK hP hD hS dX7_twice_19
  replace hd := i_e hd c_4
  refine cw_q (r0 := none) (rest := []) C0 (mX7_lineOf l dC dI cI cJ cZ ad σ p1 (by unfold fX7_lineOf; rw [if_neg c_3, if_neg c_4]) _) gv_X7_185 yd_X7_lineOf ⟨rfl, rfl, Nat.le_of_ble_eq_true rfl, Nat.le_of_ble_eq_true rfl, Nat.zero_le _, Nat.zero_le _⟩ xC_b (fun U h => xC_w h hX) hK hP hD hS hA hl.1 rfl (Nat.le_of_ble_eq_true rfl) dX7_twice_2 7 0 rfl rfl (fun H locs hP hD hS => ?_)
  refine W.eq (g2 := F0 m 5 ls [.null]) rfl ?_
  refine lv_astore_nN (lv' := [(3, .null), (0, .ref (ad 0)), (1, .int p1), (2, .int p2)]) hx hb dX7_twice_5 rfl hl (by decide) rfl (fun ls hl => ?_)
  refine lv_aload_nN hx hb dX7_twice_6 rfl (lv_at hl 0 rfl) ?_
  refine lv_ifnullN (tgt := 18) hx hb dX7_twice_7 (by decide) ?_
  refine lv_iconst (v := (-1)) hx hb dX7_twice_18 (by decide) ?_
  obtain rfl := Option.some.inj hd
  exact my_iret C0 hK hP hD hS dX7_twice_19
def fX7_under (σ : St) (p1 : Int32) (p2 : Int32) : Option (Int32) := if p1 = 0 then ((fX2_rowAt (σ.2.1 16) (σ.2.1 17) (σ.2.2 4) (σ.1 9) p2).bind (fun u_5 => some u_5)) else (if p1 = 1 then ((fX2_rowAt (σ.2.1 18) (σ.2.1 19) (σ.2.2 5) (σ.1 10) p2).bind (fun u_7 => some u_7)) else (some (-1 : Int32)))
set_option maxHeartbeats 4000000 in
set_option maxRecDepth 100000 in
theorem mX7_under (l : Launch) (dC : Nat → ClassId) (dI : Nat → Nat → Nat) (cI cJ cZ : ClassId) (ad : Nat → Nat) (σ : St) (p1 : Int32) (p2 : Int32) {r : Int32} (hd : fX7_under σ p1 p2 = some r) (sz : Nat)  : Met l yX7_under (wS yX7_under cX7_under 4 (some .int)) { frames := 2, cells := 0, slots := 0, locals := 42 } (pC (dC, dI) (kT cI cJ cZ) xC (vX7 cI cJ cZ ad σ) sz [.ref (ad 0), .int p1, .int p2]) (qI (dC, dI) (kT cI cJ cZ) (vX7 cI cJ cZ ad σ) (va_A (vX7 cI cJ cZ ad σ) sz) r) 0 0 (va_A (vX7 cI cJ cZ ad σ) sz) := by
  refine my_ent (fun A => qI (dC, dI) (kT cI cJ cZ) (vX7 cI cJ cZ ad σ) A r) (by decide) (Nat.le_of_ble_eq_true rfl) ?_
  intro p e s m below meth c A hAe hnm C0 hK hX hP hD hA hS ls hl
  obtain ⟨hx, hb, hml, hown, hT, hr, hlocks⟩ := id C0
  unfold fX7_under at hd
  have hl : lv_has ls 4 [(0, .ref (ad 0)), (1, .int p1), (2, .int p2)] := hl
  refine lv_aload_n hx hb dX7_under_0 rfl (lv_at hl 0 rfl) ?_
  refine lv_iload_n hx hb dX7_under_1 rfl (lv_at hl 1 rfl) ?_
  by_cases c_3 : p1 = 0
  · replace hd := i_t hd c_3
    refine cw_q (r0 := some (ad 26)) (rest := []) C0 (mX7_lineOf l dC dI cI cJ cZ ad σ p1 (by unfold fX7_lineOf; rw [if_pos c_3]) _) gv_X7_185 yd_X7_lineOf ⟨rfl, rfl, Nat.le_of_ble_eq_true rfl, Nat.le_of_ble_eq_true rfl, Nat.zero_le _, Nat.zero_le _⟩ xC_b (fun U h => xC_w h hX) hK hP hD hS hA hl.1 rfl (Nat.le_of_ble_eq_true rfl) dX7_under_2 7 0 rfl rfl (fun H locs hP hD hS => ?_)
    refine W.eq (g2 := F0 m 5 ls [.ref (ad 26)]) rfl ?_
    refine lv_astore_n (lv' := [(3, .ref (ad 26)), (0, .ref (ad 0)), (1, .int p1), (2, .int p2)]) hx hb dX7_under_5 rfl hl (by decide) rfl (fun ls hl => ?_)
    refine lv_aload_n hx hb dX7_under_6 rfl (lv_at hl 0 rfl) ?_
    refine lv_ifnonnull (tgt := 14) hx hb dX7_under_7 (by decide) ?_
    refine lv_aload_n hx hb dX7_under_14 rfl (lv_at hl 0 rfl) ?_
    refine lv_iload_n hx hb dX7_under_15 rfl (lv_at hl 3 rfl) ?_
    obtain ⟨u_5, hc_6, hd⟩ := bd hd
    refine cv_i (rest := []) C0 (mX2_rowAt l dC dI cI cJ cZ (ad 26) (ad 27) (ad 28) (ad 29) (σ.2.1 16) (σ.2.1 17) (σ.2.2 4) (σ.1 9) p2 hc_6 _) gv_X7_144 yd_X2_rowAt ⟨rfl, rfl, Nat.le_of_ble_eq_true rfl, Nat.le_of_ble_eq_true rfl, Nat.zero_le _, Nat.zero_le _⟩ xT_b xT_w hK hP hD hS hA 26 4 (tC_asks rfl rfl rfl rfl) hl.1 rfl (Nat.le_of_ble_eq_true rfl) dX7_under_16 2 26 rfl rfl (tN_asks_ rfl rfl rfl rfl) (fun H locs hP hD hS => ?_)
    obtain rfl := Option.some.inj hd
    exact my_iret C0 hK hP hD hS dX7_under_19
  replace hd := i_e hd c_3
  by_cases c_4 : p1 = 1
  · replace hd := i_t hd c_4
    refine cw_q (r0 := some (ad 30)) (rest := []) C0 (mX7_lineOf l dC dI cI cJ cZ ad σ p1 (by unfold fX7_lineOf; rw [if_neg c_3, if_pos c_4]) _) gv_X7_185 yd_X7_lineOf ⟨rfl, rfl, Nat.le_of_ble_eq_true rfl, Nat.le_of_ble_eq_true rfl, Nat.zero_le _, Nat.zero_le _⟩ xC_b (fun U h => xC_w h hX) hK hP hD hS hA hl.1 rfl (Nat.le_of_ble_eq_true rfl) dX7_under_2 7 0 rfl rfl (fun H locs hP hD hS => ?_)
    refine W.eq (g2 := F0 m 5 ls [.ref (ad 30)]) rfl ?_
    refine lv_astore_n (lv' := [(3, .ref (ad 30)), (0, .ref (ad 0)), (1, .int p1), (2, .int p2)]) hx hb dX7_under_5 rfl hl (by decide) rfl (fun ls hl => ?_)
    refine lv_aload_n hx hb dX7_under_6 rfl (lv_at hl 0 rfl) ?_
    refine lv_ifnonnull (tgt := 14) hx hb dX7_under_7 (by decide) ?_
    refine lv_aload_n hx hb dX7_under_14 rfl (lv_at hl 0 rfl) ?_
    refine lv_iload_n hx hb dX7_under_15 rfl (lv_at hl 3 rfl) ?_
    obtain ⟨u_7, hc_8, hd⟩ := bd hd
    refine cv_i (rest := []) C0 (mX2_rowAt l dC dI cI cJ cZ (ad 30) (ad 31) (ad 32) (ad 33) (σ.2.1 18) (σ.2.1 19) (σ.2.2 5) (σ.1 10) p2 hc_8 _) gv_X7_144 yd_X2_rowAt ⟨rfl, rfl, Nat.le_of_ble_eq_true rfl, Nat.le_of_ble_eq_true rfl, Nat.zero_le _, Nat.zero_le _⟩ xT_b xT_w hK hP hD hS hA 30 4 (tC_answers rfl rfl rfl rfl) hl.1 rfl (Nat.le_of_ble_eq_true rfl) dX7_under_16 2 30 rfl rfl (tN_answers_ rfl rfl rfl rfl) (fun H locs hP hD hS => ?_)
    obtain rfl := Option.some.inj hd
    exact my_iret C0 hK hP hD hS dX7_under_19
  replace hd := i_e hd c_4
  refine cw_q (r0 := none) (rest := []) C0 (mX7_lineOf l dC dI cI cJ cZ ad σ p1 (by unfold fX7_lineOf; rw [if_neg c_3, if_neg c_4]) _) gv_X7_185 yd_X7_lineOf ⟨rfl, rfl, Nat.le_of_ble_eq_true rfl, Nat.le_of_ble_eq_true rfl, Nat.zero_le _, Nat.zero_le _⟩ xC_b (fun U h => xC_w h hX) hK hP hD hS hA hl.1 rfl (Nat.le_of_ble_eq_true rfl) dX7_under_2 7 0 rfl rfl (fun H locs hP hD hS => ?_)
  refine W.eq (g2 := F0 m 5 ls [.null]) rfl ?_
  refine lv_astore_nN (lv' := [(3, .null), (0, .ref (ad 0)), (1, .int p1), (2, .int p2)]) hx hb dX7_under_5 rfl hl (by decide) rfl (fun ls hl => ?_)
  refine lv_aload_nN hx hb dX7_under_6 rfl (lv_at hl 0 rfl) ?_
  refine lv_ifnonnullN hx hb dX7_under_7 ?_
  refine lv_iconst (v := (-1)) hx hb dX7_under_10 (by decide) ?_
  refine lv_goto (tgt := 19) hx hb dX7_under_11 (by decide) ?_
  obtain rfl := Option.some.inj hd
  exact my_iret C0 hK hP hD hS dX7_under_19
def fX7_out (σ : St) (p1 : Int32) (p2 : Int32) : Option (Int32) := if p1 < 0 then (some (-1 : Int32)) else (if p1 < (σ.1 3) then (if p2 = 0 then ((fX3_itemAt (σ.2.1 11) (σ.2.1 12) p1).bind (fun u_4 => some u_4)) else (if p2 = 1 then ((fX3_itemAt (σ.2.1 11) (σ.2.1 12) p1).bind (fun u_7 => (fX4_resultOf (σ.2.1 3) (σ.2.1 4) (σ.2.1 5) (σ.2.2 2) (σ.1 2) (σ.1 3) (σ.1 16) (σ.1 17) u_7).bind (fun u_9 => some u_9))) else (if p2 = 2 then ((fX3_tickAt (σ.2.1 11) (σ.2.1 12) p1).bind (fun u_12 => some u_12)) else (some (-1 : Int32))))) else (some (-1 : Int32)))
set_option maxHeartbeats 4000000 in
set_option maxRecDepth 100000 in
theorem mX7_out (l : Launch) (dC : Nat → ClassId) (dI : Nat → Nat → Nat) (cI cJ cZ : ClassId) (ad : Nat → Nat) (σ : St) (p1 : Int32) (p2 : Int32) {r : Int32} (hd : fX7_out σ p1 p2 = some r) (sz : Nat)  : Met l yX7_out (wS yX7_out cX7_out 3 (some .int)) { frames := 2, cells := 0, slots := 0, locals := 42 } (pC (dC, dI) (kT cI cJ cZ) xC (vX7 cI cJ cZ ad σ) sz [.ref (ad 0), .int p1, .int p2]) (qI (dC, dI) (kT cI cJ cZ) (vX7 cI cJ cZ ad σ) (va_A (vX7 cI cJ cZ ad σ) sz) r) 0 0 (va_A (vX7 cI cJ cZ ad σ) sz) := by
  refine my_ent (fun A => qI (dC, dI) (kT cI cJ cZ) (vX7 cI cJ cZ ad σ) A r) (by decide) (Nat.le_of_ble_eq_true rfl) ?_
  intro p e s m below meth c A hAe hnm C0 hK hX hP hD hA hS ls hl
  obtain ⟨hx, hb, hml, hown, hT, hr, hlocks⟩ := id C0
  unfold fX7_out at hd
  have hl : lv_has ls 3 [(0, .ref (ad 0)), (1, .int p1), (2, .int p2)] := hl
  refine lv_iload_n hx hb dX7_out_0 rfl (lv_at hl 1 rfl) ?_
  refine lv_if_lt (tgt := 15) hx hb dX7_out_1 (by decide) (fun c_1 => ?_) (fun c_1 => ?_)
  · replace hd := i_t hd c_1
    refine lv_iconst (v := (-1)) hx hb dX7_out_15 (by decide) ?_
    obtain rfl := Option.some.inj hd
    exact my_iret C0 hK hP hD hS dX7_out_16
  · replace hd := i_e hd c_1
    refine lv_iload_n hx hb dX7_out_4 rfl (lv_at hl 1 rfl) ?_
    refine lv_aload_n hx hb dX7_out_5 rfl (lv_at hl 0 rfl) ?_
    refine gX7_0_4 C0 hK hP wm_2_8 dX7_out_6 ?_
    refine gX7_7_5 C0 hK hP hX rfl dX7_out_9 ?_
    refine lv_icmp_lt (tgt := 17) hx hb dX7_out_12 (by decide) (fun c_2 => ?_) (fun c_2 => ?_)
    · replace hd := i_t hd c_2
      refine lv_iload_n hx hb dX7_out_17 rfl (lv_at hl 2 rfl) ?_
      by_cases c_3 : p2 = 0
      · replace hd := i_t hd c_3
        refine lv_tableIn (tgt := 44) (off := 26) hx hb dX7_out_18 (by rw [c_3]; decide) (by rw [c_3]; decide) (by rw [c_3]; rfl) (by decide) ?_
        refine lv_aload_n hx hb dX7_out_44 rfl (lv_at hl 0 rfl) ?_
        refine gX7_0_6 C0 hK hP wm_2_13 dX7_out_45 ?_
        refine lv_iload_n hx hb dX7_out_48 rfl (lv_at hl 1 rfl) ?_
        obtain ⟨u_4, hc_5, hd⟩ := bd hd
        refine cv_i (rest := []) C0 (mX3_itemAt l dC dI cI cJ cZ (ad 17) (ad 18) (ad 19) (σ.2.1 11) (σ.2.1 12) p1 hc_5 _) gv_X7_195 yd_X3_itemAt ⟨rfl, rfl, Nat.le_of_ble_eq_true rfl, Nat.le_of_ble_eq_true rfl, Nat.zero_le _, Nat.zero_le _⟩ xT_b xT_w hK hP hD hS hA 17 3 (tC_outLog rfl rfl) hl.1 rfl (Nat.le_of_ble_eq_true rfl) dX7_out_49 3 17 rfl rfl (tN_outLog_ rfl rfl) (fun H locs hP hD hS => ?_)
        obtain rfl := Option.some.inj hd
        exact my_iret C0 hK hP hD hS dX7_out_52
      replace hd := i_e hd c_3
      by_cases c_6 : p2 = 1
      · replace hd := i_t hd c_6
        refine lv_tableIn (tgt := 53) (off := 35) hx hb dX7_out_18 (by rw [c_6]; decide) (by rw [c_6]; decide) (by rw [c_6]; rfl) (by decide) ?_
        refine lv_aload_n hx hb dX7_out_53 rfl (lv_at hl 0 rfl) ?_
        refine gX7_0_4 C0 hK hP wm_2_8 dX7_out_54 ?_
        refine lv_aload_n hx hb dX7_out_57 rfl (lv_at hl 0 rfl) ?_
        refine gX7_0_6 C0 hK hP wm_2_13 dX7_out_58 ?_
        refine lv_iload_n hx hb dX7_out_61 rfl (lv_at hl 1 rfl) ?_
        obtain ⟨u_7, hc_8, hd⟩ := bd hd
        refine cv_i (rest := [.ref (ad 7)]) C0 (mX3_itemAt l dC dI cI cJ cZ (ad 17) (ad 18) (ad 19) (σ.2.1 11) (σ.2.1 12) p1 hc_8 _) gv_X7_195 yd_X3_itemAt ⟨rfl, rfl, Nat.le_of_ble_eq_true rfl, Nat.le_of_ble_eq_true rfl, Nat.zero_le _, Nat.zero_le _⟩ xT_b xT_w hK hP hD hS hA 17 3 (tC_outLog rfl rfl) hl.1 rfl (Nat.le_of_ble_eq_true rfl) dX7_out_62 3 17 rfl rfl (tN_outLog_ rfl rfl) (fun H locs hP hD hS => ?_)
        obtain ⟨u_9, hc_10, hd⟩ := bd hd
        refine cv_i (rest := []) C0 (mX4_resultOf l dC dI cI cJ cZ (ad 7) (ad 8) (ad 9) (ad 10) (ad 11) (σ.2.1 3) (σ.2.1 4) (σ.2.1 5) (σ.2.2 2) (σ.1 2) (σ.1 3) (σ.1 16) (σ.1 17) u_7 hc_10 _) gv_X7_198 yd_X4_resultOf ⟨rfl, rfl, Nat.le_of_ble_eq_true rfl, Nat.le_of_ble_eq_true rfl, Nat.zero_le _, Nat.zero_le _⟩ xT_b xT_w hK hP hD hS hA 7 5 (tC_live rfl rfl rfl rfl rfl rfl rfl rfl) hl.1 rfl (Nat.le_of_ble_eq_true rfl) dX7_out_65 4 7 rfl rfl (tN_live_ rfl rfl rfl rfl rfl rfl rfl rfl) (fun H locs hP hD hS => ?_)
        obtain rfl := Option.some.inj hd
        exact my_iret C0 hK hP hD hS dX7_out_68
      replace hd := i_e hd c_6
      by_cases c_11 : p2 = 2
      · replace hd := i_t hd c_11
        refine lv_tableIn (tgt := 69) (off := 51) hx hb dX7_out_18 (by rw [c_11]; decide) (by rw [c_11]; decide) (by rw [c_11]; rfl) (by decide) ?_
        refine lv_aload_n hx hb dX7_out_69 rfl (lv_at hl 0 rfl) ?_
        refine gX7_0_6 C0 hK hP wm_2_13 dX7_out_70 ?_
        refine lv_iload_n hx hb dX7_out_73 rfl (lv_at hl 1 rfl) ?_
        obtain ⟨u_12, hc_13, hd⟩ := bd hd
        refine cv_i (rest := []) C0 (mX3_tickAt l dC dI cI cJ cZ (ad 17) (ad 18) (ad 19) (σ.2.1 11) (σ.2.1 12) p1 hc_13 _) gv_X7_201 yd_X3_tickAt ⟨rfl, rfl, Nat.le_of_ble_eq_true rfl, Nat.le_of_ble_eq_true rfl, Nat.zero_le _, Nat.zero_le _⟩ xT_b xT_w hK hP hD hS hA 17 3 (tC_outLog rfl rfl) hl.1 rfl (Nat.le_of_ble_eq_true rfl) dX7_out_74 3 17 rfl rfl (tN_outLog_ rfl rfl) (fun H locs hP hD hS => ?_)
        obtain rfl := Option.some.inj hd
        exact my_iret C0 hK hP hD hS dX7_out_77
      replace hd := i_e hd c_11
      refine lv_tableOut (tgt := 78) hx hb dX7_out_18 (by have := lv_neT (a := 0) c_3 (by decide); have := lv_neT (a := 1) c_6 (by decide); have := lv_neT (a := 2) c_11 (by decide); omega) (by decide) ?_
      refine lv_iconst (v := (-1)) hx hb dX7_out_78 (by decide) ?_
      obtain rfl := Option.some.inj hd
      exact my_iret C0 hK hP hD hS dX7_out_79
    · replace hd := i_e hd c_2
      refine lv_iconst (v := (-1)) hx hb dX7_out_15 (by decide) ?_
      obtain rfl := Option.some.inj hd
      exact my_iret C0 hK hP hD hS dX7_out_16
def fX7_value (σ : St) (p1 : Int32) : Option (Int64) := (fX4_valueOf (σ.2.1 3) (σ.2.1 4) (σ.2.1 5) (σ.2.2 2) (σ.1 2) (σ.1 3) (σ.1 16) (σ.1 17) p1).bind (fun u_1 => some u_1)
set_option maxHeartbeats 4000000 in
set_option maxRecDepth 100000 in
theorem mX7_value (l : Launch) (dC : Nat → ClassId) (dI : Nat → Nat → Nat) (cI cJ cZ : ClassId) (ad : Nat → Nat) (σ : St) (p1 : Int32) {r : Int64} (hd : fX7_value σ p1 = some r) (sz : Nat)  : Met l yX7_value (wS yX7_value cX7_value 2 (some .long)) { frames := 2, cells := 0, slots := 0, locals := 42 } (pC (dC, dI) (kT cI cJ cZ) xC (vX7 cI cJ cZ ad σ) sz [.ref (ad 0), .int p1]) (qL (dC, dI) (kT cI cJ cZ) (vX7 cI cJ cZ ad σ) (va_A (vX7 cI cJ cZ ad σ) sz) r) 0 0 (va_A (vX7 cI cJ cZ ad σ) sz) := by
  refine my_ent (fun A => qL (dC, dI) (kT cI cJ cZ) (vX7 cI cJ cZ ad σ) A r) (by decide) (Nat.le_of_ble_eq_true rfl) ?_
  intro p e s m below meth c A hAe hnm C0 hK hX hP hD hA hS ls hl
  obtain ⟨hx, hb, hml, hown, hT, hr, hlocks⟩ := id C0
  unfold fX7_value at hd
  have hl : lv_has ls 2 [(0, .ref (ad 0)), (1, .int p1)] := hl
  refine lv_aload_n hx hb dX7_value_0 rfl (lv_at hl 0 rfl) ?_
  refine gX7_0_4 C0 hK hP wm_2_8 dX7_value_1 ?_
  refine lv_iload_n hx hb dX7_value_4 rfl (lv_at hl 1 rfl) ?_
  obtain ⟨u_1, hc_2, hd⟩ := bd hd
  refine cv_l (rest := []) C0 (mX4_valueOf l dC dI cI cJ cZ (ad 7) (ad 8) (ad 9) (ad 10) (ad 11) (σ.2.1 3) (σ.2.1 4) (σ.2.1 5) (σ.2.2 2) (σ.1 2) (σ.1 3) (σ.1 16) (σ.1 17) p1 hc_2 _) gv_X7_204 yd_X4_valueOf ⟨rfl, rfl, Nat.le_of_ble_eq_true rfl, Nat.le_of_ble_eq_true rfl, Nat.zero_le _, Nat.zero_le _⟩ xT_b xT_w hK hP hD hS hA 7 5 (tC_live rfl rfl rfl rfl rfl rfl rfl rfl) hl.1 rfl (Nat.le_of_ble_eq_true rfl) dX7_value_5 4 7 rfl rfl (tN_live_ rfl rfl rfl rfl rfl rfl rfl rfl) (fun H locs hP hD hS => ?_)
  obtain rfl := Option.some.inj hd
  exact my_lret C0 hK hP hD hS dX7_value_8
def fX7_item (n : Nat) (σ : St) (p1 : Int32) (p2 : Int32) : Option (Int32) := (fX4_hasItem (σ.2.1 3) (σ.2.1 4) (σ.2.1 5) (σ.2.2 2) (σ.1 2) (σ.1 3) (σ.1 16) (σ.1 17) p1).bind (fun u_1 => if u_1 = 0 then (some (-1 : Int32)) else (if p2 = 0 then ((fX4_stateOf (σ.2.1 3) (σ.2.1 4) (σ.2.1 5) (σ.2.2 2) (σ.1 2) (σ.1 3) (σ.1 16) (σ.1 17) p1).bind (fun u_5 => some u_5)) else (if p2 = 1 then ((fX4_resultOf (σ.2.1 3) (σ.2.1 4) (σ.2.1 5) (σ.2.2 2) (σ.1 2) (σ.1 3) (σ.1 16) (σ.1 17) p1).bind (fun u_8 => some u_8)) else (if p2 = 2 then ((fX4_triesOf (σ.2.1 3) (σ.2.1 4) (σ.2.1 5) (σ.2.2 2) (σ.1 2) (σ.1 3) (σ.1 16) (σ.1 17) p1).bind (fun u_11 => some u_11)) else (if p2 = 3 then ((fX0_isMark (σ.2.2 0) (σ.2.2 1) (σ.2.1 1) (σ.2.1 2) p1).bind (fun u_14 => if u_14 = 0 then (some (0 : Int32)) else (some (1 : Int32)))) else (if p2 = 4 then ((fX5_find n (σ.2.1 14) (σ.1 7) p1).bind (fun u_18 => if u_18 = (-1 : Int32) then (some (0 : Int32)) else (some (1 : Int32)))) else (some (-1 : Int32))))))))
set_option maxHeartbeats 4000000 in
set_option maxRecDepth 100000 in
theorem mX7_item (l : Launch) (dC : Nat → ClassId) (dI : Nat → Nat → Nat) (cI cJ cZ : ClassId) (ad : Nat → Nat) (n : Nat) (σ : St) (p1 : Int32) (p2 : Int32) {r : Int32} (hd : fX7_item n σ p1 p2 = some r) (sz : Nat)  : Met l yX7_item (wS yX7_item cX7_item 3 (some .int)) { frames := 2, cells := 0, slots := 0, locals := 42 } (pC (dC, dI) (kT cI cJ cZ) xC (vX7 cI cJ cZ ad σ) sz [.ref (ad 0), .int p1, .int p2]) (qI (dC, dI) (kT cI cJ cZ) (vX7 cI cJ cZ ad σ) (va_A (vX7 cI cJ cZ ad σ) sz) r) 0 0 (va_A (vX7 cI cJ cZ ad σ) sz) := by
  refine my_ent (fun A => qI (dC, dI) (kT cI cJ cZ) (vX7 cI cJ cZ ad σ) A r) (by decide) (Nat.le_of_ble_eq_true rfl) ?_
  intro p e s m below meth c A hAe hnm C0 hK hX hP hD hA hS ls hl
  obtain ⟨hx, hb, hml, hown, hT, hr, hlocks⟩ := id C0
  unfold fX7_item at hd
  have hl : lv_has ls 3 [(0, .ref (ad 0)), (1, .int p1), (2, .int p2)] := hl
  refine lv_aload_n hx hb dX7_item_0 rfl (lv_at hl 0 rfl) ?_
  refine gX7_0_4 C0 hK hP wm_2_8 dX7_item_1 ?_
  refine lv_iload_n hx hb dX7_item_4 rfl (lv_at hl 1 rfl) ?_
  obtain ⟨u_1, hc_2, hd⟩ := bd hd
  refine cv_i (rest := []) C0 (mX4_hasItem l dC dI cI cJ cZ (ad 7) (ad 8) (ad 9) (ad 10) (ad 11) (σ.2.1 3) (σ.2.1 4) (σ.2.1 5) (σ.2.2 2) (σ.1 2) (σ.1 3) (σ.1 16) (σ.1 17) p1 hc_2 _) gv_X7_205 yd_X4_hasItem ⟨rfl, rfl, Nat.le_of_ble_eq_true rfl, Nat.le_of_ble_eq_true rfl, Nat.zero_le _, Nat.zero_le _⟩ xT_b xT_w hK hP hD hS hA 7 5 (tC_live rfl rfl rfl rfl rfl rfl rfl rfl) hl.1 rfl (Nat.le_of_ble_eq_true rfl) dX7_item_5 4 7 rfl rfl (tN_live_ rfl rfl rfl rfl rfl rfl rfl rfl) (fun H locs hP hD hS => ?_)
  refine lv_if_ne (tgt := 13) hx hb dX7_item_8 (by decide) (fun c_3 => ?_) (fun c_3 => ?_)
  · replace hd := i_e hd c_3
    refine lv_iload_n hx hb dX7_item_13 rfl (lv_at hl 2 rfl) ?_
    by_cases c_4 : p2 = 0
    · replace hd := i_t hd c_4
      refine lv_tableIn (tgt := 48) (off := 34) hx hb dX7_item_14 (by rw [c_4]; decide) (by rw [c_4]; decide) (by rw [c_4]; rfl) (by decide) ?_
      refine lv_aload_n hx hb dX7_item_48 rfl (lv_at hl 0 rfl) ?_
      refine gX7_0_4 C0 hK hP wm_2_8 dX7_item_49 ?_
      refine lv_iload_n hx hb dX7_item_52 rfl (lv_at hl 1 rfl) ?_
      obtain ⟨u_5, hc_6, hd⟩ := bd hd
      refine cv_i (rest := []) C0 (mX4_stateOf l dC dI cI cJ cZ (ad 7) (ad 8) (ad 9) (ad 10) (ad 11) (σ.2.1 3) (σ.2.1 4) (σ.2.1 5) (σ.2.2 2) (σ.1 2) (σ.1 3) (σ.1 16) (σ.1 17) p1 hc_6 _) gv_X7_178 yd_X4_stateOf ⟨rfl, rfl, Nat.le_of_ble_eq_true rfl, Nat.le_of_ble_eq_true rfl, Nat.zero_le _, Nat.zero_le _⟩ xT_b xT_w hK hP hD hS hA 7 5 (tC_live rfl rfl rfl rfl rfl rfl rfl rfl) hl.1 rfl (Nat.le_of_ble_eq_true rfl) dX7_item_53 4 7 rfl rfl (tN_live_ rfl rfl rfl rfl rfl rfl rfl rfl) (fun H locs hP hD hS => ?_)
      obtain rfl := Option.some.inj hd
      exact my_iret C0 hK hP hD hS dX7_item_56
    replace hd := i_e hd c_4
    by_cases c_7 : p2 = 1
    · replace hd := i_t hd c_7
      refine lv_tableIn (tgt := 57) (off := 43) hx hb dX7_item_14 (by rw [c_7]; decide) (by rw [c_7]; decide) (by rw [c_7]; rfl) (by decide) ?_
      refine lv_aload_n hx hb dX7_item_57 rfl (lv_at hl 0 rfl) ?_
      refine gX7_0_4 C0 hK hP wm_2_8 dX7_item_58 ?_
      refine lv_iload_n hx hb dX7_item_61 rfl (lv_at hl 1 rfl) ?_
      obtain ⟨u_8, hc_9, hd⟩ := bd hd
      refine cv_i (rest := []) C0 (mX4_resultOf l dC dI cI cJ cZ (ad 7) (ad 8) (ad 9) (ad 10) (ad 11) (σ.2.1 3) (σ.2.1 4) (σ.2.1 5) (σ.2.2 2) (σ.1 2) (σ.1 3) (σ.1 16) (σ.1 17) p1 hc_9 _) gv_X7_198 yd_X4_resultOf ⟨rfl, rfl, Nat.le_of_ble_eq_true rfl, Nat.le_of_ble_eq_true rfl, Nat.zero_le _, Nat.zero_le _⟩ xT_b xT_w hK hP hD hS hA 7 5 (tC_live rfl rfl rfl rfl rfl rfl rfl rfl) hl.1 rfl (Nat.le_of_ble_eq_true rfl) dX7_item_62 4 7 rfl rfl (tN_live_ rfl rfl rfl rfl rfl rfl rfl rfl) (fun H locs hP hD hS => ?_)
      obtain rfl := Option.some.inj hd
      exact my_iret C0 hK hP hD hS dX7_item_65
    replace hd := i_e hd c_7
    by_cases c_10 : p2 = 2
    · replace hd := i_t hd c_10
      refine lv_tableIn (tgt := 66) (off := 52) hx hb dX7_item_14 (by rw [c_10]; decide) (by rw [c_10]; decide) (by rw [c_10]; rfl) (by decide) ?_
      refine lv_aload_n hx hb dX7_item_66 rfl (lv_at hl 0 rfl) ?_
      refine gX7_0_4 C0 hK hP wm_2_8 dX7_item_67 ?_
      refine lv_iload_n hx hb dX7_item_70 rfl (lv_at hl 1 rfl) ?_
      obtain ⟨u_11, hc_12, hd⟩ := bd hd
      refine cv_i (rest := []) C0 (mX4_triesOf l dC dI cI cJ cZ (ad 7) (ad 8) (ad 9) (ad 10) (ad 11) (σ.2.1 3) (σ.2.1 4) (σ.2.1 5) (σ.2.2 2) (σ.1 2) (σ.1 3) (σ.1 16) (σ.1 17) p1 hc_12 _) gv_X7_208 yd_X4_triesOf ⟨rfl, rfl, Nat.le_of_ble_eq_true rfl, Nat.le_of_ble_eq_true rfl, Nat.zero_le _, Nat.zero_le _⟩ xT_b xT_w hK hP hD hS hA 7 5 (tC_live rfl rfl rfl rfl rfl rfl rfl rfl) hl.1 rfl (Nat.le_of_ble_eq_true rfl) dX7_item_71 4 7 rfl rfl (tN_live_ rfl rfl rfl rfl rfl rfl rfl rfl) (fun H locs hP hD hS => ?_)
      obtain rfl := Option.some.inj hd
      exact my_iret C0 hK hP hD hS dX7_item_74
    replace hd := i_e hd c_10
    by_cases c_13 : p2 = 3
    · replace hd := i_t hd c_13
      refine lv_tableIn (tgt := 75) (off := 61) hx hb dX7_item_14 (by rw [c_13]; decide) (by rw [c_13]; decide) (by rw [c_13]; rfl) (by decide) ?_
      refine lv_aload_n hx hb dX7_item_75 rfl (lv_at hl 0 rfl) ?_
      refine gX7_0_3 C0 hK hP wm_2_4 dX7_item_76 ?_
      refine lv_iload_n hx hb dX7_item_79 rfl (lv_at hl 1 rfl) ?_
      obtain ⟨u_14, hc_15, hd⟩ := bd hd
      refine cv_i (rest := []) C0 (mX0_isMark l dC dI cI cJ cZ (ad 2) (ad 3) (ad 4) (ad 5) (ad 6) (σ.2.2 0) (σ.2.2 1) (σ.2.1 1) (σ.2.1 2) p1 hc_15 _) gv_X7_211 yd_X0_isMark ⟨rfl, rfl, Nat.le_of_ble_eq_true rfl, Nat.le_of_ble_eq_true rfl, Nat.zero_le _, Nat.zero_le _⟩ xT_b xT_w hK hP hD hS hA 2 5 (tC_items rfl rfl rfl rfl) hl.1 rfl (Nat.le_of_ble_eq_true rfl) dX7_item_80 0 2 rfl rfl (tN_items_ rfl rfl rfl rfl) (fun H locs hP hD hS => ?_)
      refine lv_if_eq (tgt := 90) hx hb dX7_item_83 (by decide) (fun c_16 => ?_) (fun c_16 => ?_)
      · replace hd := i_t hd c_16
        refine lv_iconst (v := 0) hx hb dX7_item_90 (by decide) ?_
        obtain rfl := Option.some.inj hd
        exact my_iret C0 hK hP hD hS dX7_item_91
      · replace hd := i_e hd c_16
        refine lv_iconst (v := 1) hx hb dX7_item_86 (by decide) ?_
        refine lv_goto (tgt := 91) hx hb dX7_item_87 (by decide) ?_
        obtain rfl := Option.some.inj hd
        exact my_iret C0 hK hP hD hS dX7_item_91
    replace hd := i_e hd c_13
    by_cases c_17 : p2 = 4
    · replace hd := i_t hd c_17
      refine lv_tableIn (tgt := 92) (off := 78) hx hb dX7_item_14 (by rw [c_17]; decide) (by rw [c_17]; decide) (by rw [c_17]; rfl) (by decide) ?_
      refine lv_aload_n hx hb dX7_item_92 rfl (lv_at hl 0 rfl) ?_
      refine gX7_0_8 C0 hK hP wm_2_18 dX7_item_93 ?_
      refine lv_iload_n hx hb dX7_item_96 rfl (lv_at hl 1 rfl) ?_
      obtain ⟨u_18, hc_19, hd⟩ := bd hd
      refine cv_i (rest := []) C0 (mX5_find l dC dI cI cJ cZ (ad 22) (ad 23) n (σ.2.1 14) (σ.1 7) p1 hc_19 _) gv_X7_214 yd_X5_find ⟨rfl, rfl, Nat.le_of_ble_eq_true rfl, Nat.le_of_ble_eq_true rfl, Nat.zero_le _, Nat.zero_le _⟩ xT_b xT_w hK hP hD hS hA 22 2 (tC_queue rfl rfl) hl.1 rfl (Nat.le_of_ble_eq_true rfl) dX7_item_97 5 22 rfl rfl (tN_queue_ rfl rfl) (fun H locs hP hD hS => ?_)
      refine lv_iconst (v := (-1)) hx hb dX7_item_100 (by decide) ?_
      refine lv_icmp_eq (tgt := 108) hx hb dX7_item_101 (by decide) (fun c_20 => ?_) (fun c_20 => ?_)
      · replace hd := i_t hd c_20
        refine lv_iconst (v := 0) hx hb dX7_item_108 (by decide) ?_
        obtain rfl := Option.some.inj hd
        exact my_iret C0 hK hP hD hS dX7_item_109
      · replace hd := i_e hd c_20
        refine lv_iconst (v := 1) hx hb dX7_item_104 (by decide) ?_
        refine lv_goto (tgt := 109) hx hb dX7_item_105 (by decide) ?_
        obtain rfl := Option.some.inj hd
        exact my_iret C0 hK hP hD hS dX7_item_109
    replace hd := i_e hd c_17
    refine lv_tableOut (tgt := 110) hx hb dX7_item_14 (by have := lv_neT (a := 0) c_4 (by decide); have := lv_neT (a := 1) c_7 (by decide); have := lv_neT (a := 2) c_10 (by decide); have := lv_neT (a := 3) c_13 (by decide); have := lv_neT (a := 4) c_17 (by decide); omega) (by decide) ?_
    refine lv_iconst (v := (-1)) hx hb dX7_item_110 (by decide) ?_
    obtain rfl := Option.some.inj hd
    exact my_iret C0 hK hP hD hS dX7_item_111
  · replace hd := i_t hd c_3
    refine lv_iconst (v := (-1)) hx hb dX7_item_11 (by decide) ?_
    obtain rfl := Option.some.inj hd
    exact my_iret C0 hK hP hD hS dX7_item_12
def fX7_count (n : Nat) (σ : St) (p1 : Int64) : Option (Int32) := (fX6_countOf n (σ.2.2 6) (σ.2.1 20) (σ.2.2 7) p1).bind (fun u_1 => some u_1)
set_option maxHeartbeats 4000000 in
set_option maxRecDepth 100000 in
theorem mX7_count (l : Launch) (dC : Nat → ClassId) (dI : Nat → Nat → Nat) (cI cJ cZ : ClassId) (ad : Nat → Nat) (n : Nat) (σ : St) (p1 : Int64) {r : Int32} (hd : fX7_count n σ p1 = some r) (sz : Nat)  : Met l yX7_count (wS yX7_count cX7_count 3 (some .int)) { frames := 1, cells := 0, slots := 0, locals := 24 } (pC (dC, dI) (kT cI cJ cZ) xC (vX7 cI cJ cZ ad σ) sz [.ref (ad 0), .long p1]) (qI (dC, dI) (kT cI cJ cZ) (vX7 cI cJ cZ ad σ) (va_A (vX7 cI cJ cZ ad σ) sz) r) 0 0 (va_A (vX7 cI cJ cZ ad σ) sz) := by
  refine my_ent (fun A => qI (dC, dI) (kT cI cJ cZ) (vX7 cI cJ cZ ad σ) A r) (by decide) (Nat.le_of_ble_eq_true rfl) ?_
  intro p e s m below meth c A hAe hnm C0 hK hX hP hD hA hS ls hl
  obtain ⟨hx, hb, hml, hown, hT, hr, hlocks⟩ := id C0
  unfold fX7_count at hd
  have hl : lv_has ls 3 [(0, .ref (ad 0)), (1, .long p1)] := hl
  refine lv_aload_n hx hb dX7_count_0 rfl (lv_at hl 0 rfl) ?_
  refine gX7_0_12 C0 hK hP wm_3_4 dX7_count_1 ?_
  refine lv_lload_n hx hb dX7_count_4 rfl (lv_at hl 1 rfl) ?_
  obtain ⟨u_1, hc_2, hd⟩ := bd hd
  refine cv_i (rest := []) C0 (mX6_countOf l dC dI cI cJ cZ (ad 34) (ad 35) (ad 36) (ad 37) n (σ.2.2 6) (σ.2.1 20) (σ.2.2 7) p1 hc_2 _) gv_X7_217 yd_X6_countOf ⟨rfl, rfl, Nat.le_of_ble_eq_true rfl, Nat.le_of_ble_eq_true rfl, Nat.zero_le _, Nat.zero_le _⟩ xT_b xT_w hK hP hD hS hA 34 4 (tC_service rfl rfl rfl) hl.1 rfl (Nat.le_of_ble_eq_true rfl) dX7_count_5 6 34 rfl rfl (tN_service_ rfl rfl rfl) (fun H locs hP hD hS => ?_)
  obtain rfl := Option.some.inj hd
  exact my_iret C0 hK hP hD hS dX7_count_8
def fX7_kept (n : Nat) (σ : St) (p1 : Int64) : Option (Int32) := (fX1_endOf n (σ.2.2 8) (σ.2.2 9) (σ.2.1 21) (σ.1 11) p1).bind (fun u_1 => some u_1)
set_option maxHeartbeats 4000000 in
set_option maxRecDepth 100000 in
theorem mX7_kept (l : Launch) (dC : Nat → ClassId) (dI : Nat → Nat → Nat) (cI cJ cZ : ClassId) (ad : Nat → Nat) (n : Nat) (σ : St) (p1 : Int64) {r : Int32} (hd : fX7_kept n σ p1 = some r) (sz : Nat)  : Met l yX7_kept (wS yX7_kept cX7_kept 3 (some .int)) { frames := 2, cells := 0, slots := 0, locals := 46 } (pC (dC, dI) (kT cI cJ cZ) xC (vX7 cI cJ cZ ad σ) sz [.ref (ad 0), .long p1]) (qI (dC, dI) (kT cI cJ cZ) (vX7 cI cJ cZ ad σ) (va_A (vX7 cI cJ cZ ad σ) sz) r) 0 0 (va_A (vX7 cI cJ cZ ad σ) sz) := by
  refine my_ent (fun A => qI (dC, dI) (kT cI cJ cZ) (vX7 cI cJ cZ ad σ) A r) (by decide) (Nat.le_of_ble_eq_true rfl) ?_
  intro p e s m below meth c A hAe hnm C0 hK hX hP hD hA hS ls hl
  obtain ⟨hx, hb, hml, hown, hT, hr, hlocks⟩ := id C0
  unfold fX7_kept at hd
  have hl : lv_has ls 3 [(0, .ref (ad 0)), (1, .long p1)] := hl
  refine lv_aload_n hx hb dX7_kept_0 rfl (lv_at hl 0 rfl) ?_
  refine gX7_0_13 C0 hK hP wm_3_8 dX7_kept_1 ?_
  refine lv_lload_n hx hb dX7_kept_4 rfl (lv_at hl 1 rfl) ?_
  obtain ⟨u_1, hc_2, hd⟩ := bd hd
  refine cv_i (rest := []) C0 (mX1_endOf l dC dI cI cJ cZ (ad 38) (ad 39) (ad 40) (ad 41) n (σ.2.2 8) (σ.2.2 9) (σ.2.1 21) (σ.1 11) p1 hc_2 _) gv_X7_221 yd_X1_endOf ⟨rfl, rfl, Nat.le_of_ble_eq_true rfl, Nat.le_of_ble_eq_true rfl, Nat.zero_le _, Nat.zero_le _⟩ xT_b xT_w hK hP hD hS hA 38 4 (tC_keptAnswers rfl rfl rfl rfl) hl.1 rfl (Nat.le_of_ble_eq_true rfl) dX7_kept_5 1 38 rfl rfl (tN_keptAnswers_ rfl rfl rfl rfl) (fun H locs hP hD hS => ?_)
  obtain rfl := Option.some.inj hd
  exact my_iret C0 hK hP hD hS dX7_kept_8
def fX7_save (n : Nat) (σ : St)  : Option (Int32 × St) := (fX4_copyFrom (σ.2.1 7) (σ.2.1 8) (σ.2.1 9) (σ.2.2 3) (σ.1 4) (σ.1 5) (σ.1 18) (σ.1 19) (σ.2.1 3) (σ.2.1 4) (σ.2.1 5) (σ.2.2 2) (σ.1 2) (σ.1 3) (σ.1 16) (σ.1 17)).bind (fun u_1 => (fX7_goOn n (sI (sI (sI (sI (sL (sA (sA (sA σ 7 u_1.1) 8 u_1.2.1) 9 u_1.2.2.1) 3 u_1.2.2.2.1) 4 u_1.2.2.2.2.1) 5 u_1.2.2.2.2.2.1) 18 u_1.2.2.2.2.2.2.1) 19 u_1.2.2.2.2.2.2.2)).bind (fun u_3 => some (((u_3.1 16) + (u_3.1 6)) + (u_3.1 17), u_3)))
set_option maxHeartbeats 4000000 in
set_option maxRecDepth 100000 in
theorem mX7_save (l : Launch) (dC : Nat → ClassId) (dI : Nat → Nat → Nat) (cI cJ cZ : ClassId) (ad : Nat → Nat) (n : Nat) (σ : St)  {r : Int32 × St} (hd : fX7_save n σ  = some r) (sz : Nat)  : Met l yX7_save (wS yX7_save cX7_save 1 (some .int)) { frames := 5, cells := 0, slots := 0, locals := 110 } (pC (dC, dI) (kT cI cJ cZ) xC (vX7 cI cJ cZ ad σ) sz [.ref (ad 0)]) (qI (dC, dI) (kT cI cJ cZ) (vX7 cI cJ cZ ad r.2) (va_A (vX7 cI cJ cZ ad σ) sz) r.1) 0 0 (va_A (vX7 cI cJ cZ ad σ) sz) := by
  refine my_ent (fun A => qI (dC, dI) (kT cI cJ cZ) (vX7 cI cJ cZ ad r.2) A r.1) (by decide) (Nat.le_of_ble_eq_true rfl) ?_
  intro p e s m below meth c A hAe hnm C0 hK hX hP hD hA hS ls hl
  obtain ⟨hx, hb, hml, hown, hT, hr, hlocks⟩ := id C0
  unfold fX7_save at hd
  have hl : lv_has ls 1 [(0, .ref (ad 0))] := hl
  refine lv_aload_n hx hb dX7_save_0 rfl (lv_at hl 0 rfl) ?_
  refine gX7_0_5 C0 hK hP wm_2_9 dX7_save_1 ?_
  refine lv_aload_n hx hb dX7_save_4 rfl (lv_at hl 0 rfl) ?_
  refine gX7_0_4 C0 hK hP wm_2_8 dX7_save_5 ?_
  obtain ⟨u_1, hc_2, hd⟩ := bd hd
  refine cv_v (rest := []) C0 (mX4_copyFrom_s l dC dI cI cJ cZ (ad 12) (ad 13) (ad 14) (ad 15) (ad 16) (ad 7) (ad 8) (ad 9) (ad 10) (ad 11) (σ.2.1 7) (σ.2.1 8) (σ.2.1 9) (σ.2.2 3) (σ.1 4) (σ.1 5) (σ.1 18) (σ.1 19) (σ.2.1 3) (σ.2.1 4) (σ.2.1 5) (σ.2.2 2) (σ.1 2) (σ.1 3) (σ.1 16) (σ.1 17)  hc_2 _) gv_X7_224 yd_X4_copyFrom ⟨rfl, rfl, Nat.le_of_ble_eq_true rfl, Nat.le_of_ble_eq_true rfl, Nat.zero_le _, Nat.zero_le _⟩ xT_b xT_w hK hP hD hS hA 7 10 (tC_live_saved rfl rfl rfl rfl rfl rfl rfl rfl rfl rfl rfl rfl rfl rfl rfl rfl) hl.1 rfl (Nat.le_of_ble_eq_true rfl) dX7_save_8 4 12 rfl rfl (tN_live_saved_saved_states_results_tries_settledValues_items_outs_waiting_settled rfl rfl rfl rfl rfl rfl rfl rfl) (fun H locs hP hD hS => ?_)
  refine lv_aload_n hx hb dX7_save_11 rfl (lv_at hl 0 rfl) ?_
  obtain ⟨u_3, hc_4, hd⟩ := bd hd
  refine cw_v (rest := []) C0 (mX7_goOn l dC dI cI cJ cZ ad n (sI (sI (sI (sI (sL (sA (sA (sA σ 7 u_1.1) 8 u_1.2.1) 9 u_1.2.2.1) 3 u_1.2.2.2.1) 4 u_1.2.2.2.2.1) 5 u_1.2.2.2.2.2.1) 18 u_1.2.2.2.2.2.2.1) 19 u_1.2.2.2.2.2.2.2)  hc_4 _) gv_X7_117 yd_X7_goOn ⟨rfl, rfl, Nat.le_of_ble_eq_true rfl, Nat.le_of_ble_eq_true rfl, Nat.zero_le _, Nat.zero_le _⟩ xC_b (fun U h => xC_w h hX) hK hP hD hS hA hl.1 rfl (Nat.le_of_ble_eq_true rfl) dX7_save_12 7 0 rfl rfl (fun H locs hP hD hS => ?_)
  refine lv_aload_n hx hb dX7_save_15 rfl (lv_at hl 0 rfl) ?_
  refine gX7_0_4 C0 hK hP wm_2_8 dX7_save_16 ?_
  refine gX7_7_6 C0 hK hP hX rfl dX7_save_19 ?_
  refine lv_aload_n hx hb dX7_save_22 rfl (lv_at hl 0 rfl) ?_
  refine gX7_0_7 C0 hK hP wm_2_17 dX7_save_23 ?_
  refine gX7_20_1 C0 hK hP hX rfl dX7_save_26 ?_
  refine lv_iadd hx hb dX7_save_29 ?_
  refine lv_aload_n hx hb dX7_save_30 rfl (lv_at hl 0 rfl) ?_
  refine gX7_0_4 C0 hK hP wm_2_8 dX7_save_31 ?_
  refine gX7_7_7 C0 hK hP hX rfl dX7_save_34 ?_
  refine lv_iadd hx hb dX7_save_37 ?_
  obtain rfl := Option.some.inj hd
  exact my_iret C0 hK hP hD hS dX7_save_38
def fX7_restart (n : Nat) (σ : St)  : Option (Int32 × St) := (fX4_goBackTo n (σ.2.1 3) (σ.2.1 4) (σ.2.1 5) (σ.2.2 2) (σ.1 2) (σ.1 3) (σ.1 16) (σ.1 17) (σ.2.1 7) (σ.2.1 8) (σ.2.1 9) (σ.2.2 3) (σ.1 4) (σ.1 5) (σ.1 18) (σ.1 19)).bind (fun u_1 => (fX1_forgetAll (σ.2.2 8) (σ.2.2 9) (σ.2.1 21) (σ.1 11)).bind (fun u_3 => (fX7_askAgainAllWorking n (sI (sI (sI (sI (sL (sA (sA (sA σ 3 u_1.1) 4 u_1.2.1) 5 u_1.2.2.1) 2 u_1.2.2.2.1) 3 u_1.2.2.2.2.1) 16 u_1.2.2.2.2.2.1) 17 u_1.2.2.2.2.2.2) 11 u_3)).bind (fun u_5 => (fX7_goOn n (sI u_5 15 ((u_5.1 15) + (1 : Int32)))).bind (fun u_7 => some (u_7.1 6, u_7)))))
set_option maxHeartbeats 4000000 in
set_option maxRecDepth 100000 in
theorem mX7_restart (l : Launch) (dC : Nat → ClassId) (dI : Nat → Nat → Nat) (cI cJ cZ : ClassId) (ad : Nat → Nat) (n : Nat) (σ : St)  {r : Int32 × St} (hd : fX7_restart n σ  = some r) (sz : Nat)  : Met l yX7_restart (wS yX7_restart cX7_restart 1 (some .int)) { frames := 5, cells := 0, slots := 0, locals := 110 } (pC (dC, dI) (kT cI cJ cZ) xC (vX7 cI cJ cZ ad σ) sz [.ref (ad 0)]) (qI (dC, dI) (kT cI cJ cZ) (vX7 cI cJ cZ ad r.2) (va_A (vX7 cI cJ cZ ad σ) sz) r.1) 0 0 (va_A (vX7 cI cJ cZ ad σ) sz) := by
  refine my_ent (fun A => qI (dC, dI) (kT cI cJ cZ) (vX7 cI cJ cZ ad r.2) A r.1) (by decide) (Nat.le_of_ble_eq_true rfl) ?_
  intro p e s m below meth c A hAe hnm C0 hK hX hP hD hA hS ls hl
  obtain ⟨hx, hb, hml, hown, hT, hr, hlocks⟩ := id C0
  unfold fX7_restart at hd
  have hl : lv_has ls 1 [(0, .ref (ad 0))] := hl
  refine lv_aload_n hx hb dX7_restart_0 rfl (lv_at hl 0 rfl) ?_
  refine gX7_0_4 C0 hK hP wm_2_8 dX7_restart_1 ?_
  refine lv_aload_n hx hb dX7_restart_4 rfl (lv_at hl 0 rfl) ?_
  refine gX7_0_5 C0 hK hP wm_2_9 dX7_restart_5 ?_
  obtain ⟨u_1, hc_2, hd⟩ := bd hd
  refine cv_v (rest := []) C0 (mX4_goBackTo l dC dI cI cJ cZ (ad 7) (ad 8) (ad 9) (ad 10) (ad 11) (ad 12) (ad 13) (ad 14) (ad 15) (ad 16) n (σ.2.1 3) (σ.2.1 4) (σ.2.1 5) (σ.2.2 2) (σ.1 2) (σ.1 3) (σ.1 16) (σ.1 17) (σ.2.1 7) (σ.2.1 8) (σ.2.1 9) (σ.2.2 3) (σ.1 4) (σ.1 5) (σ.1 18) (σ.1 19)  hc_2 _) gv_X7_235 yd_X4_goBackTo ⟨rfl, rfl, Nat.le_of_ble_eq_true rfl, Nat.le_of_ble_eq_true rfl, Nat.zero_le _, Nat.zero_le _⟩ xT_b xT_w hK hP hD hS hA 7 10 (tC_live_saved rfl rfl rfl rfl rfl rfl rfl rfl rfl rfl rfl rfl rfl rfl rfl rfl) hl.1 rfl (Nat.le_of_ble_eq_true rfl) dX7_restart_8 4 7 rfl rfl (tN_live_saved_live_states_results_tries_settledValues_outs_waiting_settled rfl rfl rfl rfl rfl rfl rfl rfl rfl) (fun H locs hP hD hS => ?_)
  refine lv_aload_n hx hb dX7_restart_11 rfl (lv_at hl 0 rfl) ?_
  refine gX7_0_13 C0 hK hP wm_3_8 dX7_restart_12 ?_
  obtain ⟨u_3, hc_4, hd⟩ := bd hd
  refine cv_v (rest := []) C0 (mX1_forgetAll l dC dI cI cJ cZ (ad 38) (ad 39) (ad 40) (ad 41) (σ.2.2 8) (σ.2.2 9) (σ.2.1 21) (σ.1 11)  hc_4 _) gv_X7_238 yd_X1_forgetAll ⟨rfl, rfl, Nat.le_of_ble_eq_true rfl, Nat.le_of_ble_eq_true rfl, Nat.zero_le _, Nat.zero_le _⟩ xT_b xT_w hK hP hD hS hA 38 4 (tC_keptAnswers ((sI_L).trans ((sI_L).trans ((sI_L).trans ((sL_n (by decide)).trans ((sA_L).trans ((sA_L).trans (sA_L))))))) ((sI_L).trans ((sI_L).trans ((sI_L).trans ((sL_n (by decide)).trans ((sA_L).trans ((sA_L).trans (sA_L))))))) ((sI_A).trans ((sI_A).trans ((sI_A).trans ((sL_A).trans ((sA_n (by decide)).trans ((sA_n (by decide)).trans (sA_n (by decide)))))))) ((sI_n (by decide)).trans ((sI_n (by decide)).trans ((sI_n (by decide)).trans ((sL_I).trans ((sA_I).trans ((sA_I).trans (sA_I)))))))) hl.1 rfl (Nat.le_of_ble_eq_true rfl) dX7_restart_15 1 38 rfl rfl (tN_keptAnswers_size ((sI_L).trans ((sI_L).trans ((sI_L).trans ((sL_n (by decide)).trans ((sA_L).trans ((sA_L).trans (sA_L))))))) ((sI_L).trans ((sI_L).trans ((sI_L).trans ((sL_n (by decide)).trans ((sA_L).trans ((sA_L).trans (sA_L))))))) ((sI_A).trans ((sI_A).trans ((sI_A).trans ((sL_A).trans ((sA_n (by decide)).trans ((sA_n (by decide)).trans (sA_n (by decide))))))))) (fun H locs hP hD hS => ?_)
  refine lv_aload_n hx hb dX7_restart_18 rfl (lv_at hl 0 rfl) ?_
  obtain ⟨u_5, hc_6, hd⟩ := bd hd
  refine cw_v (rest := []) C0 (mX7_askAgainAllWorking l dC dI cI cJ cZ ad n (sI (sI (sI (sI (sL (sA (sA (sA σ 3 u_1.1) 4 u_1.2.1) 5 u_1.2.2.1) 2 u_1.2.2.2.1) 3 u_1.2.2.2.2.1) 16 u_1.2.2.2.2.2.1) 17 u_1.2.2.2.2.2.2) 11 u_3)  hc_6 _) gv_X7_241 yd_X7_askAgainAllWorking ⟨rfl, rfl, Nat.le_of_ble_eq_true rfl, Nat.le_of_ble_eq_true rfl, Nat.zero_le _, Nat.zero_le _⟩ xC_b (fun U h => xC_w h hX) hK hP hD hS hA hl.1 rfl (Nat.le_of_ble_eq_true rfl) dX7_restart_19 7 0 rfl rfl (fun H locs hP hD hS => ?_)
  refine lv_aload_n hx hb dX7_restart_22 rfl (lv_at hl 0 rfl) ?_
  refine lv_dup hx hb dX7_restart_23 rfl ?_
  refine gX7_0_17 C0 hK hP wm_3_12 rfl dX7_restart_24 ?_
  refine lv_iconst (v := 1) hx hb dX7_restart_27 (by decide) ?_
  refine lv_iadd hx hb dX7_restart_28 ?_
  refine pX7_0_17 C0 hK hP hD hS wm_3_12 dX7_restart_29 (fun H locs hP hD hS => ?_)
  refine lv_aload_n hx hb dX7_restart_32 rfl (lv_at hl 0 rfl) ?_
  obtain ⟨u_7, hc_8, hd⟩ := bd hd
  refine cw_v (rest := []) C0 (mX7_goOn l dC dI cI cJ cZ ad n (sI u_5 15 ((u_5.1 15) + (1 : Int32)))  hc_8 _) gv_X7_117 yd_X7_goOn ⟨rfl, rfl, Nat.le_of_ble_eq_true rfl, Nat.le_of_ble_eq_true rfl, Nat.zero_le _, Nat.zero_le _⟩ xC_b (fun U h => xC_w h hX) hK hP hD hS hA hl.1 rfl (Nat.le_of_ble_eq_true rfl) dX7_restart_33 7 0 rfl rfl (fun H locs hP hD hS => ?_)
  refine lv_aload_n hx hb dX7_restart_36 rfl (lv_at hl 0 rfl) ?_
  refine gX7_0_7 C0 hK hP wm_2_17 dX7_restart_37 ?_
  refine gX7_20_1 C0 hK hP hX rfl dX7_restart_40 ?_
  obtain rfl := Option.some.inj hd
  exact my_iret C0 hK hP hD hS dX7_restart_43
def fX7_told (σ : St) (p1 : Int32) : Option (Int32) := if p1 = 0 then (some (σ.1 12)) else (if p1 = 1 then (some (σ.1 2)) else (if p1 = 2 then (some (σ.1 3)) else (if p1 = 3 then (some (σ.1 16)) else (if p1 = 4 then (some (σ.1 6)) else (if p1 = 5 then (some (σ.1 17)) else (if p1 = 6 then (some (σ.1 7)) else (if p1 = 7 then (some (σ.1 9)) else (if p1 = 8 then (some (σ.1 10)) else (if p1 = 9 then (some (σ.1 11)) else (if p1 = 10 then (some (σ.1 14)) else (if p1 = 11 then (some (σ.1 13)) else (if p1 = 12 then (some (σ.1 15)) else (some (-1 : Int32))))))))))))))
set_option maxHeartbeats 4000000 in
set_option maxRecDepth 100000 in
theorem mX7_told (l : Launch) (dC : Nat → ClassId) (dI : Nat → Nat → Nat) (cI cJ cZ : ClassId) (ad : Nat → Nat) (σ : St) (p1 : Int32) {r : Int32} (hd : fX7_told σ p1 = some r) (sz : Nat)  : Met l yX7_told (wS yX7_told cX7_told 2 (some .int)) { frames := 0, cells := 0, slots := 0, locals := 0 } (pC (dC, dI) (kT cI cJ cZ) xC (vX7 cI cJ cZ ad σ) sz [.ref (ad 0), .int p1]) (qI (dC, dI) (kT cI cJ cZ) (vX7 cI cJ cZ ad σ) (va_A (vX7 cI cJ cZ ad σ) sz) r) 0 0 (va_A (vX7 cI cJ cZ ad σ) sz) := by
  refine my_ent (fun A => qI (dC, dI) (kT cI cJ cZ) (vX7 cI cJ cZ ad σ) A r) (by decide) (Nat.le_of_ble_eq_true rfl) ?_
  intro p e s m below meth c A hAe hnm C0 hK hX hP hD hA hS ls hl
  obtain ⟨hx, hb, hml, hown, hT, hr, hlocks⟩ := id C0
  unfold fX7_told at hd
  have hl : lv_has ls 2 [(0, .ref (ad 0)), (1, .int p1)] := hl
  refine lv_iload_n hx hb dX7_told_0 rfl (lv_at hl 1 rfl) ?_
  by_cases c_1 : p1 = 0
  · replace hd := i_t hd c_1
    refine lv_tableIn (tgt := 68) (off := 67) hx hb dX7_told_1 (by rw [c_1]; decide) (by rw [c_1]; decide) (by rw [c_1]; rfl) (by decide) ?_
    refine lv_aload_n hx hb dX7_told_68 rfl (lv_at hl 0 rfl) ?_
    refine gX7_0_14 C0 hK hP wm_3_9 rfl dX7_told_69 ?_
    obtain rfl := Option.some.inj hd
    exact my_iret C0 hK hP hD hS dX7_told_72
  replace hd := i_e hd c_1
  by_cases c_2 : p1 = 1
  · replace hd := i_t hd c_2
    refine lv_tableIn (tgt := 73) (off := 72) hx hb dX7_told_1 (by rw [c_2]; decide) (by rw [c_2]; decide) (by rw [c_2]; rfl) (by decide) ?_
    refine lv_aload_n hx hb dX7_told_73 rfl (lv_at hl 0 rfl) ?_
    refine gX7_0_4 C0 hK hP wm_2_8 dX7_told_74 ?_
    refine gX7_7_4 C0 hK hP hX rfl dX7_told_77 ?_
    obtain rfl := Option.some.inj hd
    exact my_iret C0 hK hP hD hS dX7_told_80
  replace hd := i_e hd c_2
  by_cases c_3 : p1 = 2
  · replace hd := i_t hd c_3
    refine lv_tableIn (tgt := 81) (off := 80) hx hb dX7_told_1 (by rw [c_3]; decide) (by rw [c_3]; decide) (by rw [c_3]; rfl) (by decide) ?_
    refine lv_aload_n hx hb dX7_told_81 rfl (lv_at hl 0 rfl) ?_
    refine gX7_0_4 C0 hK hP wm_2_8 dX7_told_82 ?_
    refine gX7_7_5 C0 hK hP hX rfl dX7_told_85 ?_
    obtain rfl := Option.some.inj hd
    exact my_iret C0 hK hP hD hS dX7_told_88
  replace hd := i_e hd c_3
  by_cases c_4 : p1 = 3
  · replace hd := i_t hd c_4
    refine lv_tableIn (tgt := 89) (off := 88) hx hb dX7_told_1 (by rw [c_4]; decide) (by rw [c_4]; decide) (by rw [c_4]; rfl) (by decide) ?_
    refine lv_aload_n hx hb dX7_told_89 rfl (lv_at hl 0 rfl) ?_
    refine gX7_0_4 C0 hK hP wm_2_8 dX7_told_90 ?_
    refine gX7_7_6 C0 hK hP hX rfl dX7_told_93 ?_
    obtain rfl := Option.some.inj hd
    exact my_iret C0 hK hP hD hS dX7_told_96
  replace hd := i_e hd c_4
  by_cases c_5 : p1 = 4
  · replace hd := i_t hd c_5
    refine lv_tableIn (tgt := 97) (off := 96) hx hb dX7_told_1 (by rw [c_5]; decide) (by rw [c_5]; decide) (by rw [c_5]; rfl) (by decide) ?_
    refine lv_aload_n hx hb dX7_told_97 rfl (lv_at hl 0 rfl) ?_
    refine gX7_0_7 C0 hK hP wm_2_17 dX7_told_98 ?_
    refine gX7_20_1 C0 hK hP hX rfl dX7_told_101 ?_
    obtain rfl := Option.some.inj hd
    exact my_iret C0 hK hP hD hS dX7_told_104
  replace hd := i_e hd c_5
  by_cases c_6 : p1 = 5
  · replace hd := i_t hd c_6
    refine lv_tableIn (tgt := 105) (off := 104) hx hb dX7_told_1 (by rw [c_6]; decide) (by rw [c_6]; decide) (by rw [c_6]; rfl) (by decide) ?_
    refine lv_aload_n hx hb dX7_told_105 rfl (lv_at hl 0 rfl) ?_
    refine gX7_0_4 C0 hK hP wm_2_8 dX7_told_106 ?_
    refine gX7_7_7 C0 hK hP hX rfl dX7_told_109 ?_
    obtain rfl := Option.some.inj hd
    exact my_iret C0 hK hP hD hS dX7_told_112
  replace hd := i_e hd c_6
  by_cases c_7 : p1 = 6
  · replace hd := i_t hd c_7
    refine lv_tableIn (tgt := 113) (off := 112) hx hb dX7_told_1 (by rw [c_7]; decide) (by rw [c_7]; decide) (by rw [c_7]; rfl) (by decide) ?_
    refine lv_aload_n hx hb dX7_told_113 rfl (lv_at hl 0 rfl) ?_
    refine gX7_0_8 C0 hK hP wm_2_18 dX7_told_114 ?_
    refine gX7_22_1 C0 hK hP hX rfl dX7_told_117 ?_
    obtain rfl := Option.some.inj hd
    exact my_iret C0 hK hP hD hS dX7_told_120
  replace hd := i_e hd c_7
  by_cases c_8 : p1 = 7
  · replace hd := i_t hd c_8
    refine lv_tableIn (tgt := 121) (off := 120) hx hb dX7_told_1 (by rw [c_8]; decide) (by rw [c_8]; decide) (by rw [c_8]; rfl) (by decide) ?_
    refine lv_aload_n hx hb dX7_told_121 rfl (lv_at hl 0 rfl) ?_
    refine gX7_0_10 C0 hK hP wm_2_23 dX7_told_122 ?_
    refine gX7_26_3 C0 hK hP hX rfl dX7_told_125 ?_
    obtain rfl := Option.some.inj hd
    exact my_iret C0 hK hP hD hS dX7_told_128
  replace hd := i_e hd c_8
  by_cases c_9 : p1 = 8
  · replace hd := i_t hd c_9
    refine lv_tableIn (tgt := 129) (off := 128) hx hb dX7_told_1 (by rw [c_9]; decide) (by rw [c_9]; decide) (by rw [c_9]; rfl) (by decide) ?_
    refine lv_aload_n hx hb dX7_told_129 rfl (lv_at hl 0 rfl) ?_
    refine gX7_0_11 C0 hK hP wm_3_0 dX7_told_130 ?_
    refine gX7_30_3 C0 hK hP hX rfl dX7_told_133 ?_
    obtain rfl := Option.some.inj hd
    exact my_iret C0 hK hP hD hS dX7_told_136
  replace hd := i_e hd c_9
  by_cases c_10 : p1 = 9
  · replace hd := i_t hd c_10
    refine lv_tableIn (tgt := 137) (off := 136) hx hb dX7_told_1 (by rw [c_10]; decide) (by rw [c_10]; decide) (by rw [c_10]; rfl) (by decide) ?_
    refine lv_aload_n hx hb dX7_told_137 rfl (lv_at hl 0 rfl) ?_
    refine gX7_0_13 C0 hK hP wm_3_8 dX7_told_138 ?_
    refine gX7_38_3 C0 hK hP hX rfl dX7_told_141 ?_
    obtain rfl := Option.some.inj hd
    exact my_iret C0 hK hP hD hS dX7_told_144
  replace hd := i_e hd c_10
  by_cases c_11 : p1 = 10
  · replace hd := i_t hd c_11
    refine lv_tableIn (tgt := 145) (off := 144) hx hb dX7_told_1 (by rw [c_11]; decide) (by rw [c_11]; decide) (by rw [c_11]; rfl) (by decide) ?_
    refine lv_aload_n hx hb dX7_told_145 rfl (lv_at hl 0 rfl) ?_
    refine gX7_0_16 C0 hK hP wm_3_11 rfl dX7_told_146 ?_
    obtain rfl := Option.some.inj hd
    exact my_iret C0 hK hP hD hS dX7_told_149
  replace hd := i_e hd c_11
  by_cases c_12 : p1 = 11
  · replace hd := i_t hd c_12
    refine lv_tableIn (tgt := 150) (off := 149) hx hb dX7_told_1 (by rw [c_12]; decide) (by rw [c_12]; decide) (by rw [c_12]; rfl) (by decide) ?_
    refine lv_aload_n hx hb dX7_told_150 rfl (lv_at hl 0 rfl) ?_
    refine gX7_0_15 C0 hK hP wm_3_10 rfl dX7_told_151 ?_
    obtain rfl := Option.some.inj hd
    exact my_iret C0 hK hP hD hS dX7_told_154
  replace hd := i_e hd c_12
  by_cases c_13 : p1 = 12
  · replace hd := i_t hd c_13
    refine lv_tableIn (tgt := 155) (off := 154) hx hb dX7_told_1 (by rw [c_13]; decide) (by rw [c_13]; decide) (by rw [c_13]; rfl) (by decide) ?_
    refine lv_aload_n hx hb dX7_told_155 rfl (lv_at hl 0 rfl) ?_
    refine gX7_0_17 C0 hK hP wm_3_12 rfl dX7_told_156 ?_
    obtain rfl := Option.some.inj hd
    exact my_iret C0 hK hP hD hS dX7_told_159
  replace hd := i_e hd c_13
  refine lv_tableOut (tgt := 160) hx hb dX7_told_1 (by have := lv_neT (a := 0) c_1 (by decide); have := lv_neT (a := 1) c_2 (by decide); have := lv_neT (a := 2) c_3 (by decide); have := lv_neT (a := 3) c_4 (by decide); have := lv_neT (a := 4) c_5 (by decide); have := lv_neT (a := 5) c_6 (by decide); have := lv_neT (a := 6) c_7 (by decide); have := lv_neT (a := 7) c_8 (by decide); have := lv_neT (a := 8) c_9 (by decide); have := lv_neT (a := 9) c_10 (by decide); have := lv_neT (a := 10) c_11 (by decide); have := lv_neT (a := 11) c_12 (by decide); have := lv_neT (a := 12) c_13 (by decide); omega) (by decide) ?_
  refine lv_iconst (v := (-1)) hx hb dX7_told_160 (by decide) ?_
  obtain rfl := Option.some.inj hd
  exact my_iret C0 hK hP hD hS dX7_told_161
