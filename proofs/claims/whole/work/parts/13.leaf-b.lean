def fX4_hasItem (v_states : Nat → Int32) (v_results : Nat → Int32) (v_tries : Nat → Int32) (v_settledValues : Nat → Int64) (v_items : Int32) (v_outs : Int32) (v_waiting : Int32) (v_settled : Int32) (p1 : Int32) : Option (Int32) := if p1 < 0 then (some (0 : Int32)) else (if v_items ≤ p1 then (some (0 : Int32)) else (some (1 : Int32)))
set_option maxHeartbeats 4000000 in
set_option maxRecDepth 100000 in
theorem mX4_hasItem (l : Launch) (dC : Nat → ClassId) (dI : Nat → Nat → Nat) (cI cJ cZ : ClassId) (h0 h1 h2 h3 h4 : Nat) (v_states : Nat → Int32) (v_results : Nat → Int32) (v_tries : Nat → Int32) (v_settledValues : Nat → Int64) (v_items : Int32) (v_outs : Int32) (v_waiting : Int32) (v_settled : Int32) (p1 : Int32) {r : Int32} (hd : fX4_hasItem v_states v_results v_tries v_settledValues v_items v_outs v_waiting v_settled p1 = some r) (sz : Nat)  : Met l yX4_hasItem (wS yX4_hasItem cX4_hasItem 2 (some .boolean)) { frames := 0, cells := 0, slots := 0, locals := 0 } (pC (dC, dI) (kT cI cJ cZ) xT (vX4 cI cJ cZ h0 h1 h2 h3 h4 v_states v_results v_tries v_settledValues v_items v_outs v_waiting v_settled) sz [.ref h0, .int p1]) (qI (dC, dI) (kT cI cJ cZ) (vX4 cI cJ cZ h0 h1 h2 h3 h4 v_states v_results v_tries v_settledValues v_items v_outs v_waiting v_settled) (va_A (vX4 cI cJ cZ h0 h1 h2 h3 h4 v_states v_results v_tries v_settledValues v_items v_outs v_waiting v_settled) sz) r) 0 0 (va_A (vX4 cI cJ cZ h0 h1 h2 h3 h4 v_states v_results v_tries v_settledValues v_items v_outs v_waiting v_settled) sz) := by
  refine my_ent (fun A => qI (dC, dI) (kT cI cJ cZ) (vX4 cI cJ cZ h0 h1 h2 h3 h4 v_states v_results v_tries v_settledValues v_items v_outs v_waiting v_settled) A r) (by decide) (Nat.le_of_ble_eq_true rfl) ?_
  intro p e s m below meth c A hAe hnm C0 hK hX hP hD hA hS ls hl
  obtain ⟨hx, hb, hml, hown, hT, hr, hlocks⟩ := id C0
  unfold fX4_hasItem at hd
  have hl : lv_has ls 2 [(0, .ref h0), (1, .int p1)] := hl
  refine lv_iload_n hx hb dX4_hasItem_0 rfl (lv_at hl 1 rfl) ?_
  refine lv_if_lt (tgt := 16) hx hb dX4_hasItem_1 (by decide) (fun c_1 => ?_) (fun c_1 => ?_)
  · replace hd := i_t hd c_1
    refine lv_iconst (v := 0) hx hb dX4_hasItem_16 (by decide) ?_
    obtain rfl := Option.some.inj hd
    exact my_zret C0 hK hP hD hS (Or.inl rfl) dX4_hasItem_17
  · replace hd := i_e hd c_1
    refine lv_iload_n hx hb dX4_hasItem_4 rfl (lv_at hl 1 rfl) ?_
    refine lv_aload_n hx hb dX4_hasItem_5 rfl (lv_at hl 0 rfl) ?_
    refine va_get (D := (dC, dI)) (ci := 4) (v := .int v_items) (C := RX4) (T := TX4) (N := 8) hx hb hT inlX4 hown hK hP 0 rfl rfl 4 (by decide) (hT _ wm_4_15) (fun _ h9 => h9) rfl dX4_hasItem_6 ?_
    refine lv_icmp_ge (tgt := 16) hx hb dX4_hasItem_9 (by decide) (fun c_2 => ?_) (fun c_2 => ?_)
    · replace hd := i_t hd c_2
      refine lv_iconst (v := 0) hx hb dX4_hasItem_16 (by decide) ?_
      obtain rfl := Option.some.inj hd
      exact my_zret C0 hK hP hD hS (Or.inl rfl) dX4_hasItem_17
    · replace hd := i_e hd c_2
      refine lv_iconst (v := 1) hx hb dX4_hasItem_12 (by decide) ?_
      refine lv_goto (tgt := 17) hx hb dX4_hasItem_13 (by decide) ?_
      obtain rfl := Option.some.inj hd
      exact my_zret C0 hK hP hD hS (Or.inr rfl) dX4_hasItem_17
def fX4_stateOf (v_states : Nat → Int32) (v_results : Nat → Int32) (v_tries : Nat → Int32) (v_settledValues : Nat → Int64) (v_items : Int32) (v_outs : Int32) (v_waiting : Int32) (v_settled : Int32) (p1 : Int32) : Option (Int32) := (fX4_hasItem v_states v_results v_tries v_settledValues v_items v_outs v_waiting v_settled p1).bind (fun u_1 => if u_1 = 0 then (some (-1 : Int32)) else (ix p1 300 (some (v_states p1.toNatClampNeg))))
set_option maxHeartbeats 4000000 in
set_option maxRecDepth 100000 in
theorem mX4_stateOf (l : Launch) (dC : Nat → ClassId) (dI : Nat → Nat → Nat) (cI cJ cZ : ClassId) (h0 h1 h2 h3 h4 : Nat) (v_states : Nat → Int32) (v_results : Nat → Int32) (v_tries : Nat → Int32) (v_settledValues : Nat → Int64) (v_items : Int32) (v_outs : Int32) (v_waiting : Int32) (v_settled : Int32) (p1 : Int32) {r : Int32} (hd : fX4_stateOf v_states v_results v_tries v_settledValues v_items v_outs v_waiting v_settled p1 = some r) (sz : Nat)  : Met l yX4_stateOf (wS yX4_stateOf cX4_stateOf 2 (some .int)) { frames := 1, cells := 0, slots := 0, locals := 21 } (pC (dC, dI) (kT cI cJ cZ) xT (vX4 cI cJ cZ h0 h1 h2 h3 h4 v_states v_results v_tries v_settledValues v_items v_outs v_waiting v_settled) sz [.ref h0, .int p1]) (qI (dC, dI) (kT cI cJ cZ) (vX4 cI cJ cZ h0 h1 h2 h3 h4 v_states v_results v_tries v_settledValues v_items v_outs v_waiting v_settled) (va_A (vX4 cI cJ cZ h0 h1 h2 h3 h4 v_states v_results v_tries v_settledValues v_items v_outs v_waiting v_settled) sz) r) 0 0 (va_A (vX4 cI cJ cZ h0 h1 h2 h3 h4 v_states v_results v_tries v_settledValues v_items v_outs v_waiting v_settled) sz) := by
  refine my_ent (fun A => qI (dC, dI) (kT cI cJ cZ) (vX4 cI cJ cZ h0 h1 h2 h3 h4 v_states v_results v_tries v_settledValues v_items v_outs v_waiting v_settled) A r) (by decide) (Nat.le_of_ble_eq_true rfl) ?_
  intro p e s m below meth c A hAe hnm C0 hK hX hP hD hA hS ls hl
  obtain ⟨hx, hb, hml, hown, hT, hr, hlocks⟩ := id C0
  unfold fX4_stateOf at hd
  have hl : lv_has ls 2 [(0, .ref h0), (1, .int p1)] := hl
  refine lv_aload_n hx hb dX4_stateOf_0 rfl (lv_at hl 0 rfl) ?_
  refine lv_iload_n hx hb dX4_stateOf_1 rfl (lv_at hl 1 rfl) ?_
  obtain ⟨u_1, hc_2, hd⟩ := bd hd
  refine cv_i (W' := vX4 cI cJ cZ h0 h1 h2 h3 h4 v_states v_results v_tries v_settledValues v_items v_outs v_waiting v_settled) (Wn := vX4 cI cJ cZ h0 h1 h2 h3 h4 v_states v_results v_tries v_settledValues v_items v_outs v_waiting v_settled) (rest := []) C0 (mX4_hasItem l dC dI cI cJ cZ h0 h1 h2 h3 h4 v_states v_results v_tries v_settledValues v_items v_outs v_waiting v_settled p1 hc_2 _) gv_X4_38 yd_X4_hasItem ⟨rfl, rfl, Nat.le_of_ble_eq_true rfl, Nat.le_of_ble_eq_true rfl, Nat.zero_le _, Nat.zero_le _⟩ xT_b xT_w hK hP hD hS hA 0 5 rfl hl.1 rfl (Nat.le_of_ble_eq_true rfl) dX4_stateOf_2 4 0 rfl rfl rfl (fun H locs hP hD hS => ?_)
  refine lv_if_eq (tgt := 17) hx hb dX4_stateOf_5 (by decide) (fun c_3 => ?_) (fun c_3 => ?_)
  · replace hd := i_t hd c_3
    refine lv_iconst (v := (-1)) hx hb dX4_stateOf_17 (by decide) ?_
    obtain rfl := Option.some.inj hd
    exact my_iret C0 hK hP hD hS dX4_stateOf_18
  · replace hd := i_e hd c_3
    refine lv_aload_n hx hb dX4_stateOf_8 rfl (lv_at hl 0 rfl) ?_
    refine va_get (D := (dC, dI)) (ci := 4) (v := .ref h1) (C := RX4) (T := TX4) (N := 8) hx hb hT inlX4 hown hK hP 0 rfl rfl 0 (by decide) (hT _ wm_4_11) (fun _ h9 => h9) rfl dX4_stateOf_9 ?_
    refine lv_iload_n hx hb dX4_stateOf_12 rfl (lv_at hl 1 rfl) ?_
    obtain ⟨g_4, hd⟩ := ix_some hd
    refine va_iald hx hb hK hP 1 0 rfl rfl g_4 dX4_stateOf_13 ?_
    refine lv_goto (tgt := 18) hx hb dX4_stateOf_14 (by decide) ?_
    obtain rfl := Option.some.inj hd
    exact my_iret C0 hK hP hD hS dX4_stateOf_18
def fX4_resultOf (v_states : Nat → Int32) (v_results : Nat → Int32) (v_tries : Nat → Int32) (v_settledValues : Nat → Int64) (v_items : Int32) (v_outs : Int32) (v_waiting : Int32) (v_settled : Int32) (p1 : Int32) : Option (Int32) := (fX4_hasItem v_states v_results v_tries v_settledValues v_items v_outs v_waiting v_settled p1).bind (fun u_1 => if u_1 = 0 then (some (-1 : Int32)) else (ix p1 300 (some (v_results p1.toNatClampNeg))))
set_option maxHeartbeats 4000000 in
set_option maxRecDepth 100000 in
theorem mX4_resultOf (l : Launch) (dC : Nat → ClassId) (dI : Nat → Nat → Nat) (cI cJ cZ : ClassId) (h0 h1 h2 h3 h4 : Nat) (v_states : Nat → Int32) (v_results : Nat → Int32) (v_tries : Nat → Int32) (v_settledValues : Nat → Int64) (v_items : Int32) (v_outs : Int32) (v_waiting : Int32) (v_settled : Int32) (p1 : Int32) {r : Int32} (hd : fX4_resultOf v_states v_results v_tries v_settledValues v_items v_outs v_waiting v_settled p1 = some r) (sz : Nat)  : Met l yX4_resultOf (wS yX4_resultOf cX4_resultOf 2 (some .int)) { frames := 1, cells := 0, slots := 0, locals := 21 } (pC (dC, dI) (kT cI cJ cZ) xT (vX4 cI cJ cZ h0 h1 h2 h3 h4 v_states v_results v_tries v_settledValues v_items v_outs v_waiting v_settled) sz [.ref h0, .int p1]) (qI (dC, dI) (kT cI cJ cZ) (vX4 cI cJ cZ h0 h1 h2 h3 h4 v_states v_results v_tries v_settledValues v_items v_outs v_waiting v_settled) (va_A (vX4 cI cJ cZ h0 h1 h2 h3 h4 v_states v_results v_tries v_settledValues v_items v_outs v_waiting v_settled) sz) r) 0 0 (va_A (vX4 cI cJ cZ h0 h1 h2 h3 h4 v_states v_results v_tries v_settledValues v_items v_outs v_waiting v_settled) sz) := by
  refine my_ent (fun A => qI (dC, dI) (kT cI cJ cZ) (vX4 cI cJ cZ h0 h1 h2 h3 h4 v_states v_results v_tries v_settledValues v_items v_outs v_waiting v_settled) A r) (by decide) (Nat.le_of_ble_eq_true rfl) ?_
  intro p e s m below meth c A hAe hnm C0 hK hX hP hD hA hS ls hl
  obtain ⟨hx, hb, hml, hown, hT, hr, hlocks⟩ := id C0
  unfold fX4_resultOf at hd
  have hl : lv_has ls 2 [(0, .ref h0), (1, .int p1)] := hl
  refine lv_aload_n hx hb dX4_resultOf_0 rfl (lv_at hl 0 rfl) ?_
  refine lv_iload_n hx hb dX4_resultOf_1 rfl (lv_at hl 1 rfl) ?_
  obtain ⟨u_1, hc_2, hd⟩ := bd hd
  refine cv_i (W' := vX4 cI cJ cZ h0 h1 h2 h3 h4 v_states v_results v_tries v_settledValues v_items v_outs v_waiting v_settled) (Wn := vX4 cI cJ cZ h0 h1 h2 h3 h4 v_states v_results v_tries v_settledValues v_items v_outs v_waiting v_settled) (rest := []) C0 (mX4_hasItem l dC dI cI cJ cZ h0 h1 h2 h3 h4 v_states v_results v_tries v_settledValues v_items v_outs v_waiting v_settled p1 hc_2 _) gv_X4_38 yd_X4_hasItem ⟨rfl, rfl, Nat.le_of_ble_eq_true rfl, Nat.le_of_ble_eq_true rfl, Nat.zero_le _, Nat.zero_le _⟩ xT_b xT_w hK hP hD hS hA 0 5 rfl hl.1 rfl (Nat.le_of_ble_eq_true rfl) dX4_resultOf_2 4 0 rfl rfl rfl (fun H locs hP hD hS => ?_)
  refine lv_if_eq (tgt := 17) hx hb dX4_resultOf_5 (by decide) (fun c_3 => ?_) (fun c_3 => ?_)
  · replace hd := i_t hd c_3
    refine lv_iconst (v := (-1)) hx hb dX4_resultOf_17 (by decide) ?_
    obtain rfl := Option.some.inj hd
    exact my_iret C0 hK hP hD hS dX4_resultOf_18
  · replace hd := i_e hd c_3
    refine lv_aload_n hx hb dX4_resultOf_8 rfl (lv_at hl 0 rfl) ?_
    refine va_get (D := (dC, dI)) (ci := 4) (v := .ref h2) (C := RX4) (T := TX4) (N := 8) hx hb hT inlX4 hown hK hP 0 rfl rfl 1 (by decide) (hT _ wm_4_12) (fun _ h9 => h9) rfl dX4_resultOf_9 ?_
    refine lv_iload_n hx hb dX4_resultOf_12 rfl (lv_at hl 1 rfl) ?_
    obtain ⟨g_4, hd⟩ := ix_some hd
    refine va_iald hx hb hK hP 2 0 rfl rfl g_4 dX4_resultOf_13 ?_
    refine lv_goto (tgt := 18) hx hb dX4_resultOf_14 (by decide) ?_
    obtain rfl := Option.some.inj hd
    exact my_iret C0 hK hP hD hS dX4_resultOf_18
def fX4_triesOf (v_states : Nat → Int32) (v_results : Nat → Int32) (v_tries : Nat → Int32) (v_settledValues : Nat → Int64) (v_items : Int32) (v_outs : Int32) (v_waiting : Int32) (v_settled : Int32) (p1 : Int32) : Option (Int32) := (fX4_hasItem v_states v_results v_tries v_settledValues v_items v_outs v_waiting v_settled p1).bind (fun u_1 => if u_1 = 0 then (some (0 : Int32)) else (ix p1 300 (some (v_tries p1.toNatClampNeg))))
set_option maxHeartbeats 4000000 in
set_option maxRecDepth 100000 in
theorem mX4_triesOf (l : Launch) (dC : Nat → ClassId) (dI : Nat → Nat → Nat) (cI cJ cZ : ClassId) (h0 h1 h2 h3 h4 : Nat) (v_states : Nat → Int32) (v_results : Nat → Int32) (v_tries : Nat → Int32) (v_settledValues : Nat → Int64) (v_items : Int32) (v_outs : Int32) (v_waiting : Int32) (v_settled : Int32) (p1 : Int32) {r : Int32} (hd : fX4_triesOf v_states v_results v_tries v_settledValues v_items v_outs v_waiting v_settled p1 = some r) (sz : Nat)  : Met l yX4_triesOf (wS yX4_triesOf cX4_triesOf 2 (some .int)) { frames := 1, cells := 0, slots := 0, locals := 21 } (pC (dC, dI) (kT cI cJ cZ) xT (vX4 cI cJ cZ h0 h1 h2 h3 h4 v_states v_results v_tries v_settledValues v_items v_outs v_waiting v_settled) sz [.ref h0, .int p1]) (qI (dC, dI) (kT cI cJ cZ) (vX4 cI cJ cZ h0 h1 h2 h3 h4 v_states v_results v_tries v_settledValues v_items v_outs v_waiting v_settled) (va_A (vX4 cI cJ cZ h0 h1 h2 h3 h4 v_states v_results v_tries v_settledValues v_items v_outs v_waiting v_settled) sz) r) 0 0 (va_A (vX4 cI cJ cZ h0 h1 h2 h3 h4 v_states v_results v_tries v_settledValues v_items v_outs v_waiting v_settled) sz) := by
  refine my_ent (fun A => qI (dC, dI) (kT cI cJ cZ) (vX4 cI cJ cZ h0 h1 h2 h3 h4 v_states v_results v_tries v_settledValues v_items v_outs v_waiting v_settled) A r) (by decide) (Nat.le_of_ble_eq_true rfl) ?_
  intro p e s m below meth c A hAe hnm C0 hK hX hP hD hA hS ls hl
  obtain ⟨hx, hb, hml, hown, hT, hr, hlocks⟩ := id C0
  unfold fX4_triesOf at hd
  have hl : lv_has ls 2 [(0, .ref h0), (1, .int p1)] := hl
  refine lv_aload_n hx hb dX4_triesOf_0 rfl (lv_at hl 0 rfl) ?_
  refine lv_iload_n hx hb dX4_triesOf_1 rfl (lv_at hl 1 rfl) ?_
  obtain ⟨u_1, hc_2, hd⟩ := bd hd
  refine cv_i (W' := vX4 cI cJ cZ h0 h1 h2 h3 h4 v_states v_results v_tries v_settledValues v_items v_outs v_waiting v_settled) (Wn := vX4 cI cJ cZ h0 h1 h2 h3 h4 v_states v_results v_tries v_settledValues v_items v_outs v_waiting v_settled) (rest := []) C0 (mX4_hasItem l dC dI cI cJ cZ h0 h1 h2 h3 h4 v_states v_results v_tries v_settledValues v_items v_outs v_waiting v_settled p1 hc_2 _) gv_X4_38 yd_X4_hasItem ⟨rfl, rfl, Nat.le_of_ble_eq_true rfl, Nat.le_of_ble_eq_true rfl, Nat.zero_le _, Nat.zero_le _⟩ xT_b xT_w hK hP hD hS hA 0 5 rfl hl.1 rfl (Nat.le_of_ble_eq_true rfl) dX4_triesOf_2 4 0 rfl rfl rfl (fun H locs hP hD hS => ?_)
  refine lv_if_eq (tgt := 17) hx hb dX4_triesOf_5 (by decide) (fun c_3 => ?_) (fun c_3 => ?_)
  · replace hd := i_t hd c_3
    refine lv_iconst (v := 0) hx hb dX4_triesOf_17 (by decide) ?_
    obtain rfl := Option.some.inj hd
    exact my_iret C0 hK hP hD hS dX4_triesOf_18
  · replace hd := i_e hd c_3
    refine lv_aload_n hx hb dX4_triesOf_8 rfl (lv_at hl 0 rfl) ?_
    refine va_get (D := (dC, dI)) (ci := 4) (v := .ref h3) (C := RX4) (T := TX4) (N := 8) hx hb hT inlX4 hown hK hP 0 rfl rfl 2 (by decide) (hT _ wm_4_13) (fun _ h9 => h9) rfl dX4_triesOf_9 ?_
    refine lv_iload_n hx hb dX4_triesOf_12 rfl (lv_at hl 1 rfl) ?_
    obtain ⟨g_4, hd⟩ := ix_some hd
    refine va_iald hx hb hK hP 3 0 rfl rfl g_4 dX4_triesOf_13 ?_
    refine lv_goto (tgt := 18) hx hb dX4_triesOf_14 (by decide) ?_
    obtain rfl := Option.some.inj hd
    exact my_iret C0 hK hP hD hS dX4_triesOf_18
def fX4_valueOf (v_states : Nat → Int32) (v_results : Nat → Int32) (v_tries : Nat → Int32) (v_settledValues : Nat → Int64) (v_items : Int32) (v_outs : Int32) (v_waiting : Int32) (v_settled : Int32) (p1 : Int32) : Option (Int64) := (fX4_hasItem v_states v_results v_tries v_settledValues v_items v_outs v_waiting v_settled p1).bind (fun u_1 => if u_1 = 0 then (some (0 : Int64)) else (ix p1 300 (some (v_settledValues p1.toNatClampNeg))))
set_option maxHeartbeats 4000000 in
set_option maxRecDepth 100000 in
theorem mX4_valueOf (l : Launch) (dC : Nat → ClassId) (dI : Nat → Nat → Nat) (cI cJ cZ : ClassId) (h0 h1 h2 h3 h4 : Nat) (v_states : Nat → Int32) (v_results : Nat → Int32) (v_tries : Nat → Int32) (v_settledValues : Nat → Int64) (v_items : Int32) (v_outs : Int32) (v_waiting : Int32) (v_settled : Int32) (p1 : Int32) {r : Int64} (hd : fX4_valueOf v_states v_results v_tries v_settledValues v_items v_outs v_waiting v_settled p1 = some r) (sz : Nat)  : Met l yX4_valueOf (wS yX4_valueOf cX4_valueOf 2 (some .long)) { frames := 1, cells := 0, slots := 0, locals := 21 } (pC (dC, dI) (kT cI cJ cZ) xT (vX4 cI cJ cZ h0 h1 h2 h3 h4 v_states v_results v_tries v_settledValues v_items v_outs v_waiting v_settled) sz [.ref h0, .int p1]) (qL (dC, dI) (kT cI cJ cZ) (vX4 cI cJ cZ h0 h1 h2 h3 h4 v_states v_results v_tries v_settledValues v_items v_outs v_waiting v_settled) (va_A (vX4 cI cJ cZ h0 h1 h2 h3 h4 v_states v_results v_tries v_settledValues v_items v_outs v_waiting v_settled) sz) r) 0 0 (va_A (vX4 cI cJ cZ h0 h1 h2 h3 h4 v_states v_results v_tries v_settledValues v_items v_outs v_waiting v_settled) sz) := by
  refine my_ent (fun A => qL (dC, dI) (kT cI cJ cZ) (vX4 cI cJ cZ h0 h1 h2 h3 h4 v_states v_results v_tries v_settledValues v_items v_outs v_waiting v_settled) A r) (by decide) (Nat.le_of_ble_eq_true rfl) ?_
  intro p e s m below meth c A hAe hnm C0 hK hX hP hD hA hS ls hl
  obtain ⟨hx, hb, hml, hown, hT, hr, hlocks⟩ := id C0
  unfold fX4_valueOf at hd
  have hl : lv_has ls 2 [(0, .ref h0), (1, .int p1)] := hl
  refine lv_aload_n hx hb dX4_valueOf_0 rfl (lv_at hl 0 rfl) ?_
  refine lv_iload_n hx hb dX4_valueOf_1 rfl (lv_at hl 1 rfl) ?_
  obtain ⟨u_1, hc_2, hd⟩ := bd hd
  refine cv_i (W' := vX4 cI cJ cZ h0 h1 h2 h3 h4 v_states v_results v_tries v_settledValues v_items v_outs v_waiting v_settled) (Wn := vX4 cI cJ cZ h0 h1 h2 h3 h4 v_states v_results v_tries v_settledValues v_items v_outs v_waiting v_settled) (rest := []) C0 (mX4_hasItem l dC dI cI cJ cZ h0 h1 h2 h3 h4 v_states v_results v_tries v_settledValues v_items v_outs v_waiting v_settled p1 hc_2 _) gv_X4_38 yd_X4_hasItem ⟨rfl, rfl, Nat.le_of_ble_eq_true rfl, Nat.le_of_ble_eq_true rfl, Nat.zero_le _, Nat.zero_le _⟩ xT_b xT_w hK hP hD hS hA 0 5 rfl hl.1 rfl (Nat.le_of_ble_eq_true rfl) dX4_valueOf_2 4 0 rfl rfl rfl (fun H locs hP hD hS => ?_)
  refine lv_if_eq (tgt := 17) hx hb dX4_valueOf_5 (by decide) (fun c_3 => ?_) (fun c_3 => ?_)
  · replace hd := i_t hd c_3
    refine lv_lconst (v := 0) hx hb dX4_valueOf_17 (by decide) ?_
    obtain rfl := Option.some.inj hd
    exact my_lret C0 hK hP hD hS dX4_valueOf_18
  · replace hd := i_e hd c_3
    refine lv_aload_n hx hb dX4_valueOf_8 rfl (lv_at hl 0 rfl) ?_
    refine va_get (D := (dC, dI)) (ci := 4) (v := .ref h4) (C := RX4) (T := TX4) (N := 8) hx hb hT inlX4 hown hK hP 0 rfl rfl 3 (by decide) (hT _ wm_4_14) (fun _ h9 => h9) rfl dX4_valueOf_9 ?_
    refine lv_iload_n hx hb dX4_valueOf_12 rfl (lv_at hl 1 rfl) ?_
    obtain ⟨g_4, hd⟩ := ix_some hd
    refine va_lald hx hb hK hP 4 1 rfl rfl g_4 dX4_valueOf_13 ?_
    refine lv_goto (tgt := 18) hx hb dX4_valueOf_14 (by decide) ?_
    obtain rfl := Option.some.inj hd
    exact my_lret C0 hK hP hD hS dX4_valueOf_18
def fX4_addRow (v_states : Nat → Int32) (v_results : Nat → Int32) (v_tries : Nat → Int32) (v_settledValues : Nat → Int64) (v_items : Int32) (v_outs : Int32) (v_waiting : Int32) (v_settled : Int32)  : Option ((Nat → Int32) × (Nat → Int32) × Int32 × Int32) := if (300 : Int32) ≤ v_items then (some (v_states, v_results, v_items, v_waiting)) else (ix v_items 300 (ix v_items 300 (some (upd v_states v_items.toNatClampNeg (0 : Int32), upd v_results v_items.toNatClampNeg (-1 : Int32), v_items + (1 : Int32), v_waiting + (1 : Int32)))))
set_option maxHeartbeats 4000000 in
set_option maxRecDepth 100000 in
theorem mX4_addRow (l : Launch) (dC : Nat → ClassId) (dI : Nat → Nat → Nat) (cI cJ cZ : ClassId) (h0 h1 h2 h3 h4 : Nat) (v_states : Nat → Int32) (v_results : Nat → Int32) (v_tries : Nat → Int32) (v_settledValues : Nat → Int64) (v_items : Int32) (v_outs : Int32) (v_waiting : Int32) (v_settled : Int32)  {r : (Nat → Int32) × (Nat → Int32) × Int32 × Int32} (hd : fX4_addRow v_states v_results v_tries v_settledValues v_items v_outs v_waiting v_settled  = some r) (sz : Nat)  : Met l yX4_addRow (wS yX4_addRow cX4_addRow 1 none) { frames := 0, cells := 0, slots := 0, locals := 0 } (pC (dC, dI) (kT cI cJ cZ) xT (vX4 cI cJ cZ h0 h1 h2 h3 h4 v_states v_results v_tries v_settledValues v_items v_outs v_waiting v_settled) sz [.ref h0]) (qV (dC, dI) (kT cI cJ cZ) (vX4 cI cJ cZ h0 h1 h2 h3 h4 r.1 r.2.1 v_tries v_settledValues r.2.2.1 v_outs r.2.2.2 v_settled) (va_A (vX4 cI cJ cZ h0 h1 h2 h3 h4 v_states v_results v_tries v_settledValues v_items v_outs v_waiting v_settled) sz)) 0 0 (va_A (vX4 cI cJ cZ h0 h1 h2 h3 h4 v_states v_results v_tries v_settledValues v_items v_outs v_waiting v_settled) sz) := by
  refine my_ent (fun A => qV (dC, dI) (kT cI cJ cZ) (vX4 cI cJ cZ h0 h1 h2 h3 h4 r.1 r.2.1 v_tries v_settledValues r.2.2.1 v_outs r.2.2.2 v_settled) A) (by decide) (Nat.le_of_ble_eq_true rfl) ?_
  intro p e s m below meth c A hAe hnm C0 hK hX hP hD hA hS ls hl
  obtain ⟨hx, hb, hml, hown, hT, hr, hlocks⟩ := id C0
  unfold fX4_addRow at hd
  have hl : lv_has ls 1 [(0, .ref h0)] := hl
  refine lv_aload_n hx hb dX4_addRow_0 rfl (lv_at hl 0 rfl) ?_
  refine va_get (D := (dC, dI)) (ci := 4) (v := .int v_items) (C := RX4) (T := TX4) (N := 8) hx hb hT inlX4 hown hK hP 0 rfl rfl 4 (by decide) (hT _ wm_4_15) (fun _ h9 => h9) rfl dX4_addRow_1 ?_
  refine lv_sipush (v := 300) hx hb dX4_addRow_4 (by decide) ?_
  refine lv_icmp_ge (tgt := 50) hx hb dX4_addRow_7 (by decide) (fun c_1 => ?_) (fun c_1 => ?_)
  · replace hd := i_t hd c_1
    obtain rfl := Option.some.inj hd
    exact my_vret C0 hK hP hD hS dX4_addRow_50
  · replace hd := i_e hd c_1
    refine lv_aload_n hx hb dX4_addRow_10 rfl (lv_at hl 0 rfl) ?_
    refine va_get (D := (dC, dI)) (ci := 4) (v := .ref h1) (C := RX4) (T := TX4) (N := 8) hx hb hT inlX4 hown hK hP 0 rfl rfl 0 (by decide) (hT _ wm_4_11) (fun _ h9 => h9) rfl dX4_addRow_11 ?_
    refine lv_aload_n hx hb dX4_addRow_14 rfl (lv_at hl 0 rfl) ?_
    refine va_get (D := (dC, dI)) (ci := 4) (v := .int v_items) (C := RX4) (T := TX4) (N := 8) hx hb hT inlX4 hown hK hP 0 rfl rfl 4 (by decide) (hT _ wm_4_15) (fun _ h9 => h9) rfl dX4_addRow_15 ?_
    refine lv_iconst (v := 0) hx hb dX4_addRow_18 (by decide) ?_
    obtain ⟨g_2, hd⟩ := ix_some hd
    refine va_iast hx hb hK hP hD hS 1 0 rfl rfl g_2 dX4_addRow_19 (fun H locs hP hD hS => ?_)
    have hP : va_P (dC, dI) vwCl (vX4 cI cJ cZ h0 h1 h2 h3 h4 (upd v_states v_items.toNatClampNeg (0 : Int32)) v_results v_tries v_settledValues v_items v_outs v_waiting v_settled) H := hP
    have hD : va_D A (vX4 cI cJ cZ h0 h1 h2 h3 h4 (upd v_states v_items.toNatClampNeg (0 : Int32)) v_results v_tries v_settledValues v_items v_outs v_waiting v_settled) := hD
    refine lv_aload_n hx hb dX4_addRow_20 rfl (lv_at hl 0 rfl) ?_
    refine va_get (D := (dC, dI)) (ci := 4) (v := .ref h2) (C := RX4) (T := TX4) (N := 8) hx hb hT inlX4 hown hK hP 0 rfl rfl 1 (by decide) (hT _ wm_4_12) (fun _ h9 => h9) rfl dX4_addRow_21 ?_
    refine lv_aload_n hx hb dX4_addRow_24 rfl (lv_at hl 0 rfl) ?_
    refine va_get (D := (dC, dI)) (ci := 4) (v := .int v_items) (C := RX4) (T := TX4) (N := 8) hx hb hT inlX4 hown hK hP 0 rfl rfl 4 (by decide) (hT _ wm_4_15) (fun _ h9 => h9) rfl dX4_addRow_25 ?_
    refine lv_iconst (v := (-1)) hx hb dX4_addRow_28 (by decide) ?_
    obtain ⟨g_3, hd⟩ := ix_some hd
    refine va_iast hx hb hK hP hD hS 2 0 rfl rfl g_3 dX4_addRow_29 (fun H locs hP hD hS => ?_)
    have hP : va_P (dC, dI) vwCl (vX4 cI cJ cZ h0 h1 h2 h3 h4 (upd v_states v_items.toNatClampNeg (0 : Int32)) (upd v_results v_items.toNatClampNeg (-1 : Int32)) v_tries v_settledValues v_items v_outs v_waiting v_settled) H := hP
    have hD : va_D A (vX4 cI cJ cZ h0 h1 h2 h3 h4 (upd v_states v_items.toNatClampNeg (0 : Int32)) (upd v_results v_items.toNatClampNeg (-1 : Int32)) v_tries v_settledValues v_items v_outs v_waiting v_settled) := hD
    refine lv_aload_n hx hb dX4_addRow_30 rfl (lv_at hl 0 rfl) ?_
    refine lv_dup hx hb dX4_addRow_31 rfl ?_
    refine va_get (D := (dC, dI)) (ci := 4) (v := .int v_items) (C := RX4) (T := TX4) (N := 8) hx hb hT inlX4 hown hK hP 0 rfl rfl 4 (by decide) (hT _ wm_4_15) (fun _ h9 => h9) rfl dX4_addRow_32 ?_
    refine lv_iconst (v := 1) hx hb dX4_addRow_35 (by decide) ?_
    refine lv_iadd hx hb dX4_addRow_36 ?_
    refine va_put (D := (dC, dI)) (ci := 4) (v := .int (v_items + (1 : Int32))) (ty := .int) (C := RX4) (T := TX4) (N := 8) hx hb hT inlX4 tyX4 tyX4_ok nmX4 hown hK hP hD hS 0 rfl rfl 4 (by decide) (hT _ wm_4_15) (fun _ h9 => h9) rfl (tyX4_ok 4 (by decide)) rfl rfl (Nat.le_of_ble_eq_true rfl) dX4_addRow_37 (fun H locs hP hD hS => ?_)
    have hP : va_P (dC, dI) vwCl (vX4 cI cJ cZ h0 h1 h2 h3 h4 (upd v_states v_items.toNatClampNeg (0 : Int32)) (upd v_results v_items.toNatClampNeg (-1 : Int32)) v_tries v_settledValues (v_items + (1 : Int32)) v_outs v_waiting v_settled) H := hP
    have hD : va_D A (vX4 cI cJ cZ h0 h1 h2 h3 h4 (upd v_states v_items.toNatClampNeg (0 : Int32)) (upd v_results v_items.toNatClampNeg (-1 : Int32)) v_tries v_settledValues (v_items + (1 : Int32)) v_outs v_waiting v_settled) := hD
    refine lv_aload_n hx hb dX4_addRow_40 rfl (lv_at hl 0 rfl) ?_
    refine lv_dup hx hb dX4_addRow_41 rfl ?_
    refine va_get (D := (dC, dI)) (ci := 4) (v := .int v_waiting) (C := RX4) (T := TX4) (N := 8) hx hb hT inlX4 hown hK hP 0 rfl rfl 6 (by decide) (hT _ wm_4_17) (fun _ h9 => h9) rfl dX4_addRow_42 ?_
    refine lv_iconst (v := 1) hx hb dX4_addRow_45 (by decide) ?_
    refine lv_iadd hx hb dX4_addRow_46 ?_
    refine va_put (D := (dC, dI)) (ci := 4) (v := .int (v_waiting + (1 : Int32))) (ty := .int) (C := RX4) (T := TX4) (N := 8) hx hb hT inlX4 tyX4 tyX4_ok nmX4 hown hK hP hD hS 0 rfl rfl 6 (by decide) (hT _ wm_4_17) (fun _ h9 => h9) rfl (tyX4_ok 6 (by decide)) rfl rfl (Nat.le_of_ble_eq_true rfl) dX4_addRow_47 (fun H locs hP hD hS => ?_)
    have hP : va_P (dC, dI) vwCl (vX4 cI cJ cZ h0 h1 h2 h3 h4 (upd v_states v_items.toNatClampNeg (0 : Int32)) (upd v_results v_items.toNatClampNeg (-1 : Int32)) v_tries v_settledValues (v_items + (1 : Int32)) v_outs (v_waiting + (1 : Int32)) v_settled) H := hP
    have hD : va_D A (vX4 cI cJ cZ h0 h1 h2 h3 h4 (upd v_states v_items.toNatClampNeg (0 : Int32)) (upd v_results v_items.toNatClampNeg (-1 : Int32)) v_tries v_settledValues (v_items + (1 : Int32)) v_outs (v_waiting + (1 : Int32)) v_settled) := hD
    obtain rfl := Option.some.inj hd
    exact my_vret C0 hK hP hD hS dX4_addRow_50
def fX4_addMark (v_states : Nat → Int32) (v_results : Nat → Int32) (v_tries : Nat → Int32) (v_settledValues : Nat → Int64) (v_items : Int32) (v_outs : Int32) (v_waiting : Int32) (v_settled : Int32)  : Option ((Nat → Int32) × (Nat → Int32) × Int32 × Int32) := if (300 : Int32) ≤ v_items then (some (v_states, v_results, v_items, v_settled)) else (ix v_items 300 (ix v_items 300 (some (upd v_states v_items.toNatClampNeg (2 : Int32), upd v_results v_items.toNatClampNeg (5 : Int32), v_items + (1 : Int32), v_settled + (1 : Int32)))))
set_option maxHeartbeats 4000000 in
set_option maxRecDepth 100000 in
theorem mX4_addMark (l : Launch) (dC : Nat → ClassId) (dI : Nat → Nat → Nat) (cI cJ cZ : ClassId) (h0 h1 h2 h3 h4 : Nat) (v_states : Nat → Int32) (v_results : Nat → Int32) (v_tries : Nat → Int32) (v_settledValues : Nat → Int64) (v_items : Int32) (v_outs : Int32) (v_waiting : Int32) (v_settled : Int32)  {r : (Nat → Int32) × (Nat → Int32) × Int32 × Int32} (hd : fX4_addMark v_states v_results v_tries v_settledValues v_items v_outs v_waiting v_settled  = some r) (sz : Nat)  : Met l yX4_addMark (wS yX4_addMark cX4_addMark 1 none) { frames := 0, cells := 0, slots := 0, locals := 0 } (pC (dC, dI) (kT cI cJ cZ) xT (vX4 cI cJ cZ h0 h1 h2 h3 h4 v_states v_results v_tries v_settledValues v_items v_outs v_waiting v_settled) sz [.ref h0]) (qV (dC, dI) (kT cI cJ cZ) (vX4 cI cJ cZ h0 h1 h2 h3 h4 r.1 r.2.1 v_tries v_settledValues r.2.2.1 v_outs v_waiting r.2.2.2) (va_A (vX4 cI cJ cZ h0 h1 h2 h3 h4 v_states v_results v_tries v_settledValues v_items v_outs v_waiting v_settled) sz)) 0 0 (va_A (vX4 cI cJ cZ h0 h1 h2 h3 h4 v_states v_results v_tries v_settledValues v_items v_outs v_waiting v_settled) sz) := by
  refine my_ent (fun A => qV (dC, dI) (kT cI cJ cZ) (vX4 cI cJ cZ h0 h1 h2 h3 h4 r.1 r.2.1 v_tries v_settledValues r.2.2.1 v_outs v_waiting r.2.2.2) A) (by decide) (Nat.le_of_ble_eq_true rfl) ?_
  intro p e s m below meth c A hAe hnm C0 hK hX hP hD hA hS ls hl
  obtain ⟨hx, hb, hml, hown, hT, hr, hlocks⟩ := id C0
  unfold fX4_addMark at hd
  have hl : lv_has ls 1 [(0, .ref h0)] := hl
  refine lv_aload_n hx hb dX4_addMark_0 rfl (lv_at hl 0 rfl) ?_
  refine va_get (D := (dC, dI)) (ci := 4) (v := .int v_items) (C := RX4) (T := TX4) (N := 8) hx hb hT inlX4 hown hK hP 0 rfl rfl 4 (by decide) (hT _ wm_4_15) (fun _ h9 => h9) rfl dX4_addMark_1 ?_
  refine lv_sipush (v := 300) hx hb dX4_addMark_4 (by decide) ?_
  refine lv_icmp_ge (tgt := 50) hx hb dX4_addMark_7 (by decide) (fun c_1 => ?_) (fun c_1 => ?_)
  · replace hd := i_t hd c_1
    obtain rfl := Option.some.inj hd
    exact my_vret C0 hK hP hD hS dX4_addMark_50
  · replace hd := i_e hd c_1
    refine lv_aload_n hx hb dX4_addMark_10 rfl (lv_at hl 0 rfl) ?_
    refine va_get (D := (dC, dI)) (ci := 4) (v := .ref h1) (C := RX4) (T := TX4) (N := 8) hx hb hT inlX4 hown hK hP 0 rfl rfl 0 (by decide) (hT _ wm_4_11) (fun _ h9 => h9) rfl dX4_addMark_11 ?_
    refine lv_aload_n hx hb dX4_addMark_14 rfl (lv_at hl 0 rfl) ?_
    refine va_get (D := (dC, dI)) (ci := 4) (v := .int v_items) (C := RX4) (T := TX4) (N := 8) hx hb hT inlX4 hown hK hP 0 rfl rfl 4 (by decide) (hT _ wm_4_15) (fun _ h9 => h9) rfl dX4_addMark_15 ?_
    refine lv_iconst (v := 2) hx hb dX4_addMark_18 (by decide) ?_
    obtain ⟨g_2, hd⟩ := ix_some hd
    refine va_iast hx hb hK hP hD hS 1 0 rfl rfl g_2 dX4_addMark_19 (fun H locs hP hD hS => ?_)
    have hP : va_P (dC, dI) vwCl (vX4 cI cJ cZ h0 h1 h2 h3 h4 (upd v_states v_items.toNatClampNeg (2 : Int32)) v_results v_tries v_settledValues v_items v_outs v_waiting v_settled) H := hP
    have hD : va_D A (vX4 cI cJ cZ h0 h1 h2 h3 h4 (upd v_states v_items.toNatClampNeg (2 : Int32)) v_results v_tries v_settledValues v_items v_outs v_waiting v_settled) := hD
    refine lv_aload_n hx hb dX4_addMark_20 rfl (lv_at hl 0 rfl) ?_
    refine va_get (D := (dC, dI)) (ci := 4) (v := .ref h2) (C := RX4) (T := TX4) (N := 8) hx hb hT inlX4 hown hK hP 0 rfl rfl 1 (by decide) (hT _ wm_4_12) (fun _ h9 => h9) rfl dX4_addMark_21 ?_
    refine lv_aload_n hx hb dX4_addMark_24 rfl (lv_at hl 0 rfl) ?_
    refine va_get (D := (dC, dI)) (ci := 4) (v := .int v_items) (C := RX4) (T := TX4) (N := 8) hx hb hT inlX4 hown hK hP 0 rfl rfl 4 (by decide) (hT _ wm_4_15) (fun _ h9 => h9) rfl dX4_addMark_25 ?_
    refine lv_iconst (v := 5) hx hb dX4_addMark_28 (by decide) ?_
    obtain ⟨g_3, hd⟩ := ix_some hd
    refine va_iast hx hb hK hP hD hS 2 0 rfl rfl g_3 dX4_addMark_29 (fun H locs hP hD hS => ?_)
    have hP : va_P (dC, dI) vwCl (vX4 cI cJ cZ h0 h1 h2 h3 h4 (upd v_states v_items.toNatClampNeg (2 : Int32)) (upd v_results v_items.toNatClampNeg (5 : Int32)) v_tries v_settledValues v_items v_outs v_waiting v_settled) H := hP
    have hD : va_D A (vX4 cI cJ cZ h0 h1 h2 h3 h4 (upd v_states v_items.toNatClampNeg (2 : Int32)) (upd v_results v_items.toNatClampNeg (5 : Int32)) v_tries v_settledValues v_items v_outs v_waiting v_settled) := hD
    refine lv_aload_n hx hb dX4_addMark_30 rfl (lv_at hl 0 rfl) ?_
    refine lv_dup hx hb dX4_addMark_31 rfl ?_
    refine va_get (D := (dC, dI)) (ci := 4) (v := .int v_items) (C := RX4) (T := TX4) (N := 8) hx hb hT inlX4 hown hK hP 0 rfl rfl 4 (by decide) (hT _ wm_4_15) (fun _ h9 => h9) rfl dX4_addMark_32 ?_
    refine lv_iconst (v := 1) hx hb dX4_addMark_35 (by decide) ?_
    refine lv_iadd hx hb dX4_addMark_36 ?_
    refine va_put (D := (dC, dI)) (ci := 4) (v := .int (v_items + (1 : Int32))) (ty := .int) (C := RX4) (T := TX4) (N := 8) hx hb hT inlX4 tyX4 tyX4_ok nmX4 hown hK hP hD hS 0 rfl rfl 4 (by decide) (hT _ wm_4_15) (fun _ h9 => h9) rfl (tyX4_ok 4 (by decide)) rfl rfl (Nat.le_of_ble_eq_true rfl) dX4_addMark_37 (fun H locs hP hD hS => ?_)
    have hP : va_P (dC, dI) vwCl (vX4 cI cJ cZ h0 h1 h2 h3 h4 (upd v_states v_items.toNatClampNeg (2 : Int32)) (upd v_results v_items.toNatClampNeg (5 : Int32)) v_tries v_settledValues (v_items + (1 : Int32)) v_outs v_waiting v_settled) H := hP
    have hD : va_D A (vX4 cI cJ cZ h0 h1 h2 h3 h4 (upd v_states v_items.toNatClampNeg (2 : Int32)) (upd v_results v_items.toNatClampNeg (5 : Int32)) v_tries v_settledValues (v_items + (1 : Int32)) v_outs v_waiting v_settled) := hD
    refine lv_aload_n hx hb dX4_addMark_40 rfl (lv_at hl 0 rfl) ?_
    refine lv_dup hx hb dX4_addMark_41 rfl ?_
    refine va_get (D := (dC, dI)) (ci := 4) (v := .int v_settled) (C := RX4) (T := TX4) (N := 8) hx hb hT inlX4 hown hK hP 0 rfl rfl 7 (by decide) (hT _ wm_4_18) (fun _ h9 => h9) rfl dX4_addMark_42 ?_
    refine lv_iconst (v := 1) hx hb dX4_addMark_45 (by decide) ?_
    refine lv_iadd hx hb dX4_addMark_46 ?_
    refine va_put (D := (dC, dI)) (ci := 4) (v := .int (v_settled + (1 : Int32))) (ty := .int) (C := RX4) (T := TX4) (N := 8) hx hb hT inlX4 tyX4 tyX4_ok nmX4 hown hK hP hD hS 0 rfl rfl 7 (by decide) (hT _ wm_4_18) (fun _ h9 => h9) rfl (tyX4_ok 7 (by decide)) rfl rfl (Nat.le_of_ble_eq_true rfl) dX4_addMark_47 (fun H locs hP hD hS => ?_)
    have hP : va_P (dC, dI) vwCl (vX4 cI cJ cZ h0 h1 h2 h3 h4 (upd v_states v_items.toNatClampNeg (2 : Int32)) (upd v_results v_items.toNatClampNeg (5 : Int32)) v_tries v_settledValues (v_items + (1 : Int32)) v_outs v_waiting (v_settled + (1 : Int32))) H := hP
    have hD : va_D A (vX4 cI cJ cZ h0 h1 h2 h3 h4 (upd v_states v_items.toNatClampNeg (2 : Int32)) (upd v_results v_items.toNatClampNeg (5 : Int32)) v_tries v_settledValues (v_items + (1 : Int32)) v_outs v_waiting (v_settled + (1 : Int32))) := hD
    obtain rfl := Option.some.inj hd
    exact my_vret C0 hK hP hD hS dX4_addMark_50
def fX4_startTrying (v_states : Nat → Int32) (v_results : Nat → Int32) (v_tries : Nat → Int32) (v_settledValues : Nat → Int64) (v_items : Int32) (v_outs : Int32) (v_waiting : Int32) (v_settled : Int32) (p1 : Int32) : Option ((Nat → Int32) × (Nat → Int32) × Int32) := (fX4_hasItem v_states v_results v_tries v_settledValues v_items v_outs v_waiting v_settled p1).bind (fun u_1 => if u_1 = 0 then (some (v_states, v_tries, v_waiting)) else (ix p1 300 (ix p1 300 (some (upd v_states p1.toNatClampNeg (1 : Int32), upd v_tries p1.toNatClampNeg (1 : Int32), v_waiting - (1 : Int32))))))
set_option maxHeartbeats 4000000 in
set_option maxRecDepth 100000 in
theorem mX4_startTrying (l : Launch) (dC : Nat → ClassId) (dI : Nat → Nat → Nat) (cI cJ cZ : ClassId) (h0 h1 h2 h3 h4 : Nat) (v_states : Nat → Int32) (v_results : Nat → Int32) (v_tries : Nat → Int32) (v_settledValues : Nat → Int64) (v_items : Int32) (v_outs : Int32) (v_waiting : Int32) (v_settled : Int32) (p1 : Int32) {r : (Nat → Int32) × (Nat → Int32) × Int32} (hd : fX4_startTrying v_states v_results v_tries v_settledValues v_items v_outs v_waiting v_settled p1 = some r) (sz : Nat)  : Met l yX4_startTrying (wS yX4_startTrying cX4_startTrying 2 none) { frames := 1, cells := 0, slots := 0, locals := 21 } (pC (dC, dI) (kT cI cJ cZ) xT (vX4 cI cJ cZ h0 h1 h2 h3 h4 v_states v_results v_tries v_settledValues v_items v_outs v_waiting v_settled) sz [.ref h0, .int p1]) (qV (dC, dI) (kT cI cJ cZ) (vX4 cI cJ cZ h0 h1 h2 h3 h4 r.1 v_results r.2.1 v_settledValues v_items v_outs r.2.2 v_settled) (va_A (vX4 cI cJ cZ h0 h1 h2 h3 h4 v_states v_results v_tries v_settledValues v_items v_outs v_waiting v_settled) sz)) 0 0 (va_A (vX4 cI cJ cZ h0 h1 h2 h3 h4 v_states v_results v_tries v_settledValues v_items v_outs v_waiting v_settled) sz) := by
  refine my_ent (fun A => qV (dC, dI) (kT cI cJ cZ) (vX4 cI cJ cZ h0 h1 h2 h3 h4 r.1 v_results r.2.1 v_settledValues v_items v_outs r.2.2 v_settled) A) (by decide) (Nat.le_of_ble_eq_true rfl) ?_
  intro p e s m below meth c A hAe hnm C0 hK hX hP hD hA hS ls hl
  obtain ⟨hx, hb, hml, hown, hT, hr, hlocks⟩ := id C0
  unfold fX4_startTrying at hd
  have hl : lv_has ls 2 [(0, .ref h0), (1, .int p1)] := hl
  refine lv_aload_n hx hb dX4_startTrying_0 rfl (lv_at hl 0 rfl) ?_
  refine lv_iload_n hx hb dX4_startTrying_1 rfl (lv_at hl 1 rfl) ?_
  obtain ⟨u_1, hc_2, hd⟩ := bd hd
  refine cv_i (W' := vX4 cI cJ cZ h0 h1 h2 h3 h4 v_states v_results v_tries v_settledValues v_items v_outs v_waiting v_settled) (Wn := vX4 cI cJ cZ h0 h1 h2 h3 h4 v_states v_results v_tries v_settledValues v_items v_outs v_waiting v_settled) (rest := []) C0 (mX4_hasItem l dC dI cI cJ cZ h0 h1 h2 h3 h4 v_states v_results v_tries v_settledValues v_items v_outs v_waiting v_settled p1 hc_2 _) gv_X4_38 yd_X4_hasItem ⟨rfl, rfl, Nat.le_of_ble_eq_true rfl, Nat.le_of_ble_eq_true rfl, Nat.zero_le _, Nat.zero_le _⟩ xT_b xT_w hK hP hD hS hA 0 5 rfl hl.1 rfl (Nat.le_of_ble_eq_true rfl) dX4_startTrying_2 4 0 rfl rfl rfl (fun H locs hP hD hS => ?_)
  refine lv_if_eq (tgt := 32) hx hb dX4_startTrying_5 (by decide) (fun c_3 => ?_) (fun c_3 => ?_)
  · replace hd := i_t hd c_3
    obtain rfl := Option.some.inj hd
    exact my_vret C0 hK hP hD hS dX4_startTrying_32
  · replace hd := i_e hd c_3
    refine lv_aload_n hx hb dX4_startTrying_8 rfl (lv_at hl 0 rfl) ?_
    refine va_get (D := (dC, dI)) (ci := 4) (v := .ref h1) (C := RX4) (T := TX4) (N := 8) hx hb hT inlX4 hown hK hP 0 rfl rfl 0 (by decide) (hT _ wm_4_11) (fun _ h9 => h9) rfl dX4_startTrying_9 ?_
    refine lv_iload_n hx hb dX4_startTrying_12 rfl (lv_at hl 1 rfl) ?_
    refine lv_iconst (v := 1) hx hb dX4_startTrying_13 (by decide) ?_
    obtain ⟨g_4, hd⟩ := ix_some hd
    refine va_iast hx hb hK hP hD hS 1 0 rfl rfl g_4 dX4_startTrying_14 (fun H locs hP hD hS => ?_)
    have hP : va_P (dC, dI) vwCl (vX4 cI cJ cZ h0 h1 h2 h3 h4 (upd v_states p1.toNatClampNeg (1 : Int32)) v_results v_tries v_settledValues v_items v_outs v_waiting v_settled) H := hP
    have hD : va_D A (vX4 cI cJ cZ h0 h1 h2 h3 h4 (upd v_states p1.toNatClampNeg (1 : Int32)) v_results v_tries v_settledValues v_items v_outs v_waiting v_settled) := hD
    refine lv_aload_n hx hb dX4_startTrying_15 rfl (lv_at hl 0 rfl) ?_
    refine va_get (D := (dC, dI)) (ci := 4) (v := .ref h3) (C := RX4) (T := TX4) (N := 8) hx hb hT inlX4 hown hK hP 0 rfl rfl 2 (by decide) (hT _ wm_4_13) (fun _ h9 => h9) rfl dX4_startTrying_16 ?_
    refine lv_iload_n hx hb dX4_startTrying_19 rfl (lv_at hl 1 rfl) ?_
    refine lv_iconst (v := 1) hx hb dX4_startTrying_20 (by decide) ?_
    obtain ⟨g_5, hd⟩ := ix_some hd
    refine va_iast hx hb hK hP hD hS 3 0 rfl rfl g_5 dX4_startTrying_21 (fun H locs hP hD hS => ?_)
    have hP : va_P (dC, dI) vwCl (vX4 cI cJ cZ h0 h1 h2 h3 h4 (upd v_states p1.toNatClampNeg (1 : Int32)) v_results (upd v_tries p1.toNatClampNeg (1 : Int32)) v_settledValues v_items v_outs v_waiting v_settled) H := hP
    have hD : va_D A (vX4 cI cJ cZ h0 h1 h2 h3 h4 (upd v_states p1.toNatClampNeg (1 : Int32)) v_results (upd v_tries p1.toNatClampNeg (1 : Int32)) v_settledValues v_items v_outs v_waiting v_settled) := hD
    refine lv_aload_n hx hb dX4_startTrying_22 rfl (lv_at hl 0 rfl) ?_
    refine lv_dup hx hb dX4_startTrying_23 rfl ?_
    refine va_get (D := (dC, dI)) (ci := 4) (v := .int v_waiting) (C := RX4) (T := TX4) (N := 8) hx hb hT inlX4 hown hK hP 0 rfl rfl 6 (by decide) (hT _ wm_4_17) (fun _ h9 => h9) rfl dX4_startTrying_24 ?_
    refine lv_iconst (v := 1) hx hb dX4_startTrying_27 (by decide) ?_
    refine lv_isub hx hb dX4_startTrying_28 ?_
    refine va_put (D := (dC, dI)) (ci := 4) (v := .int (v_waiting - (1 : Int32))) (ty := .int) (C := RX4) (T := TX4) (N := 8) hx hb hT inlX4 tyX4 tyX4_ok nmX4 hown hK hP hD hS 0 rfl rfl 6 (by decide) (hT _ wm_4_17) (fun _ h9 => h9) rfl (tyX4_ok 6 (by decide)) rfl rfl (Nat.le_of_ble_eq_true rfl) dX4_startTrying_29 (fun H locs hP hD hS => ?_)
    have hP : va_P (dC, dI) vwCl (vX4 cI cJ cZ h0 h1 h2 h3 h4 (upd v_states p1.toNatClampNeg (1 : Int32)) v_results (upd v_tries p1.toNatClampNeg (1 : Int32)) v_settledValues v_items v_outs (v_waiting - (1 : Int32)) v_settled) H := hP
    have hD : va_D A (vX4 cI cJ cZ h0 h1 h2 h3 h4 (upd v_states p1.toNatClampNeg (1 : Int32)) v_results (upd v_tries p1.toNatClampNeg (1 : Int32)) v_settledValues v_items v_outs (v_waiting - (1 : Int32)) v_settled) := hD
    obtain rfl := Option.some.inj hd
    exact my_vret C0 hK hP hD hS dX4_startTrying_32
def fX4_addTry (v_states : Nat → Int32) (v_results : Nat → Int32) (v_tries : Nat → Int32) (v_settledValues : Nat → Int64) (v_items : Int32) (v_outs : Int32) (v_waiting : Int32) (v_settled : Int32) (p1 : Int32) : Option ((Nat → Int32)) := (fX4_hasItem v_states v_results v_tries v_settledValues v_items v_outs v_waiting v_settled p1).bind (fun u_1 => if u_1 = 0 then (some v_tries) else (ix p1 300 (ix p1 300 (some (upd v_tries p1.toNatClampNeg ((v_tries p1.toNatClampNeg) + (1 : Int32)))))))
set_option maxHeartbeats 4000000 in
set_option maxRecDepth 100000 in
theorem mX4_addTry (l : Launch) (dC : Nat → ClassId) (dI : Nat → Nat → Nat) (cI cJ cZ : ClassId) (h0 h1 h2 h3 h4 : Nat) (v_states : Nat → Int32) (v_results : Nat → Int32) (v_tries : Nat → Int32) (v_settledValues : Nat → Int64) (v_items : Int32) (v_outs : Int32) (v_waiting : Int32) (v_settled : Int32) (p1 : Int32) {r : (Nat → Int32)} (hd : fX4_addTry v_states v_results v_tries v_settledValues v_items v_outs v_waiting v_settled p1 = some r) (sz : Nat)  : Met l yX4_addTry (wS yX4_addTry cX4_addTry 2 none) { frames := 1, cells := 0, slots := 0, locals := 21 } (pC (dC, dI) (kT cI cJ cZ) xT (vX4 cI cJ cZ h0 h1 h2 h3 h4 v_states v_results v_tries v_settledValues v_items v_outs v_waiting v_settled) sz [.ref h0, .int p1]) (qV (dC, dI) (kT cI cJ cZ) (vX4 cI cJ cZ h0 h1 h2 h3 h4 v_states v_results r v_settledValues v_items v_outs v_waiting v_settled) (va_A (vX4 cI cJ cZ h0 h1 h2 h3 h4 v_states v_results v_tries v_settledValues v_items v_outs v_waiting v_settled) sz)) 0 0 (va_A (vX4 cI cJ cZ h0 h1 h2 h3 h4 v_states v_results v_tries v_settledValues v_items v_outs v_waiting v_settled) sz) := by
  refine my_ent (fun A => qV (dC, dI) (kT cI cJ cZ) (vX4 cI cJ cZ h0 h1 h2 h3 h4 v_states v_results r v_settledValues v_items v_outs v_waiting v_settled) A) (by decide) (Nat.le_of_ble_eq_true rfl) ?_
  intro p e s m below meth c A hAe hnm C0 hK hX hP hD hA hS ls hl
  obtain ⟨hx, hb, hml, hown, hT, hr, hlocks⟩ := id C0
  unfold fX4_addTry at hd
  have hl : lv_has ls 2 [(0, .ref h0), (1, .int p1)] := hl
  refine lv_aload_n hx hb dX4_addTry_0 rfl (lv_at hl 0 rfl) ?_
  refine lv_iload_n hx hb dX4_addTry_1 rfl (lv_at hl 1 rfl) ?_
  obtain ⟨u_1, hc_2, hd⟩ := bd hd
  refine cv_i (W' := vX4 cI cJ cZ h0 h1 h2 h3 h4 v_states v_results v_tries v_settledValues v_items v_outs v_waiting v_settled) (Wn := vX4 cI cJ cZ h0 h1 h2 h3 h4 v_states v_results v_tries v_settledValues v_items v_outs v_waiting v_settled) (rest := []) C0 (mX4_hasItem l dC dI cI cJ cZ h0 h1 h2 h3 h4 v_states v_results v_tries v_settledValues v_items v_outs v_waiting v_settled p1 hc_2 _) gv_X4_38 yd_X4_hasItem ⟨rfl, rfl, Nat.le_of_ble_eq_true rfl, Nat.le_of_ble_eq_true rfl, Nat.zero_le _, Nat.zero_le _⟩ xT_b xT_w hK hP hD hS hA 0 5 rfl hl.1 rfl (Nat.le_of_ble_eq_true rfl) dX4_addTry_2 4 0 rfl rfl rfl (fun H locs hP hD hS => ?_)
  refine lv_if_eq (tgt := 18) hx hb dX4_addTry_5 (by decide) (fun c_3 => ?_) (fun c_3 => ?_)
  · replace hd := i_t hd c_3
    obtain rfl := Option.some.inj hd
    exact my_vret C0 hK hP hD hS dX4_addTry_18
  · replace hd := i_e hd c_3
    refine lv_aload_n hx hb dX4_addTry_8 rfl (lv_at hl 0 rfl) ?_
    refine va_get (D := (dC, dI)) (ci := 4) (v := .ref h3) (C := RX4) (T := TX4) (N := 8) hx hb hT inlX4 hown hK hP 0 rfl rfl 2 (by decide) (hT _ wm_4_13) (fun _ h9 => h9) rfl dX4_addTry_9 ?_
    refine lv_iload_n hx hb dX4_addTry_12 rfl (lv_at hl 1 rfl) ?_
    refine lv_dup2_11 hx hb dX4_addTry_13 rfl rfl ?_
    obtain ⟨g_4, hd⟩ := ix_some hd
    refine va_iald hx hb hK hP 3 0 rfl rfl g_4 dX4_addTry_14 ?_
    refine lv_iconst (v := 1) hx hb dX4_addTry_15 (by decide) ?_
    refine lv_iadd hx hb dX4_addTry_16 ?_
    obtain ⟨g_5, hd⟩ := ix_some hd
    refine va_iast hx hb hK hP hD hS 3 0 rfl rfl g_5 dX4_addTry_17 (fun H locs hP hD hS => ?_)
    have hP : va_P (dC, dI) vwCl (vX4 cI cJ cZ h0 h1 h2 h3 h4 v_states v_results (upd v_tries p1.toNatClampNeg ((v_tries p1.toNatClampNeg) + (1 : Int32))) v_settledValues v_items v_outs v_waiting v_settled) H := hP
    have hD : va_D A (vX4 cI cJ cZ h0 h1 h2 h3 h4 v_states v_results (upd v_tries p1.toNatClampNeg ((v_tries p1.toNatClampNeg) + (1 : Int32))) v_settledValues v_items v_outs v_waiting v_settled) := hD
    obtain rfl := Option.some.inj hd
    exact my_vret C0 hK hP hD hS dX4_addTry_18
def fX4_settleRow_28 (v_tries : Nat → Int32) (v_items : Int32) (v_outs : Int32)  (a : (Nat → Int32) × (Nat → Int32) × (Nat → Int64) × Int32 × Int32 × Int32 × Int32 × Int64) : Option ((Nat → Int32) × (Nat → Int32) × (Nat → Int64) × Int32 × Int32) := ix a.2.2.2.2.2.1 300 (ix a.2.2.2.2.2.1 300 (ix a.2.2.2.2.2.1 300 (some (upd a.1 a.2.2.2.2.2.1.toNatClampNeg (2 : Int32), upd a.2.1 a.2.2.2.2.2.1.toNatClampNeg a.2.2.2.2.2.2.1, vp_updL a.2.2.1 a.2.2.2.2.2.1.toNatClampNeg a.2.2.2.2.2.2.2, a.2.2.2.1, a.2.2.2.2.1 + (1 : Int32)))))
set_option maxHeartbeats 4000000 in
set_option maxRecDepth 100000 in
theorem bX4_settleRow_28 {p : Program} {l : Launch} {e : Env} {s : State} {m : MethodId} {args : Array Value} {below : List Frame} {meth : Method} {c : Code} {A : Nat → Prop} {dC : Nat → ClassId} {dI : Nat → Nat → Nat} {cI cJ cZ : ClassId} {h0 h1 h2 h3 h4 : Nat} {r : (Nat → Int32) × (Nat → Int32) × (Nat → Int64) × Int32 × Int32} {v_tries : Nat → Int32} {v_items : Int32} {v_outs : Int32} (C0 : cx p s m args meth c cX4_settleRow 5 RX4 none) (hK : va_K (dC, dI) vwCl (kT cI cJ cZ) s) (hX : xT s) (hA : ∀ q : Nat, s.heap.size ≤ q → A q)  : ∀ (a : (Nat → Int32) × (Nat → Int32) × (Nat → Int64) × Int32 × Int32 × Int32 × Int32 × Int64), fX4_settleRow_28 v_tries v_items v_outs  a = some r → ∀ (H : Heap) (locs : List Loc) (ls : Array Slot), va_P (dC, dI) vwCl (vX4 cI cJ cZ h0 h1 h2 h3 h4 a.1 a.2.1 v_tries a.2.2.1 v_items v_outs a.2.2.2.1 a.2.2.2.2.1) H → va_D A (vX4 cI cJ cZ h0 h1 h2 h3 h4 a.1 a.2.1 v_tries a.2.2.1 v_items v_outs a.2.2.2.1 a.2.2.2.2.1) → va_S A s.heap H locs → lv_has ls 5 [(0, .ref h0), (1, .int a.2.2.2.2.2.1), (2, .int a.2.2.2.2.2.2.1), (3, .long a.2.2.2.2.2.2.2)] → W p l e ({ frames := 1, cells := 0, slots := 0, locals := 21 } : Room) s m args below meth c H locs 0 0 (MQ below (qV (dC, dI) (kT cI cJ cZ) (vX4 cI cJ cZ h0 h1 h2 h3 h4 r.1 r.2.1 v_tries r.2.2.1 v_items v_outs r.2.2.2.1 r.2.2.2.2) A) args s 0 0 A) (F0 m 28 ls []) := by
  obtain ⟨hx, hb, hml, hown, hT, hr, hlocks⟩ := id C0
  intro a hd H locs ls hP hD hS hl
  unfold fX4_settleRow_28 at hd
  refine lv_aload_n hx hb dX4_settleRow_28 rfl (lv_at hl 0 rfl) ?_
  refine va_get (D := (dC, dI)) (ci := 4) (v := .ref h1) (C := RX4) (T := TX4) (N := 8) hx hb hT inlX4 hown hK hP 0 rfl rfl 0 (by decide) (hT _ wm_4_11) (fun _ h9 => h9) rfl dX4_settleRow_29 ?_
  refine lv_iload_n hx hb dX4_settleRow_32 rfl (lv_at hl 1 rfl) ?_
  refine lv_iconst (v := 2) hx hb dX4_settleRow_33 (by decide) ?_
  obtain ⟨g_6, hd⟩ := ix_some hd
  refine va_iast hx hb hK hP hD hS 1 0 rfl rfl g_6 dX4_settleRow_34 (fun H locs hP hD hS => ?_)
  have hP : va_P (dC, dI) vwCl (vX4 cI cJ cZ h0 h1 h2 h3 h4 (upd a.1 a.2.2.2.2.2.1.toNatClampNeg (2 : Int32)) a.2.1 v_tries a.2.2.1 v_items v_outs a.2.2.2.1 a.2.2.2.2.1) H := hP
  have hD : va_D A (vX4 cI cJ cZ h0 h1 h2 h3 h4 (upd a.1 a.2.2.2.2.2.1.toNatClampNeg (2 : Int32)) a.2.1 v_tries a.2.2.1 v_items v_outs a.2.2.2.1 a.2.2.2.2.1) := hD
  refine lv_aload_n hx hb dX4_settleRow_35 rfl (lv_at hl 0 rfl) ?_
  refine va_get (D := (dC, dI)) (ci := 4) (v := .ref h2) (C := RX4) (T := TX4) (N := 8) hx hb hT inlX4 hown hK hP 0 rfl rfl 1 (by decide) (hT _ wm_4_12) (fun _ h9 => h9) rfl dX4_settleRow_36 ?_
  refine lv_iload_n hx hb dX4_settleRow_39 rfl (lv_at hl 1 rfl) ?_
  refine lv_iload_n hx hb dX4_settleRow_40 rfl (lv_at hl 2 rfl) ?_
  obtain ⟨g_7, hd⟩ := ix_some hd
  refine va_iast hx hb hK hP hD hS 2 0 rfl rfl g_7 dX4_settleRow_41 (fun H locs hP hD hS => ?_)
  have hP : va_P (dC, dI) vwCl (vX4 cI cJ cZ h0 h1 h2 h3 h4 (upd a.1 a.2.2.2.2.2.1.toNatClampNeg (2 : Int32)) (upd a.2.1 a.2.2.2.2.2.1.toNatClampNeg a.2.2.2.2.2.2.1) v_tries a.2.2.1 v_items v_outs a.2.2.2.1 a.2.2.2.2.1) H := hP
  have hD : va_D A (vX4 cI cJ cZ h0 h1 h2 h3 h4 (upd a.1 a.2.2.2.2.2.1.toNatClampNeg (2 : Int32)) (upd a.2.1 a.2.2.2.2.2.1.toNatClampNeg a.2.2.2.2.2.2.1) v_tries a.2.2.1 v_items v_outs a.2.2.2.1 a.2.2.2.2.1) := hD
  refine lv_aload_n hx hb dX4_settleRow_42 rfl (lv_at hl 0 rfl) ?_
  refine va_get (D := (dC, dI)) (ci := 4) (v := .ref h4) (C := RX4) (T := TX4) (N := 8) hx hb hT inlX4 hown hK hP 0 rfl rfl 3 (by decide) (hT _ wm_4_14) (fun _ h9 => h9) rfl dX4_settleRow_43 ?_
  refine lv_iload_n hx hb dX4_settleRow_46 rfl (lv_at hl 1 rfl) ?_
  refine lv_lload_n hx hb dX4_settleRow_47 rfl (lv_at hl 3 rfl) ?_
  obtain ⟨g_8, hd⟩ := ix_some hd
  refine va_last hx hb hK hP hD hS 4 1 rfl rfl g_8 dX4_settleRow_48 (fun H locs hP hD hS => ?_)
  have hP : va_P (dC, dI) vwCl (vX4 cI cJ cZ h0 h1 h2 h3 h4 (upd a.1 a.2.2.2.2.2.1.toNatClampNeg (2 : Int32)) (upd a.2.1 a.2.2.2.2.2.1.toNatClampNeg a.2.2.2.2.2.2.1) v_tries (vp_updL a.2.2.1 a.2.2.2.2.2.1.toNatClampNeg a.2.2.2.2.2.2.2) v_items v_outs a.2.2.2.1 a.2.2.2.2.1) H := hP
  have hD : va_D A (vX4 cI cJ cZ h0 h1 h2 h3 h4 (upd a.1 a.2.2.2.2.2.1.toNatClampNeg (2 : Int32)) (upd a.2.1 a.2.2.2.2.2.1.toNatClampNeg a.2.2.2.2.2.2.1) v_tries (vp_updL a.2.2.1 a.2.2.2.2.2.1.toNatClampNeg a.2.2.2.2.2.2.2) v_items v_outs a.2.2.2.1 a.2.2.2.2.1) := hD
  refine lv_aload_n hx hb dX4_settleRow_49 rfl (lv_at hl 0 rfl) ?_
  refine lv_dup hx hb dX4_settleRow_50 rfl ?_
  refine va_get (D := (dC, dI)) (ci := 4) (v := .int a.2.2.2.2.1) (C := RX4) (T := TX4) (N := 8) hx hb hT inlX4 hown hK hP 0 rfl rfl 7 (by decide) (hT _ wm_4_18) (fun _ h9 => h9) rfl dX4_settleRow_51 ?_
  refine lv_iconst (v := 1) hx hb dX4_settleRow_54 (by decide) ?_
  refine lv_iadd hx hb dX4_settleRow_55 ?_
  refine va_put (D := (dC, dI)) (ci := 4) (v := .int (a.2.2.2.2.1 + (1 : Int32))) (ty := .int) (C := RX4) (T := TX4) (N := 8) hx hb hT inlX4 tyX4 tyX4_ok nmX4 hown hK hP hD hS 0 rfl rfl 7 (by decide) (hT _ wm_4_18) (fun _ h9 => h9) rfl (tyX4_ok 7 (by decide)) rfl rfl (Nat.le_of_ble_eq_true rfl) dX4_settleRow_56 (fun H locs hP hD hS => ?_)
  have hP : va_P (dC, dI) vwCl (vX4 cI cJ cZ h0 h1 h2 h3 h4 (upd a.1 a.2.2.2.2.2.1.toNatClampNeg (2 : Int32)) (upd a.2.1 a.2.2.2.2.2.1.toNatClampNeg a.2.2.2.2.2.2.1) v_tries (vp_updL a.2.2.1 a.2.2.2.2.2.1.toNatClampNeg a.2.2.2.2.2.2.2) v_items v_outs a.2.2.2.1 (a.2.2.2.2.1 + (1 : Int32))) H := hP
  have hD : va_D A (vX4 cI cJ cZ h0 h1 h2 h3 h4 (upd a.1 a.2.2.2.2.2.1.toNatClampNeg (2 : Int32)) (upd a.2.1 a.2.2.2.2.2.1.toNatClampNeg a.2.2.2.2.2.2.1) v_tries (vp_updL a.2.2.1 a.2.2.2.2.2.1.toNatClampNeg a.2.2.2.2.2.2.2) v_items v_outs a.2.2.2.1 (a.2.2.2.2.1 + (1 : Int32))) := hD
  obtain rfl := Option.some.inj hd
  exact my_vret C0 hK hP hD hS dX4_settleRow_59
def fX4_settleRow (v_states : Nat → Int32) (v_results : Nat → Int32) (v_tries : Nat → Int32) (v_settledValues : Nat → Int64) (v_items : Int32) (v_outs : Int32) (v_waiting : Int32) (v_settled : Int32) (p1 : Int32) (p2 : Int32) (p3 : Int64) : Option ((Nat → Int32) × (Nat → Int32) × (Nat → Int64) × Int32 × Int32) := (fX4_hasItem v_states v_results v_tries v_settledValues v_items v_outs v_waiting v_settled p1).bind (fun u_1 => if u_1 = 0 then (some (v_states, v_results, v_settledValues, v_waiting, v_settled)) else (ix p1 300 (if (v_states p1.toNatClampNeg) = 0 then (fX4_settleRow_28 v_tries v_items v_outs  (v_states, v_results, v_settledValues, v_waiting - (1 : Int32), v_settled, p1, p2, p3)) else (fX4_settleRow_28 v_tries v_items v_outs  (v_states, v_results, v_settledValues, v_waiting, v_settled, p1, p2, p3)))))
set_option maxHeartbeats 4000000 in
set_option maxRecDepth 100000 in
theorem mX4_settleRow (l : Launch) (dC : Nat → ClassId) (dI : Nat → Nat → Nat) (cI cJ cZ : ClassId) (h0 h1 h2 h3 h4 : Nat) (v_states : Nat → Int32) (v_results : Nat → Int32) (v_tries : Nat → Int32) (v_settledValues : Nat → Int64) (v_items : Int32) (v_outs : Int32) (v_waiting : Int32) (v_settled : Int32) (p1 : Int32) (p2 : Int32) (p3 : Int64) {r : (Nat → Int32) × (Nat → Int32) × (Nat → Int64) × Int32 × Int32} (hd : fX4_settleRow v_states v_results v_tries v_settledValues v_items v_outs v_waiting v_settled p1 p2 p3 = some r) (sz : Nat)  : Met l yX4_settleRow (wS yX4_settleRow cX4_settleRow 5 none) { frames := 1, cells := 0, slots := 0, locals := 21 } (pC (dC, dI) (kT cI cJ cZ) xT (vX4 cI cJ cZ h0 h1 h2 h3 h4 v_states v_results v_tries v_settledValues v_items v_outs v_waiting v_settled) sz [.ref h0, .int p1, .int p2, .long p3]) (qV (dC, dI) (kT cI cJ cZ) (vX4 cI cJ cZ h0 h1 h2 h3 h4 r.1 r.2.1 v_tries r.2.2.1 v_items v_outs r.2.2.2.1 r.2.2.2.2) (va_A (vX4 cI cJ cZ h0 h1 h2 h3 h4 v_states v_results v_tries v_settledValues v_items v_outs v_waiting v_settled) sz)) 0 0 (va_A (vX4 cI cJ cZ h0 h1 h2 h3 h4 v_states v_results v_tries v_settledValues v_items v_outs v_waiting v_settled) sz) := by
  refine my_ent (fun A => qV (dC, dI) (kT cI cJ cZ) (vX4 cI cJ cZ h0 h1 h2 h3 h4 r.1 r.2.1 v_tries r.2.2.1 v_items v_outs r.2.2.2.1 r.2.2.2.2) A) (by decide) (Nat.le_of_ble_eq_true rfl) ?_
  intro p e s m below meth c A hAe hnm C0 hK hX hP hD hA hS ls hl
  obtain ⟨hx, hb, hml, hown, hT, hr, hlocks⟩ := id C0
  unfold fX4_settleRow at hd
  have hl : lv_has ls 5 [(0, .ref h0), (1, .int p1), (2, .int p2), (3, .long p3)] := hl
  refine lv_aload_n hx hb dX4_settleRow_0 rfl (lv_at hl 0 rfl) ?_
  refine lv_iload_n hx hb dX4_settleRow_1 rfl (lv_at hl 1 rfl) ?_
  obtain ⟨u_1, hc_2, hd⟩ := bd hd
  refine cv_i (W' := vX4 cI cJ cZ h0 h1 h2 h3 h4 v_states v_results v_tries v_settledValues v_items v_outs v_waiting v_settled) (Wn := vX4 cI cJ cZ h0 h1 h2 h3 h4 v_states v_results v_tries v_settledValues v_items v_outs v_waiting v_settled) (rest := []) C0 (mX4_hasItem l dC dI cI cJ cZ h0 h1 h2 h3 h4 v_states v_results v_tries v_settledValues v_items v_outs v_waiting v_settled p1 hc_2 _) gv_X4_38 yd_X4_hasItem ⟨rfl, rfl, Nat.le_of_ble_eq_true rfl, Nat.le_of_ble_eq_true rfl, Nat.zero_le _, Nat.zero_le _⟩ xT_b xT_w hK hP hD hS hA 0 5 rfl hl.1 rfl (Nat.le_of_ble_eq_true rfl) dX4_settleRow_2 4 0 rfl rfl rfl (fun H locs hP hD hS => ?_)
  refine lv_if_ne (tgt := 9) hx hb dX4_settleRow_5 (by decide) (fun c_3 => ?_) (fun c_3 => ?_)
  · replace hd := i_e hd c_3
    refine lv_aload_n hx hb dX4_settleRow_9 rfl (lv_at hl 0 rfl) ?_
    refine va_get (D := (dC, dI)) (ci := 4) (v := .ref h1) (C := RX4) (T := TX4) (N := 8) hx hb hT inlX4 hown hK hP 0 rfl rfl 0 (by decide) (hT _ wm_4_11) (fun _ h9 => h9) rfl dX4_settleRow_10 ?_
    refine lv_iload_n hx hb dX4_settleRow_13 rfl (lv_at hl 1 rfl) ?_
    obtain ⟨g_4, hd⟩ := ix_some hd
    refine va_iald hx hb hK hP 1 0 rfl rfl g_4 dX4_settleRow_14 ?_
    refine lv_if_ne (tgt := 28) hx hb dX4_settleRow_15 (by decide) (fun c_5 => ?_) (fun c_5 => ?_)
    · replace hd := i_e hd c_5
      exact bX4_settleRow_28 C0 hK hX hA  _ hd _ _ _ hP hD hS (lv_sub hl [0, 1, 2, 3] rfl)
    · replace hd := i_t hd c_5
      refine lv_aload_n hx hb dX4_settleRow_18 rfl (lv_at hl 0 rfl) ?_
      refine lv_dup hx hb dX4_settleRow_19 rfl ?_
      refine va_get (D := (dC, dI)) (ci := 4) (v := .int v_waiting) (C := RX4) (T := TX4) (N := 8) hx hb hT inlX4 hown hK hP 0 rfl rfl 6 (by decide) (hT _ wm_4_17) (fun _ h9 => h9) rfl dX4_settleRow_20 ?_
      refine lv_iconst (v := 1) hx hb dX4_settleRow_23 (by decide) ?_
      refine lv_isub hx hb dX4_settleRow_24 ?_
      refine va_put (D := (dC, dI)) (ci := 4) (v := .int (v_waiting - (1 : Int32))) (ty := .int) (C := RX4) (T := TX4) (N := 8) hx hb hT inlX4 tyX4 tyX4_ok nmX4 hown hK hP hD hS 0 rfl rfl 6 (by decide) (hT _ wm_4_17) (fun _ h9 => h9) rfl (tyX4_ok 6 (by decide)) rfl rfl (Nat.le_of_ble_eq_true rfl) dX4_settleRow_25 (fun H locs hP hD hS => ?_)
      have hP : va_P (dC, dI) vwCl (vX4 cI cJ cZ h0 h1 h2 h3 h4 v_states v_results v_tries v_settledValues v_items v_outs (v_waiting - (1 : Int32)) v_settled) H := hP
      have hD : va_D A (vX4 cI cJ cZ h0 h1 h2 h3 h4 v_states v_results v_tries v_settledValues v_items v_outs (v_waiting - (1 : Int32)) v_settled) := hD
      exact bX4_settleRow_28 C0 hK hX hA  _ hd _ _ _ hP hD hS (lv_sub hl [0, 1, 2, 3] rfl)
  · replace hd := i_t hd c_3
    obtain rfl := Option.some.inj hd
    exact my_vret C0 hK hP hD hS dX4_settleRow_8
def fX4_goOut (v_states : Nat → Int32) (v_results : Nat → Int32) (v_tries : Nat → Int32) (v_settledValues : Nat → Int64) (v_items : Int32) (v_outs : Int32) (v_waiting : Int32) (v_settled : Int32) (p1 : Int32) : Option ((Nat → Int32) × Int32 × Int32) := (fX4_hasItem v_states v_results v_tries v_settledValues v_items v_outs v_waiting v_settled p1).bind (fun u_1 => if u_1 = 0 then (some (v_states, v_outs, v_settled)) else (ix p1 300 (some (upd v_states p1.toNatClampNeg (3 : Int32), v_outs + (1 : Int32), v_settled - (1 : Int32)))))
set_option maxHeartbeats 4000000 in
set_option maxRecDepth 100000 in
theorem mX4_goOut (l : Launch) (dC : Nat → ClassId) (dI : Nat → Nat → Nat) (cI cJ cZ : ClassId) (h0 h1 h2 h3 h4 : Nat) (v_states : Nat → Int32) (v_results : Nat → Int32) (v_tries : Nat → Int32) (v_settledValues : Nat → Int64) (v_items : Int32) (v_outs : Int32) (v_waiting : Int32) (v_settled : Int32) (p1 : Int32) {r : (Nat → Int32) × Int32 × Int32} (hd : fX4_goOut v_states v_results v_tries v_settledValues v_items v_outs v_waiting v_settled p1 = some r) (sz : Nat)  : Met l yX4_goOut (wS yX4_goOut cX4_goOut 2 none) { frames := 1, cells := 0, slots := 0, locals := 21 } (pC (dC, dI) (kT cI cJ cZ) xT (vX4 cI cJ cZ h0 h1 h2 h3 h4 v_states v_results v_tries v_settledValues v_items v_outs v_waiting v_settled) sz [.ref h0, .int p1]) (qV (dC, dI) (kT cI cJ cZ) (vX4 cI cJ cZ h0 h1 h2 h3 h4 r.1 v_results v_tries v_settledValues v_items r.2.1 v_waiting r.2.2) (va_A (vX4 cI cJ cZ h0 h1 h2 h3 h4 v_states v_results v_tries v_settledValues v_items v_outs v_waiting v_settled) sz)) 0 0 (va_A (vX4 cI cJ cZ h0 h1 h2 h3 h4 v_states v_results v_tries v_settledValues v_items v_outs v_waiting v_settled) sz) := by
  refine my_ent (fun A => qV (dC, dI) (kT cI cJ cZ) (vX4 cI cJ cZ h0 h1 h2 h3 h4 r.1 v_results v_tries v_settledValues v_items r.2.1 v_waiting r.2.2) A) (by decide) (Nat.le_of_ble_eq_true rfl) ?_
  intro p e s m below meth c A hAe hnm C0 hK hX hP hD hA hS ls hl
  obtain ⟨hx, hb, hml, hown, hT, hr, hlocks⟩ := id C0
  unfold fX4_goOut at hd
  have hl : lv_has ls 2 [(0, .ref h0), (1, .int p1)] := hl
  refine lv_aload_n hx hb dX4_goOut_0 rfl (lv_at hl 0 rfl) ?_
  refine lv_iload_n hx hb dX4_goOut_1 rfl (lv_at hl 1 rfl) ?_
  obtain ⟨u_1, hc_2, hd⟩ := bd hd
  refine cv_i (W' := vX4 cI cJ cZ h0 h1 h2 h3 h4 v_states v_results v_tries v_settledValues v_items v_outs v_waiting v_settled) (Wn := vX4 cI cJ cZ h0 h1 h2 h3 h4 v_states v_results v_tries v_settledValues v_items v_outs v_waiting v_settled) (rest := []) C0 (mX4_hasItem l dC dI cI cJ cZ h0 h1 h2 h3 h4 v_states v_results v_tries v_settledValues v_items v_outs v_waiting v_settled p1 hc_2 _) gv_X4_38 yd_X4_hasItem ⟨rfl, rfl, Nat.le_of_ble_eq_true rfl, Nat.le_of_ble_eq_true rfl, Nat.zero_le _, Nat.zero_le _⟩ xT_b xT_w hK hP hD hS hA 0 5 rfl hl.1 rfl (Nat.le_of_ble_eq_true rfl) dX4_goOut_2 4 0 rfl rfl rfl (fun H locs hP hD hS => ?_)
  refine lv_if_eq (tgt := 35) hx hb dX4_goOut_5 (by decide) (fun c_3 => ?_) (fun c_3 => ?_)
  · replace hd := i_t hd c_3
    obtain rfl := Option.some.inj hd
    exact my_vret C0 hK hP hD hS dX4_goOut_35
  · replace hd := i_e hd c_3
    refine lv_aload_n hx hb dX4_goOut_8 rfl (lv_at hl 0 rfl) ?_
    refine va_get (D := (dC, dI)) (ci := 4) (v := .ref h1) (C := RX4) (T := TX4) (N := 8) hx hb hT inlX4 hown hK hP 0 rfl rfl 0 (by decide) (hT _ wm_4_11) (fun _ h9 => h9) rfl dX4_goOut_9 ?_
    refine lv_iload_n hx hb dX4_goOut_12 rfl (lv_at hl 1 rfl) ?_
    refine lv_iconst (v := 3) hx hb dX4_goOut_13 (by decide) ?_
    obtain ⟨g_4, hd⟩ := ix_some hd
    refine va_iast hx hb hK hP hD hS 1 0 rfl rfl g_4 dX4_goOut_14 (fun H locs hP hD hS => ?_)
    have hP : va_P (dC, dI) vwCl (vX4 cI cJ cZ h0 h1 h2 h3 h4 (upd v_states p1.toNatClampNeg (3 : Int32)) v_results v_tries v_settledValues v_items v_outs v_waiting v_settled) H := hP
    have hD : va_D A (vX4 cI cJ cZ h0 h1 h2 h3 h4 (upd v_states p1.toNatClampNeg (3 : Int32)) v_results v_tries v_settledValues v_items v_outs v_waiting v_settled) := hD
    refine lv_aload_n hx hb dX4_goOut_15 rfl (lv_at hl 0 rfl) ?_
    refine lv_dup hx hb dX4_goOut_16 rfl ?_
    refine va_get (D := (dC, dI)) (ci := 4) (v := .int v_settled) (C := RX4) (T := TX4) (N := 8) hx hb hT inlX4 hown hK hP 0 rfl rfl 7 (by decide) (hT _ wm_4_18) (fun _ h9 => h9) rfl dX4_goOut_17 ?_
    refine lv_iconst (v := 1) hx hb dX4_goOut_20 (by decide) ?_
    refine lv_isub hx hb dX4_goOut_21 ?_
    refine va_put (D := (dC, dI)) (ci := 4) (v := .int (v_settled - (1 : Int32))) (ty := .int) (C := RX4) (T := TX4) (N := 8) hx hb hT inlX4 tyX4 tyX4_ok nmX4 hown hK hP hD hS 0 rfl rfl 7 (by decide) (hT _ wm_4_18) (fun _ h9 => h9) rfl (tyX4_ok 7 (by decide)) rfl rfl (Nat.le_of_ble_eq_true rfl) dX4_goOut_22 (fun H locs hP hD hS => ?_)
    have hP : va_P (dC, dI) vwCl (vX4 cI cJ cZ h0 h1 h2 h3 h4 (upd v_states p1.toNatClampNeg (3 : Int32)) v_results v_tries v_settledValues v_items v_outs v_waiting (v_settled - (1 : Int32))) H := hP
    have hD : va_D A (vX4 cI cJ cZ h0 h1 h2 h3 h4 (upd v_states p1.toNatClampNeg (3 : Int32)) v_results v_tries v_settledValues v_items v_outs v_waiting (v_settled - (1 : Int32))) := hD
    refine lv_aload_n hx hb dX4_goOut_25 rfl (lv_at hl 0 rfl) ?_
    refine lv_dup hx hb dX4_goOut_26 rfl ?_
    refine va_get (D := (dC, dI)) (ci := 4) (v := .int v_outs) (C := RX4) (T := TX4) (N := 8) hx hb hT inlX4 hown hK hP 0 rfl rfl 5 (by decide) (hT _ wm_4_16) (fun _ h9 => h9) rfl dX4_goOut_27 ?_
    refine lv_iconst (v := 1) hx hb dX4_goOut_30 (by decide) ?_
    refine lv_iadd hx hb dX4_goOut_31 ?_
    refine va_put (D := (dC, dI)) (ci := 4) (v := .int (v_outs + (1 : Int32))) (ty := .int) (C := RX4) (T := TX4) (N := 8) hx hb hT inlX4 tyX4 tyX4_ok nmX4 hown hK hP hD hS 0 rfl rfl 5 (by decide) (hT _ wm_4_16) (fun _ h9 => h9) rfl (tyX4_ok 5 (by decide)) rfl rfl (Nat.le_of_ble_eq_true rfl) dX4_goOut_32 (fun H locs hP hD hS => ?_)
    have hP : va_P (dC, dI) vwCl (vX4 cI cJ cZ h0 h1 h2 h3 h4 (upd v_states p1.toNatClampNeg (3 : Int32)) v_results v_tries v_settledValues v_items (v_outs + (1 : Int32)) v_waiting (v_settled - (1 : Int32))) H := hP
    have hD : va_D A (vX4 cI cJ cZ h0 h1 h2 h3 h4 (upd v_states p1.toNatClampNeg (3 : Int32)) v_results v_tries v_settledValues v_items (v_outs + (1 : Int32)) v_waiting (v_settled - (1 : Int32))) := hD
    obtain rfl := Option.some.inj hd
    exact my_vret C0 hK hP hD hS dX4_goOut_35
def fX4_copyItems (v_states : Nat → Int32) (v_results : Nat → Int32) (v_tries : Nat → Int32) (v_settledValues : Nat → Int64) (v_items : Int32) (v_outs : Int32) (v_waiting : Int32) (v_settled : Int32) (o_states : Nat → Int32) (o_results : Nat → Int32) (o_tries : Nat → Int32) (o_settledValues : Nat → Int64) (o_items : Int32) (o_outs : Int32) (o_waiting : Int32) (o_settled : Int32)  : Option ((Nat → Int32) × (Nat → Int32) × (Nat → Int32) × (Nat → Int64) × Int32 × Int32 × Int32) := cpg (0 : Int32) (0 : Int32) (300 : Int32) 300 300 (cpg (0 : Int32) (0 : Int32) (300 : Int32) 300 300 (cpg (0 : Int32) (0 : Int32) (300 : Int32) 300 300 (cpg (0 : Int32) (0 : Int32) (300 : Int32) 300 300 (some (va_cpy o_states v_states (0 : Int32).toNatClampNeg (0 : Int32).toNatClampNeg (300 : Int32).toNatClampNeg, va_cpy o_results v_results (0 : Int32).toNatClampNeg (0 : Int32).toNatClampNeg (300 : Int32).toNatClampNeg, va_cpy o_tries v_tries (0 : Int32).toNatClampNeg (0 : Int32).toNatClampNeg (300 : Int32).toNatClampNeg, va_cpy o_settledValues v_settledValues (0 : Int32).toNatClampNeg (0 : Int32).toNatClampNeg (300 : Int32).toNatClampNeg, o_outs, o_waiting, o_settled)))))
set_option maxHeartbeats 4000000 in
set_option maxRecDepth 100000 in
theorem mX4_copyItems (l : Launch) (dC : Nat → ClassId) (dI : Nat → Nat → Nat) (cI cJ cZ : ClassId) (h0 h1 h2 h3 h4 h5 h6 h7 h8 h9 : Nat) (v_states : Nat → Int32) (v_results : Nat → Int32) (v_tries : Nat → Int32) (v_settledValues : Nat → Int64) (v_items : Int32) (v_outs : Int32) (v_waiting : Int32) (v_settled : Int32) (o_states : Nat → Int32) (o_results : Nat → Int32) (o_tries : Nat → Int32) (o_settledValues : Nat → Int64) (o_items : Int32) (o_outs : Int32) (o_waiting : Int32) (o_settled : Int32)  {r : (Nat → Int32) × (Nat → Int32) × (Nat → Int32) × (Nat → Int64) × Int32 × Int32 × Int32} (hd : fX4_copyItems v_states v_results v_tries v_settledValues v_items v_outs v_waiting v_settled o_states o_results o_tries o_settledValues o_items o_outs o_waiting o_settled  = some r) (sz : Nat)  : Met l yX4_copyItems (wS yX4_copyItems cX4_copyItems 2 none) { frames := 1, cells := 0, slots := 0, locals := 18 } (pC (dC, dI) (kT cI cJ cZ) xT ((vX4 cI cJ cZ h0 h1 h2 h3 h4 v_states v_results v_tries v_settledValues v_items v_outs v_waiting v_settled) ++ (vX4 cI cJ cZ h5 h6 h7 h8 h9 o_states o_results o_tries o_settledValues o_items o_outs o_waiting o_settled)) sz [.ref h0, .ref h5]) (qV (dC, dI) (kT cI cJ cZ) ((vX4 cI cJ cZ h0 h1 h2 h3 h4 r.1 r.2.1 r.2.2.1 r.2.2.2.1 v_items r.2.2.2.2.1 r.2.2.2.2.2.1 r.2.2.2.2.2.2) ++ (vX4 cI cJ cZ h5 h6 h7 h8 h9 o_states o_results o_tries o_settledValues o_items o_outs o_waiting o_settled)) (va_A ((vX4 cI cJ cZ h0 h1 h2 h3 h4 v_states v_results v_tries v_settledValues v_items v_outs v_waiting v_settled) ++ (vX4 cI cJ cZ h5 h6 h7 h8 h9 o_states o_results o_tries o_settledValues o_items o_outs o_waiting o_settled)) sz)) 0 0 (va_A ((vX4 cI cJ cZ h0 h1 h2 h3 h4 v_states v_results v_tries v_settledValues v_items v_outs v_waiting v_settled) ++ (vX4 cI cJ cZ h5 h6 h7 h8 h9 o_states o_results o_tries o_settledValues o_items o_outs o_waiting o_settled)) sz) := by
  refine my_ent (fun A => qV (dC, dI) (kT cI cJ cZ) ((vX4 cI cJ cZ h0 h1 h2 h3 h4 r.1 r.2.1 r.2.2.1 r.2.2.2.1 v_items r.2.2.2.2.1 r.2.2.2.2.2.1 r.2.2.2.2.2.2) ++ (vX4 cI cJ cZ h5 h6 h7 h8 h9 o_states o_results o_tries o_settledValues o_items o_outs o_waiting o_settled)) A) (by decide) (Nat.le_of_ble_eq_true rfl) ?_
  intro p e s m below meth c A hAe hnm C0 hK hX hP hD hA hS ls hl
  obtain ⟨hx, hb, hml, hown, hT, hr, hlocks⟩ := id C0
  unfold fX4_copyItems at hd
  have hl : lv_has ls 2 [(0, .ref h0), (1, .ref h5)] := hl
  refine lv_aload_n hx hb dX4_copyItems_0 rfl (lv_at hl 1 rfl) ?_
  refine va_get (D := (dC, dI)) (ci := 4) (v := .ref h6) (C := RX4) (T := TX4) (N := 8) hx hb hT inlX4 hown hK hP 5 rfl rfl 0 (by decide) (hT _ wm_4_11) (fun _ h9 => h9) rfl dX4_copyItems_1 ?_
  refine lv_iconst (v := 0) hx hb dX4_copyItems_4 (by decide) ?_
  refine lv_aload_n hx hb dX4_copyItems_5 rfl (lv_at hl 0 rfl) ?_
  refine va_get (D := (dC, dI)) (ci := 4) (v := .ref h1) (C := RX4) (T := TX4) (N := 8) hx hb hT inlX4 hown hK hP 0 rfl rfl 0 (by decide) (hT _ wm_4_11) (fun _ h9 => h9) rfl dX4_copyItems_6 ?_
  refine lv_iconst (v := 0) hx hb dX4_copyItems_9 (by decide) ?_
  refine lv_sipush (v := 300) hx hb dX4_copyItems_10 (by decide) ?_
  obtain ⟨g_1, hd⟩ := cpg_some hd
  refine va_copyi hx hb (hml.trans hl.1.symm) hown (hT _ wm_25_16) (hT _ wm_10_8) (hT _ wm_10_9) (hT _ wm_10_10) hK hP hD hS 6 1 0 0 rfl rfl rfl rfl rfl g_1.1 g_1.2.1 g_1.2.2.1 g_1.2.2.2.1 g_1.2.2.2.2 (fun _ _ => rfl) (Nat.le_of_ble_eq_true rfl) (Nat.le_of_ble_eq_true rfl) dX4_copyItems_13 (fun H locs hP hD hS => ?_)
  have hP : va_P (dC, dI) vwCl ((vX4 cI cJ cZ h0 h1 h2 h3 h4 (va_cpy o_states v_states (0 : Int32).toNatClampNeg (0 : Int32).toNatClampNeg (300 : Int32).toNatClampNeg) v_results v_tries v_settledValues v_items v_outs v_waiting v_settled) ++ (vX4 cI cJ cZ h5 h6 h7 h8 h9 o_states o_results o_tries o_settledValues o_items o_outs o_waiting o_settled)) H := hP
  have hD : va_D A ((vX4 cI cJ cZ h0 h1 h2 h3 h4 (va_cpy o_states v_states (0 : Int32).toNatClampNeg (0 : Int32).toNatClampNeg (300 : Int32).toNatClampNeg) v_results v_tries v_settledValues v_items v_outs v_waiting v_settled) ++ (vX4 cI cJ cZ h5 h6 h7 h8 h9 o_states o_results o_tries o_settledValues o_items o_outs o_waiting o_settled)) := hD
  refine lv_aload_n hx hb dX4_copyItems_16 rfl (lv_at hl 1 rfl) ?_
  refine va_get (D := (dC, dI)) (ci := 4) (v := .ref h7) (C := RX4) (T := TX4) (N := 8) hx hb hT inlX4 hown hK hP 5 rfl rfl 1 (by decide) (hT _ wm_4_12) (fun _ h9 => h9) rfl dX4_copyItems_17 ?_
  refine lv_iconst (v := 0) hx hb dX4_copyItems_20 (by decide) ?_
  refine lv_aload_n hx hb dX4_copyItems_21 rfl (lv_at hl 0 rfl) ?_
  refine va_get (D := (dC, dI)) (ci := 4) (v := .ref h2) (C := RX4) (T := TX4) (N := 8) hx hb hT inlX4 hown hK hP 0 rfl rfl 1 (by decide) (hT _ wm_4_12) (fun _ h9 => h9) rfl dX4_copyItems_22 ?_
  refine lv_iconst (v := 0) hx hb dX4_copyItems_25 (by decide) ?_
  refine lv_sipush (v := 300) hx hb dX4_copyItems_26 (by decide) ?_
  obtain ⟨g_2, hd⟩ := cpg_some hd
  refine va_copyi hx hb (hml.trans hl.1.symm) hown (hT _ wm_25_16) (hT _ wm_10_8) (hT _ wm_10_9) (hT _ wm_10_10) hK hP hD hS 7 2 0 0 rfl rfl rfl rfl rfl g_2.1 g_2.2.1 g_2.2.2.1 g_2.2.2.2.1 g_2.2.2.2.2 (fun _ _ => rfl) (Nat.le_of_ble_eq_true rfl) (Nat.le_of_ble_eq_true rfl) dX4_copyItems_29 (fun H locs hP hD hS => ?_)
  have hP : va_P (dC, dI) vwCl ((vX4 cI cJ cZ h0 h1 h2 h3 h4 (va_cpy o_states v_states (0 : Int32).toNatClampNeg (0 : Int32).toNatClampNeg (300 : Int32).toNatClampNeg) (va_cpy o_results v_results (0 : Int32).toNatClampNeg (0 : Int32).toNatClampNeg (300 : Int32).toNatClampNeg) v_tries v_settledValues v_items v_outs v_waiting v_settled) ++ (vX4 cI cJ cZ h5 h6 h7 h8 h9 o_states o_results o_tries o_settledValues o_items o_outs o_waiting o_settled)) H := hP
  have hD : va_D A ((vX4 cI cJ cZ h0 h1 h2 h3 h4 (va_cpy o_states v_states (0 : Int32).toNatClampNeg (0 : Int32).toNatClampNeg (300 : Int32).toNatClampNeg) (va_cpy o_results v_results (0 : Int32).toNatClampNeg (0 : Int32).toNatClampNeg (300 : Int32).toNatClampNeg) v_tries v_settledValues v_items v_outs v_waiting v_settled) ++ (vX4 cI cJ cZ h5 h6 h7 h8 h9 o_states o_results o_tries o_settledValues o_items o_outs o_waiting o_settled)) := hD
  refine lv_aload_n hx hb dX4_copyItems_32 rfl (lv_at hl 1 rfl) ?_
  refine va_get (D := (dC, dI)) (ci := 4) (v := .ref h8) (C := RX4) (T := TX4) (N := 8) hx hb hT inlX4 hown hK hP 5 rfl rfl 2 (by decide) (hT _ wm_4_13) (fun _ h9 => h9) rfl dX4_copyItems_33 ?_
  refine lv_iconst (v := 0) hx hb dX4_copyItems_36 (by decide) ?_
  refine lv_aload_n hx hb dX4_copyItems_37 rfl (lv_at hl 0 rfl) ?_
  refine va_get (D := (dC, dI)) (ci := 4) (v := .ref h3) (C := RX4) (T := TX4) (N := 8) hx hb hT inlX4 hown hK hP 0 rfl rfl 2 (by decide) (hT _ wm_4_13) (fun _ h9 => h9) rfl dX4_copyItems_38 ?_
  refine lv_iconst (v := 0) hx hb dX4_copyItems_41 (by decide) ?_
  refine lv_sipush (v := 300) hx hb dX4_copyItems_42 (by decide) ?_
  obtain ⟨g_3, hd⟩ := cpg_some hd
  refine va_copyi hx hb (hml.trans hl.1.symm) hown (hT _ wm_25_16) (hT _ wm_10_8) (hT _ wm_10_9) (hT _ wm_10_10) hK hP hD hS 8 3 0 0 rfl rfl rfl rfl rfl g_3.1 g_3.2.1 g_3.2.2.1 g_3.2.2.2.1 g_3.2.2.2.2 (fun _ _ => rfl) (Nat.le_of_ble_eq_true rfl) (Nat.le_of_ble_eq_true rfl) dX4_copyItems_45 (fun H locs hP hD hS => ?_)
  have hP : va_P (dC, dI) vwCl ((vX4 cI cJ cZ h0 h1 h2 h3 h4 (va_cpy o_states v_states (0 : Int32).toNatClampNeg (0 : Int32).toNatClampNeg (300 : Int32).toNatClampNeg) (va_cpy o_results v_results (0 : Int32).toNatClampNeg (0 : Int32).toNatClampNeg (300 : Int32).toNatClampNeg) (va_cpy o_tries v_tries (0 : Int32).toNatClampNeg (0 : Int32).toNatClampNeg (300 : Int32).toNatClampNeg) v_settledValues v_items v_outs v_waiting v_settled) ++ (vX4 cI cJ cZ h5 h6 h7 h8 h9 o_states o_results o_tries o_settledValues o_items o_outs o_waiting o_settled)) H := hP
  have hD : va_D A ((vX4 cI cJ cZ h0 h1 h2 h3 h4 (va_cpy o_states v_states (0 : Int32).toNatClampNeg (0 : Int32).toNatClampNeg (300 : Int32).toNatClampNeg) (va_cpy o_results v_results (0 : Int32).toNatClampNeg (0 : Int32).toNatClampNeg (300 : Int32).toNatClampNeg) (va_cpy o_tries v_tries (0 : Int32).toNatClampNeg (0 : Int32).toNatClampNeg (300 : Int32).toNatClampNeg) v_settledValues v_items v_outs v_waiting v_settled) ++ (vX4 cI cJ cZ h5 h6 h7 h8 h9 o_states o_results o_tries o_settledValues o_items o_outs o_waiting o_settled)) := hD
  refine lv_aload_n hx hb dX4_copyItems_48 rfl (lv_at hl 1 rfl) ?_
  refine va_get (D := (dC, dI)) (ci := 4) (v := .ref h9) (C := RX4) (T := TX4) (N := 8) hx hb hT inlX4 hown hK hP 5 rfl rfl 3 (by decide) (hT _ wm_4_14) (fun _ h9 => h9) rfl dX4_copyItems_49 ?_
  refine lv_iconst (v := 0) hx hb dX4_copyItems_52 (by decide) ?_
  refine lv_aload_n hx hb dX4_copyItems_53 rfl (lv_at hl 0 rfl) ?_
  refine va_get (D := (dC, dI)) (ci := 4) (v := .ref h4) (C := RX4) (T := TX4) (N := 8) hx hb hT inlX4 hown hK hP 0 rfl rfl 3 (by decide) (hT _ wm_4_14) (fun _ h9 => h9) rfl dX4_copyItems_54 ?_
  refine lv_iconst (v := 0) hx hb dX4_copyItems_57 (by decide) ?_
  refine lv_sipush (v := 300) hx hb dX4_copyItems_58 (by decide) ?_
  obtain ⟨g_4, hd⟩ := cpg_some hd
  refine va_copyl hx hb (hml.trans hl.1.symm) hown (hT _ wm_25_16) (hT _ wm_10_8) (hT _ wm_10_9) (hT _ wm_10_10) hK hP hD hS 9 4 1 1 rfl rfl rfl rfl rfl g_4.1 g_4.2.1 g_4.2.2.1 g_4.2.2.2.1 g_4.2.2.2.2 (fun _ _ => rfl) (Nat.le_of_ble_eq_true rfl) (Nat.le_of_ble_eq_true rfl) dX4_copyItems_61 (fun H locs hP hD hS => ?_)
  have hP : va_P (dC, dI) vwCl ((vX4 cI cJ cZ h0 h1 h2 h3 h4 (va_cpy o_states v_states (0 : Int32).toNatClampNeg (0 : Int32).toNatClampNeg (300 : Int32).toNatClampNeg) (va_cpy o_results v_results (0 : Int32).toNatClampNeg (0 : Int32).toNatClampNeg (300 : Int32).toNatClampNeg) (va_cpy o_tries v_tries (0 : Int32).toNatClampNeg (0 : Int32).toNatClampNeg (300 : Int32).toNatClampNeg) (va_cpy o_settledValues v_settledValues (0 : Int32).toNatClampNeg (0 : Int32).toNatClampNeg (300 : Int32).toNatClampNeg) v_items v_outs v_waiting v_settled) ++ (vX4 cI cJ cZ h5 h6 h7 h8 h9 o_states o_results o_tries o_settledValues o_items o_outs o_waiting o_settled)) H := hP
  have hD : va_D A ((vX4 cI cJ cZ h0 h1 h2 h3 h4 (va_cpy o_states v_states (0 : Int32).toNatClampNeg (0 : Int32).toNatClampNeg (300 : Int32).toNatClampNeg) (va_cpy o_results v_results (0 : Int32).toNatClampNeg (0 : Int32).toNatClampNeg (300 : Int32).toNatClampNeg) (va_cpy o_tries v_tries (0 : Int32).toNatClampNeg (0 : Int32).toNatClampNeg (300 : Int32).toNatClampNeg) (va_cpy o_settledValues v_settledValues (0 : Int32).toNatClampNeg (0 : Int32).toNatClampNeg (300 : Int32).toNatClampNeg) v_items v_outs v_waiting v_settled) ++ (vX4 cI cJ cZ h5 h6 h7 h8 h9 o_states o_results o_tries o_settledValues o_items o_outs o_waiting o_settled)) := hD
  refine lv_aload_n hx hb dX4_copyItems_64 rfl (lv_at hl 0 rfl) ?_
  refine lv_aload_n hx hb dX4_copyItems_65 rfl (lv_at hl 1 rfl) ?_
  refine va_get (D := (dC, dI)) (ci := 4) (v := .int o_outs) (C := RX4) (T := TX4) (N := 8) hx hb hT inlX4 hown hK hP 5 rfl rfl 5 (by decide) (hT _ wm_4_16) (fun _ h9 => h9) rfl dX4_copyItems_66 ?_
  refine va_put (D := (dC, dI)) (ci := 4) (v := .int o_outs) (ty := .int) (C := RX4) (T := TX4) (N := 8) hx hb hT inlX4 tyX4 tyX4_ok nmX4 hown hK hP hD hS 0 rfl rfl 5 (by decide) (hT _ wm_4_16) (fun _ h9 => h9) rfl (tyX4_ok 5 (by decide)) rfl rfl (Nat.le_of_ble_eq_true rfl) dX4_copyItems_69 (fun H locs hP hD hS => ?_)
  have hP : va_P (dC, dI) vwCl ((vX4 cI cJ cZ h0 h1 h2 h3 h4 (va_cpy o_states v_states (0 : Int32).toNatClampNeg (0 : Int32).toNatClampNeg (300 : Int32).toNatClampNeg) (va_cpy o_results v_results (0 : Int32).toNatClampNeg (0 : Int32).toNatClampNeg (300 : Int32).toNatClampNeg) (va_cpy o_tries v_tries (0 : Int32).toNatClampNeg (0 : Int32).toNatClampNeg (300 : Int32).toNatClampNeg) (va_cpy o_settledValues v_settledValues (0 : Int32).toNatClampNeg (0 : Int32).toNatClampNeg (300 : Int32).toNatClampNeg) v_items o_outs v_waiting v_settled) ++ (vX4 cI cJ cZ h5 h6 h7 h8 h9 o_states o_results o_tries o_settledValues o_items o_outs o_waiting o_settled)) H := hP
  have hD : va_D A ((vX4 cI cJ cZ h0 h1 h2 h3 h4 (va_cpy o_states v_states (0 : Int32).toNatClampNeg (0 : Int32).toNatClampNeg (300 : Int32).toNatClampNeg) (va_cpy o_results v_results (0 : Int32).toNatClampNeg (0 : Int32).toNatClampNeg (300 : Int32).toNatClampNeg) (va_cpy o_tries v_tries (0 : Int32).toNatClampNeg (0 : Int32).toNatClampNeg (300 : Int32).toNatClampNeg) (va_cpy o_settledValues v_settledValues (0 : Int32).toNatClampNeg (0 : Int32).toNatClampNeg (300 : Int32).toNatClampNeg) v_items o_outs v_waiting v_settled) ++ (vX4 cI cJ cZ h5 h6 h7 h8 h9 o_states o_results o_tries o_settledValues o_items o_outs o_waiting o_settled)) := hD
  refine lv_aload_n hx hb dX4_copyItems_72 rfl (lv_at hl 0 rfl) ?_
  refine lv_aload_n hx hb dX4_copyItems_73 rfl (lv_at hl 1 rfl) ?_
  refine va_get (D := (dC, dI)) (ci := 4) (v := .int o_waiting) (C := RX4) (T := TX4) (N := 8) hx hb hT inlX4 hown hK hP 5 rfl rfl 6 (by decide) (hT _ wm_4_17) (fun _ h9 => h9) rfl dX4_copyItems_74 ?_
  refine va_put (D := (dC, dI)) (ci := 4) (v := .int o_waiting) (ty := .int) (C := RX4) (T := TX4) (N := 8) hx hb hT inlX4 tyX4 tyX4_ok nmX4 hown hK hP hD hS 0 rfl rfl 6 (by decide) (hT _ wm_4_17) (fun _ h9 => h9) rfl (tyX4_ok 6 (by decide)) rfl rfl (Nat.le_of_ble_eq_true rfl) dX4_copyItems_77 (fun H locs hP hD hS => ?_)
  have hP : va_P (dC, dI) vwCl ((vX4 cI cJ cZ h0 h1 h2 h3 h4 (va_cpy o_states v_states (0 : Int32).toNatClampNeg (0 : Int32).toNatClampNeg (300 : Int32).toNatClampNeg) (va_cpy o_results v_results (0 : Int32).toNatClampNeg (0 : Int32).toNatClampNeg (300 : Int32).toNatClampNeg) (va_cpy o_tries v_tries (0 : Int32).toNatClampNeg (0 : Int32).toNatClampNeg (300 : Int32).toNatClampNeg) (va_cpy o_settledValues v_settledValues (0 : Int32).toNatClampNeg (0 : Int32).toNatClampNeg (300 : Int32).toNatClampNeg) v_items o_outs o_waiting v_settled) ++ (vX4 cI cJ cZ h5 h6 h7 h8 h9 o_states o_results o_tries o_settledValues o_items o_outs o_waiting o_settled)) H := hP
  have hD : va_D A ((vX4 cI cJ cZ h0 h1 h2 h3 h4 (va_cpy o_states v_states (0 : Int32).toNatClampNeg (0 : Int32).toNatClampNeg (300 : Int32).toNatClampNeg) (va_cpy o_results v_results (0 : Int32).toNatClampNeg (0 : Int32).toNatClampNeg (300 : Int32).toNatClampNeg) (va_cpy o_tries v_tries (0 : Int32).toNatClampNeg (0 : Int32).toNatClampNeg (300 : Int32).toNatClampNeg) (va_cpy o_settledValues v_settledValues (0 : Int32).toNatClampNeg (0 : Int32).toNatClampNeg (300 : Int32).toNatClampNeg) v_items o_outs o_waiting v_settled) ++ (vX4 cI cJ cZ h5 h6 h7 h8 h9 o_states o_results o_tries o_settledValues o_items o_outs o_waiting o_settled)) := hD
  refine lv_aload_n hx hb dX4_copyItems_80 rfl (lv_at hl 0 rfl) ?_
  refine lv_aload_n hx hb dX4_copyItems_81 rfl (lv_at hl 1 rfl) ?_
  refine va_get (D := (dC, dI)) (ci := 4) (v := .int o_settled) (C := RX4) (T := TX4) (N := 8) hx hb hT inlX4 hown hK hP 5 rfl rfl 7 (by decide) (hT _ wm_4_18) (fun _ h9 => h9) rfl dX4_copyItems_82 ?_
  refine va_put (D := (dC, dI)) (ci := 4) (v := .int o_settled) (ty := .int) (C := RX4) (T := TX4) (N := 8) hx hb hT inlX4 tyX4 tyX4_ok nmX4 hown hK hP hD hS 0 rfl rfl 7 (by decide) (hT _ wm_4_18) (fun _ h9 => h9) rfl (tyX4_ok 7 (by decide)) rfl rfl (Nat.le_of_ble_eq_true rfl) dX4_copyItems_85 (fun H locs hP hD hS => ?_)
  have hP : va_P (dC, dI) vwCl ((vX4 cI cJ cZ h0 h1 h2 h3 h4 (va_cpy o_states v_states (0 : Int32).toNatClampNeg (0 : Int32).toNatClampNeg (300 : Int32).toNatClampNeg) (va_cpy o_results v_results (0 : Int32).toNatClampNeg (0 : Int32).toNatClampNeg (300 : Int32).toNatClampNeg) (va_cpy o_tries v_tries (0 : Int32).toNatClampNeg (0 : Int32).toNatClampNeg (300 : Int32).toNatClampNeg) (va_cpy o_settledValues v_settledValues (0 : Int32).toNatClampNeg (0 : Int32).toNatClampNeg (300 : Int32).toNatClampNeg) v_items o_outs o_waiting o_settled) ++ (vX4 cI cJ cZ h5 h6 h7 h8 h9 o_states o_results o_tries o_settledValues o_items o_outs o_waiting o_settled)) H := hP
  have hD : va_D A ((vX4 cI cJ cZ h0 h1 h2 h3 h4 (va_cpy o_states v_states (0 : Int32).toNatClampNeg (0 : Int32).toNatClampNeg (300 : Int32).toNatClampNeg) (va_cpy o_results v_results (0 : Int32).toNatClampNeg (0 : Int32).toNatClampNeg (300 : Int32).toNatClampNeg) (va_cpy o_tries v_tries (0 : Int32).toNatClampNeg (0 : Int32).toNatClampNeg (300 : Int32).toNatClampNeg) (va_cpy o_settledValues v_settledValues (0 : Int32).toNatClampNeg (0 : Int32).toNatClampNeg (300 : Int32).toNatClampNeg) v_items o_outs o_waiting o_settled) ++ (vX4 cI cJ cZ h5 h6 h7 h8 h9 o_states o_results o_tries o_settledValues o_items o_outs o_waiting o_settled)) := hD
  obtain rfl := Option.some.inj hd
  exact my_vret C0 hK hP hD hS dX4_copyItems_88
set_option maxHeartbeats 4000000 in
set_option maxRecDepth 100000 in
theorem mX4_copyItems_s (l : Launch) (dC : Nat → ClassId) (dI : Nat → Nat → Nat) (cI cJ cZ : ClassId) (h0 h1 h2 h3 h4 h5 h6 h7 h8 h9 : Nat) (v_states : Nat → Int32) (v_results : Nat → Int32) (v_tries : Nat → Int32) (v_settledValues : Nat → Int64) (v_items : Int32) (v_outs : Int32) (v_waiting : Int32) (v_settled : Int32) (o_states : Nat → Int32) (o_results : Nat → Int32) (o_tries : Nat → Int32) (o_settledValues : Nat → Int64) (o_items : Int32) (o_outs : Int32) (o_waiting : Int32) (o_settled : Int32)  {r : (Nat → Int32) × (Nat → Int32) × (Nat → Int32) × (Nat → Int64) × Int32 × Int32 × Int32} (hd : fX4_copyItems v_states v_results v_tries v_settledValues v_items v_outs v_waiting v_settled o_states o_results o_tries o_settledValues o_items o_outs o_waiting o_settled  = some r) (sz : Nat)  : Met l yX4_copyItems (wS yX4_copyItems cX4_copyItems 2 none) { frames := 1, cells := 0, slots := 0, locals := 18 } (pC (dC, dI) (kT cI cJ cZ) xT ((vX4 cI cJ cZ h5 h6 h7 h8 h9 o_states o_results o_tries o_settledValues o_items o_outs o_waiting o_settled) ++ (vX4 cI cJ cZ h0 h1 h2 h3 h4 v_states v_results v_tries v_settledValues v_items v_outs v_waiting v_settled)) sz [.ref h0, .ref h5]) (qV (dC, dI) (kT cI cJ cZ) ((vX4 cI cJ cZ h5 h6 h7 h8 h9 o_states o_results o_tries o_settledValues o_items o_outs o_waiting o_settled) ++ (vX4 cI cJ cZ h0 h1 h2 h3 h4 r.1 r.2.1 r.2.2.1 r.2.2.2.1 v_items r.2.2.2.2.1 r.2.2.2.2.2.1 r.2.2.2.2.2.2)) (va_A ((vX4 cI cJ cZ h5 h6 h7 h8 h9 o_states o_results o_tries o_settledValues o_items o_outs o_waiting o_settled) ++ (vX4 cI cJ cZ h0 h1 h2 h3 h4 v_states v_results v_tries v_settledValues v_items v_outs v_waiting v_settled)) sz)) 0 0 (va_A ((vX4 cI cJ cZ h5 h6 h7 h8 h9 o_states o_results o_tries o_settledValues o_items o_outs o_waiting o_settled) ++ (vX4 cI cJ cZ h0 h1 h2 h3 h4 v_states v_results v_tries v_settledValues v_items v_outs v_waiting v_settled)) sz) := by
  refine my_ent (fun A => qV (dC, dI) (kT cI cJ cZ) ((vX4 cI cJ cZ h5 h6 h7 h8 h9 o_states o_results o_tries o_settledValues o_items o_outs o_waiting o_settled) ++ (vX4 cI cJ cZ h0 h1 h2 h3 h4 r.1 r.2.1 r.2.2.1 r.2.2.2.1 v_items r.2.2.2.2.1 r.2.2.2.2.2.1 r.2.2.2.2.2.2)) A) (by decide) (Nat.le_of_ble_eq_true rfl) ?_
  intro p e s m below meth c A hAe hnm C0 hK hX hP hD hA hS ls hl
  obtain ⟨hx, hb, hml, hown, hT, hr, hlocks⟩ := id C0
  unfold fX4_copyItems at hd
  have hl : lv_has ls 2 [(0, .ref h0), (1, .ref h5)] := hl
  refine lv_aload_n hx hb dX4_copyItems_0 rfl (lv_at hl 1 rfl) ?_
  refine va_get (D := (dC, dI)) (ci := 4) (v := .ref h6) (C := RX4) (T := TX4) (N := 8) hx hb hT inlX4 hown hK hP 0 rfl rfl 0 (by decide) (hT _ wm_4_11) (fun _ h9 => h9) rfl dX4_copyItems_1 ?_
  refine lv_iconst (v := 0) hx hb dX4_copyItems_4 (by decide) ?_
  refine lv_aload_n hx hb dX4_copyItems_5 rfl (lv_at hl 0 rfl) ?_
  refine va_get (D := (dC, dI)) (ci := 4) (v := .ref h1) (C := RX4) (T := TX4) (N := 8) hx hb hT inlX4 hown hK hP 5 rfl rfl 0 (by decide) (hT _ wm_4_11) (fun _ h9 => h9) rfl dX4_copyItems_6 ?_
  refine lv_iconst (v := 0) hx hb dX4_copyItems_9 (by decide) ?_
  refine lv_sipush (v := 300) hx hb dX4_copyItems_10 (by decide) ?_
  obtain ⟨g_1, hd⟩ := cpg_some hd
  refine va_copyi hx hb (hml.trans hl.1.symm) hown (hT _ wm_25_16) (hT _ wm_10_8) (hT _ wm_10_9) (hT _ wm_10_10) hK hP hD hS 1 6 0 0 rfl rfl rfl rfl rfl g_1.1 g_1.2.1 g_1.2.2.1 g_1.2.2.2.1 g_1.2.2.2.2 (fun _ _ => rfl) (Nat.le_of_ble_eq_true rfl) (Nat.le_of_ble_eq_true rfl) dX4_copyItems_13 (fun H locs hP hD hS => ?_)
  have hP : va_P (dC, dI) vwCl ((vX4 cI cJ cZ h5 h6 h7 h8 h9 o_states o_results o_tries o_settledValues o_items o_outs o_waiting o_settled) ++ (vX4 cI cJ cZ h0 h1 h2 h3 h4 (va_cpy o_states v_states (0 : Int32).toNatClampNeg (0 : Int32).toNatClampNeg (300 : Int32).toNatClampNeg) v_results v_tries v_settledValues v_items v_outs v_waiting v_settled)) H := hP
  have hD : va_D A ((vX4 cI cJ cZ h5 h6 h7 h8 h9 o_states o_results o_tries o_settledValues o_items o_outs o_waiting o_settled) ++ (vX4 cI cJ cZ h0 h1 h2 h3 h4 (va_cpy o_states v_states (0 : Int32).toNatClampNeg (0 : Int32).toNatClampNeg (300 : Int32).toNatClampNeg) v_results v_tries v_settledValues v_items v_outs v_waiting v_settled)) := hD
  refine lv_aload_n hx hb dX4_copyItems_16 rfl (lv_at hl 1 rfl) ?_
  refine va_get (D := (dC, dI)) (ci := 4) (v := .ref h7) (C := RX4) (T := TX4) (N := 8) hx hb hT inlX4 hown hK hP 0 rfl rfl 1 (by decide) (hT _ wm_4_12) (fun _ h9 => h9) rfl dX4_copyItems_17 ?_
  refine lv_iconst (v := 0) hx hb dX4_copyItems_20 (by decide) ?_
  refine lv_aload_n hx hb dX4_copyItems_21 rfl (lv_at hl 0 rfl) ?_
  refine va_get (D := (dC, dI)) (ci := 4) (v := .ref h2) (C := RX4) (T := TX4) (N := 8) hx hb hT inlX4 hown hK hP 5 rfl rfl 1 (by decide) (hT _ wm_4_12) (fun _ h9 => h9) rfl dX4_copyItems_22 ?_
  refine lv_iconst (v := 0) hx hb dX4_copyItems_25 (by decide) ?_
  refine lv_sipush (v := 300) hx hb dX4_copyItems_26 (by decide) ?_
  obtain ⟨g_2, hd⟩ := cpg_some hd
  refine va_copyi hx hb (hml.trans hl.1.symm) hown (hT _ wm_25_16) (hT _ wm_10_8) (hT _ wm_10_9) (hT _ wm_10_10) hK hP hD hS 2 7 0 0 rfl rfl rfl rfl rfl g_2.1 g_2.2.1 g_2.2.2.1 g_2.2.2.2.1 g_2.2.2.2.2 (fun _ _ => rfl) (Nat.le_of_ble_eq_true rfl) (Nat.le_of_ble_eq_true rfl) dX4_copyItems_29 (fun H locs hP hD hS => ?_)
  have hP : va_P (dC, dI) vwCl ((vX4 cI cJ cZ h5 h6 h7 h8 h9 o_states o_results o_tries o_settledValues o_items o_outs o_waiting o_settled) ++ (vX4 cI cJ cZ h0 h1 h2 h3 h4 (va_cpy o_states v_states (0 : Int32).toNatClampNeg (0 : Int32).toNatClampNeg (300 : Int32).toNatClampNeg) (va_cpy o_results v_results (0 : Int32).toNatClampNeg (0 : Int32).toNatClampNeg (300 : Int32).toNatClampNeg) v_tries v_settledValues v_items v_outs v_waiting v_settled)) H := hP
  have hD : va_D A ((vX4 cI cJ cZ h5 h6 h7 h8 h9 o_states o_results o_tries o_settledValues o_items o_outs o_waiting o_settled) ++ (vX4 cI cJ cZ h0 h1 h2 h3 h4 (va_cpy o_states v_states (0 : Int32).toNatClampNeg (0 : Int32).toNatClampNeg (300 : Int32).toNatClampNeg) (va_cpy o_results v_results (0 : Int32).toNatClampNeg (0 : Int32).toNatClampNeg (300 : Int32).toNatClampNeg) v_tries v_settledValues v_items v_outs v_waiting v_settled)) := hD
  refine lv_aload_n hx hb dX4_copyItems_32 rfl (lv_at hl 1 rfl) ?_
  refine va_get (D := (dC, dI)) (ci := 4) (v := .ref h8) (C := RX4) (T := TX4) (N := 8) hx hb hT inlX4 hown hK hP 0 rfl rfl 2 (by decide) (hT _ wm_4_13) (fun _ h9 => h9) rfl dX4_copyItems_33 ?_
  refine lv_iconst (v := 0) hx hb dX4_copyItems_36 (by decide) ?_
  refine lv_aload_n hx hb dX4_copyItems_37 rfl (lv_at hl 0 rfl) ?_
  refine va_get (D := (dC, dI)) (ci := 4) (v := .ref h3) (C := RX4) (T := TX4) (N := 8) hx hb hT inlX4 hown hK hP 5 rfl rfl 2 (by decide) (hT _ wm_4_13) (fun _ h9 => h9) rfl dX4_copyItems_38 ?_
  refine lv_iconst (v := 0) hx hb dX4_copyItems_41 (by decide) ?_
  refine lv_sipush (v := 300) hx hb dX4_copyItems_42 (by decide) ?_
  obtain ⟨g_3, hd⟩ := cpg_some hd
  refine va_copyi hx hb (hml.trans hl.1.symm) hown (hT _ wm_25_16) (hT _ wm_10_8) (hT _ wm_10_9) (hT _ wm_10_10) hK hP hD hS 3 8 0 0 rfl rfl rfl rfl rfl g_3.1 g_3.2.1 g_3.2.2.1 g_3.2.2.2.1 g_3.2.2.2.2 (fun _ _ => rfl) (Nat.le_of_ble_eq_true rfl) (Nat.le_of_ble_eq_true rfl) dX4_copyItems_45 (fun H locs hP hD hS => ?_)
  have hP : va_P (dC, dI) vwCl ((vX4 cI cJ cZ h5 h6 h7 h8 h9 o_states o_results o_tries o_settledValues o_items o_outs o_waiting o_settled) ++ (vX4 cI cJ cZ h0 h1 h2 h3 h4 (va_cpy o_states v_states (0 : Int32).toNatClampNeg (0 : Int32).toNatClampNeg (300 : Int32).toNatClampNeg) (va_cpy o_results v_results (0 : Int32).toNatClampNeg (0 : Int32).toNatClampNeg (300 : Int32).toNatClampNeg) (va_cpy o_tries v_tries (0 : Int32).toNatClampNeg (0 : Int32).toNatClampNeg (300 : Int32).toNatClampNeg) v_settledValues v_items v_outs v_waiting v_settled)) H := hP
  have hD : va_D A ((vX4 cI cJ cZ h5 h6 h7 h8 h9 o_states o_results o_tries o_settledValues o_items o_outs o_waiting o_settled) ++ (vX4 cI cJ cZ h0 h1 h2 h3 h4 (va_cpy o_states v_states (0 : Int32).toNatClampNeg (0 : Int32).toNatClampNeg (300 : Int32).toNatClampNeg) (va_cpy o_results v_results (0 : Int32).toNatClampNeg (0 : Int32).toNatClampNeg (300 : Int32).toNatClampNeg) (va_cpy o_tries v_tries (0 : Int32).toNatClampNeg (0 : Int32).toNatClampNeg (300 : Int32).toNatClampNeg) v_settledValues v_items v_outs v_waiting v_settled)) := hD
  refine lv_aload_n hx hb dX4_copyItems_48 rfl (lv_at hl 1 rfl) ?_
  refine va_get (D := (dC, dI)) (ci := 4) (v := .ref h9) (C := RX4) (T := TX4) (N := 8) hx hb hT inlX4 hown hK hP 0 rfl rfl 3 (by decide) (hT _ wm_4_14) (fun _ h9 => h9) rfl dX4_copyItems_49 ?_
  refine lv_iconst (v := 0) hx hb dX4_copyItems_52 (by decide) ?_
  refine lv_aload_n hx hb dX4_copyItems_53 rfl (lv_at hl 0 rfl) ?_
  refine va_get (D := (dC, dI)) (ci := 4) (v := .ref h4) (C := RX4) (T := TX4) (N := 8) hx hb hT inlX4 hown hK hP 5 rfl rfl 3 (by decide) (hT _ wm_4_14) (fun _ h9 => h9) rfl dX4_copyItems_54 ?_
  refine lv_iconst (v := 0) hx hb dX4_copyItems_57 (by decide) ?_
  refine lv_sipush (v := 300) hx hb dX4_copyItems_58 (by decide) ?_
  obtain ⟨g_4, hd⟩ := cpg_some hd
  refine va_copyl hx hb (hml.trans hl.1.symm) hown (hT _ wm_25_16) (hT _ wm_10_8) (hT _ wm_10_9) (hT _ wm_10_10) hK hP hD hS 4 9 1 1 rfl rfl rfl rfl rfl g_4.1 g_4.2.1 g_4.2.2.1 g_4.2.2.2.1 g_4.2.2.2.2 (fun _ _ => rfl) (Nat.le_of_ble_eq_true rfl) (Nat.le_of_ble_eq_true rfl) dX4_copyItems_61 (fun H locs hP hD hS => ?_)
  have hP : va_P (dC, dI) vwCl ((vX4 cI cJ cZ h5 h6 h7 h8 h9 o_states o_results o_tries o_settledValues o_items o_outs o_waiting o_settled) ++ (vX4 cI cJ cZ h0 h1 h2 h3 h4 (va_cpy o_states v_states (0 : Int32).toNatClampNeg (0 : Int32).toNatClampNeg (300 : Int32).toNatClampNeg) (va_cpy o_results v_results (0 : Int32).toNatClampNeg (0 : Int32).toNatClampNeg (300 : Int32).toNatClampNeg) (va_cpy o_tries v_tries (0 : Int32).toNatClampNeg (0 : Int32).toNatClampNeg (300 : Int32).toNatClampNeg) (va_cpy o_settledValues v_settledValues (0 : Int32).toNatClampNeg (0 : Int32).toNatClampNeg (300 : Int32).toNatClampNeg) v_items v_outs v_waiting v_settled)) H := hP
  have hD : va_D A ((vX4 cI cJ cZ h5 h6 h7 h8 h9 o_states o_results o_tries o_settledValues o_items o_outs o_waiting o_settled) ++ (vX4 cI cJ cZ h0 h1 h2 h3 h4 (va_cpy o_states v_states (0 : Int32).toNatClampNeg (0 : Int32).toNatClampNeg (300 : Int32).toNatClampNeg) (va_cpy o_results v_results (0 : Int32).toNatClampNeg (0 : Int32).toNatClampNeg (300 : Int32).toNatClampNeg) (va_cpy o_tries v_tries (0 : Int32).toNatClampNeg (0 : Int32).toNatClampNeg (300 : Int32).toNatClampNeg) (va_cpy o_settledValues v_settledValues (0 : Int32).toNatClampNeg (0 : Int32).toNatClampNeg (300 : Int32).toNatClampNeg) v_items v_outs v_waiting v_settled)) := hD
  refine lv_aload_n hx hb dX4_copyItems_64 rfl (lv_at hl 0 rfl) ?_
  refine lv_aload_n hx hb dX4_copyItems_65 rfl (lv_at hl 1 rfl) ?_
  refine va_get (D := (dC, dI)) (ci := 4) (v := .int o_outs) (C := RX4) (T := TX4) (N := 8) hx hb hT inlX4 hown hK hP 0 rfl rfl 5 (by decide) (hT _ wm_4_16) (fun _ h9 => h9) rfl dX4_copyItems_66 ?_
  refine va_put (D := (dC, dI)) (ci := 4) (v := .int o_outs) (ty := .int) (C := RX4) (T := TX4) (N := 8) hx hb hT inlX4 tyX4 tyX4_ok nmX4 hown hK hP hD hS 5 rfl rfl 5 (by decide) (hT _ wm_4_16) (fun _ h9 => h9) rfl (tyX4_ok 5 (by decide)) rfl rfl (Nat.le_of_ble_eq_true rfl) dX4_copyItems_69 (fun H locs hP hD hS => ?_)
  have hP : va_P (dC, dI) vwCl ((vX4 cI cJ cZ h5 h6 h7 h8 h9 o_states o_results o_tries o_settledValues o_items o_outs o_waiting o_settled) ++ (vX4 cI cJ cZ h0 h1 h2 h3 h4 (va_cpy o_states v_states (0 : Int32).toNatClampNeg (0 : Int32).toNatClampNeg (300 : Int32).toNatClampNeg) (va_cpy o_results v_results (0 : Int32).toNatClampNeg (0 : Int32).toNatClampNeg (300 : Int32).toNatClampNeg) (va_cpy o_tries v_tries (0 : Int32).toNatClampNeg (0 : Int32).toNatClampNeg (300 : Int32).toNatClampNeg) (va_cpy o_settledValues v_settledValues (0 : Int32).toNatClampNeg (0 : Int32).toNatClampNeg (300 : Int32).toNatClampNeg) v_items o_outs v_waiting v_settled)) H := hP
  have hD : va_D A ((vX4 cI cJ cZ h5 h6 h7 h8 h9 o_states o_results o_tries o_settledValues o_items o_outs o_waiting o_settled) ++ (vX4 cI cJ cZ h0 h1 h2 h3 h4 (va_cpy o_states v_states (0 : Int32).toNatClampNeg (0 : Int32).toNatClampNeg (300 : Int32).toNatClampNeg) (va_cpy o_results v_results (0 : Int32).toNatClampNeg (0 : Int32).toNatClampNeg (300 : Int32).toNatClampNeg) (va_cpy o_tries v_tries (0 : Int32).toNatClampNeg (0 : Int32).toNatClampNeg (300 : Int32).toNatClampNeg) (va_cpy o_settledValues v_settledValues (0 : Int32).toNatClampNeg (0 : Int32).toNatClampNeg (300 : Int32).toNatClampNeg) v_items o_outs v_waiting v_settled)) := hD
  refine lv_aload_n hx hb dX4_copyItems_72 rfl (lv_at hl 0 rfl) ?_
  refine lv_aload_n hx hb dX4_copyItems_73 rfl (lv_at hl 1 rfl) ?_
  refine va_get (D := (dC, dI)) (ci := 4) (v := .int o_waiting) (C := RX4) (T := TX4) (N := 8) hx hb hT inlX4 hown hK hP 0 rfl rfl 6 (by decide) (hT _ wm_4_17) (fun _ h9 => h9) rfl dX4_copyItems_74 ?_
  refine va_put (D := (dC, dI)) (ci := 4) (v := .int o_waiting) (ty := .int) (C := RX4) (T := TX4) (N := 8) hx hb hT inlX4 tyX4 tyX4_ok nmX4 hown hK hP hD hS 5 rfl rfl 6 (by decide) (hT _ wm_4_17) (fun _ h9 => h9) rfl (tyX4_ok 6 (by decide)) rfl rfl (Nat.le_of_ble_eq_true rfl) dX4_copyItems_77 (fun H locs hP hD hS => ?_)
  have hP : va_P (dC, dI) vwCl ((vX4 cI cJ cZ h5 h6 h7 h8 h9 o_states o_results o_tries o_settledValues o_items o_outs o_waiting o_settled) ++ (vX4 cI cJ cZ h0 h1 h2 h3 h4 (va_cpy o_states v_states (0 : Int32).toNatClampNeg (0 : Int32).toNatClampNeg (300 : Int32).toNatClampNeg) (va_cpy o_results v_results (0 : Int32).toNatClampNeg (0 : Int32).toNatClampNeg (300 : Int32).toNatClampNeg) (va_cpy o_tries v_tries (0 : Int32).toNatClampNeg (0 : Int32).toNatClampNeg (300 : Int32).toNatClampNeg) (va_cpy o_settledValues v_settledValues (0 : Int32).toNatClampNeg (0 : Int32).toNatClampNeg (300 : Int32).toNatClampNeg) v_items o_outs o_waiting v_settled)) H := hP
  have hD : va_D A ((vX4 cI cJ cZ h5 h6 h7 h8 h9 o_states o_results o_tries o_settledValues o_items o_outs o_waiting o_settled) ++ (vX4 cI cJ cZ h0 h1 h2 h3 h4 (va_cpy o_states v_states (0 : Int32).toNatClampNeg (0 : Int32).toNatClampNeg (300 : Int32).toNatClampNeg) (va_cpy o_results v_results (0 : Int32).toNatClampNeg (0 : Int32).toNatClampNeg (300 : Int32).toNatClampNeg) (va_cpy o_tries v_tries (0 : Int32).toNatClampNeg (0 : Int32).toNatClampNeg (300 : Int32).toNatClampNeg) (va_cpy o_settledValues v_settledValues (0 : Int32).toNatClampNeg (0 : Int32).toNatClampNeg (300 : Int32).toNatClampNeg) v_items o_outs o_waiting v_settled)) := hD
  refine lv_aload_n hx hb dX4_copyItems_80 rfl (lv_at hl 0 rfl) ?_
  refine lv_aload_n hx hb dX4_copyItems_81 rfl (lv_at hl 1 rfl) ?_
  refine va_get (D := (dC, dI)) (ci := 4) (v := .int o_settled) (C := RX4) (T := TX4) (N := 8) hx hb hT inlX4 hown hK hP 0 rfl rfl 7 (by decide) (hT _ wm_4_18) (fun _ h9 => h9) rfl dX4_copyItems_82 ?_
  refine va_put (D := (dC, dI)) (ci := 4) (v := .int o_settled) (ty := .int) (C := RX4) (T := TX4) (N := 8) hx hb hT inlX4 tyX4 tyX4_ok nmX4 hown hK hP hD hS 5 rfl rfl 7 (by decide) (hT _ wm_4_18) (fun _ h9 => h9) rfl (tyX4_ok 7 (by decide)) rfl rfl (Nat.le_of_ble_eq_true rfl) dX4_copyItems_85 (fun H locs hP hD hS => ?_)
  have hP : va_P (dC, dI) vwCl ((vX4 cI cJ cZ h5 h6 h7 h8 h9 o_states o_results o_tries o_settledValues o_items o_outs o_waiting o_settled) ++ (vX4 cI cJ cZ h0 h1 h2 h3 h4 (va_cpy o_states v_states (0 : Int32).toNatClampNeg (0 : Int32).toNatClampNeg (300 : Int32).toNatClampNeg) (va_cpy o_results v_results (0 : Int32).toNatClampNeg (0 : Int32).toNatClampNeg (300 : Int32).toNatClampNeg) (va_cpy o_tries v_tries (0 : Int32).toNatClampNeg (0 : Int32).toNatClampNeg (300 : Int32).toNatClampNeg) (va_cpy o_settledValues v_settledValues (0 : Int32).toNatClampNeg (0 : Int32).toNatClampNeg (300 : Int32).toNatClampNeg) v_items o_outs o_waiting o_settled)) H := hP
  have hD : va_D A ((vX4 cI cJ cZ h5 h6 h7 h8 h9 o_states o_results o_tries o_settledValues o_items o_outs o_waiting o_settled) ++ (vX4 cI cJ cZ h0 h1 h2 h3 h4 (va_cpy o_states v_states (0 : Int32).toNatClampNeg (0 : Int32).toNatClampNeg (300 : Int32).toNatClampNeg) (va_cpy o_results v_results (0 : Int32).toNatClampNeg (0 : Int32).toNatClampNeg (300 : Int32).toNatClampNeg) (va_cpy o_tries v_tries (0 : Int32).toNatClampNeg (0 : Int32).toNatClampNeg (300 : Int32).toNatClampNeg) (va_cpy o_settledValues v_settledValues (0 : Int32).toNatClampNeg (0 : Int32).toNatClampNeg (300 : Int32).toNatClampNeg) v_items o_outs o_waiting o_settled)) := hD
  obtain rfl := Option.some.inj hd
  exact my_vret C0 hK hP hD hS dX4_copyItems_88
def fX4_copyFrom (v_states : Nat → Int32) (v_results : Nat → Int32) (v_tries : Nat → Int32) (v_settledValues : Nat → Int64) (v_items : Int32) (v_outs : Int32) (v_waiting : Int32) (v_settled : Int32) (o_states : Nat → Int32) (o_results : Nat → Int32) (o_tries : Nat → Int32) (o_settledValues : Nat → Int64) (o_items : Int32) (o_outs : Int32) (o_waiting : Int32) (o_settled : Int32)  : Option ((Nat → Int32) × (Nat → Int32) × (Nat → Int32) × (Nat → Int64) × Int32 × Int32 × Int32 × Int32) := (fX4_copyItems v_states v_results v_tries v_settledValues v_items v_outs v_waiting v_settled o_states o_results o_tries o_settledValues o_items o_outs o_waiting o_settled).bind (fun u_1 => some (u_1.1, u_1.2.1, u_1.2.2.1, u_1.2.2.2.1, o_items, u_1.2.2.2.2.1, u_1.2.2.2.2.2.1, u_1.2.2.2.2.2.2))
set_option maxHeartbeats 4000000 in
set_option maxRecDepth 100000 in
theorem mX4_copyFrom (l : Launch) (dC : Nat → ClassId) (dI : Nat → Nat → Nat) (cI cJ cZ : ClassId) (h0 h1 h2 h3 h4 h5 h6 h7 h8 h9 : Nat) (v_states : Nat → Int32) (v_results : Nat → Int32) (v_tries : Nat → Int32) (v_settledValues : Nat → Int64) (v_items : Int32) (v_outs : Int32) (v_waiting : Int32) (v_settled : Int32) (o_states : Nat → Int32) (o_results : Nat → Int32) (o_tries : Nat → Int32) (o_settledValues : Nat → Int64) (o_items : Int32) (o_outs : Int32) (o_waiting : Int32) (o_settled : Int32)  {r : (Nat → Int32) × (Nat → Int32) × (Nat → Int32) × (Nat → Int64) × Int32 × Int32 × Int32 × Int32} (hd : fX4_copyFrom v_states v_results v_tries v_settledValues v_items v_outs v_waiting v_settled o_states o_results o_tries o_settledValues o_items o_outs o_waiting o_settled  = some r) (sz : Nat)  : Met l yX4_copyFrom (wS yX4_copyFrom cX4_copyFrom 2 none) { frames := 2, cells := 0, slots := 0, locals := 39 } (pC (dC, dI) (kT cI cJ cZ) xT ((vX4 cI cJ cZ h0 h1 h2 h3 h4 v_states v_results v_tries v_settledValues v_items v_outs v_waiting v_settled) ++ (vX4 cI cJ cZ h5 h6 h7 h8 h9 o_states o_results o_tries o_settledValues o_items o_outs o_waiting o_settled)) sz [.ref h0, .ref h5]) (qV (dC, dI) (kT cI cJ cZ) ((vX4 cI cJ cZ h0 h1 h2 h3 h4 r.1 r.2.1 r.2.2.1 r.2.2.2.1 r.2.2.2.2.1 r.2.2.2.2.2.1 r.2.2.2.2.2.2.1 r.2.2.2.2.2.2.2) ++ (vX4 cI cJ cZ h5 h6 h7 h8 h9 o_states o_results o_tries o_settledValues o_items o_outs o_waiting o_settled)) (va_A ((vX4 cI cJ cZ h0 h1 h2 h3 h4 v_states v_results v_tries v_settledValues v_items v_outs v_waiting v_settled) ++ (vX4 cI cJ cZ h5 h6 h7 h8 h9 o_states o_results o_tries o_settledValues o_items o_outs o_waiting o_settled)) sz)) 0 0 (va_A ((vX4 cI cJ cZ h0 h1 h2 h3 h4 v_states v_results v_tries v_settledValues v_items v_outs v_waiting v_settled) ++ (vX4 cI cJ cZ h5 h6 h7 h8 h9 o_states o_results o_tries o_settledValues o_items o_outs o_waiting o_settled)) sz) := by
  refine my_ent (fun A => qV (dC, dI) (kT cI cJ cZ) ((vX4 cI cJ cZ h0 h1 h2 h3 h4 r.1 r.2.1 r.2.2.1 r.2.2.2.1 r.2.2.2.2.1 r.2.2.2.2.2.1 r.2.2.2.2.2.2.1 r.2.2.2.2.2.2.2) ++ (vX4 cI cJ cZ h5 h6 h7 h8 h9 o_states o_results o_tries o_settledValues o_items o_outs o_waiting o_settled)) A) (by decide) (Nat.le_of_ble_eq_true rfl) ?_
  intro p e s m below meth c A hAe hnm C0 hK hX hP hD hA hS ls hl
  obtain ⟨hx, hb, hml, hown, hT, hr, hlocks⟩ := id C0
  unfold fX4_copyFrom at hd
  have hl : lv_has ls 2 [(0, .ref h0), (1, .ref h5)] := hl
  refine lv_aload_n hx hb dX4_copyFrom_0 rfl (lv_at hl 0 rfl) ?_
  refine lv_aload_n hx hb dX4_copyFrom_1 rfl (lv_at hl 1 rfl) ?_
  obtain ⟨u_1, hc_2, hd⟩ := bd hd
  refine cv_v (W' := (vX4 cI cJ cZ h0 h1 h2 h3 h4 v_states v_results v_tries v_settledValues v_items v_outs v_waiting v_settled) ++ (vX4 cI cJ cZ h5 h6 h7 h8 h9 o_states o_results o_tries o_settledValues o_items o_outs o_waiting o_settled)) (Wn := (vX4 cI cJ cZ h0 h1 h2 h3 h4 u_1.1 u_1.2.1 u_1.2.2.1 u_1.2.2.2.1 v_items u_1.2.2.2.2.1 u_1.2.2.2.2.2.1 u_1.2.2.2.2.2.2) ++ (vX4 cI cJ cZ h5 h6 h7 h8 h9 o_states o_results o_tries o_settledValues o_items o_outs o_waiting o_settled)) (rest := []) C0 (mX4_copyItems l dC dI cI cJ cZ h0 h1 h2 h3 h4 h5 h6 h7 h8 h9 v_states v_results v_tries v_settledValues v_items v_outs v_waiting v_settled o_states o_results o_tries o_settledValues o_items o_outs o_waiting o_settled  hc_2 _) gv_X4_42 yd_X4_copyItems ⟨rfl, rfl, Nat.le_of_ble_eq_true rfl, Nat.le_of_ble_eq_true rfl, Nat.zero_le _, Nat.zero_le _⟩ xT_b xT_w hK hP hD hS hA 0 10 rfl hl.1 rfl (Nat.le_of_ble_eq_true rfl) dX4_copyFrom_2 4 0 rfl rfl rfl (fun H locs hP hD hS => ?_)
  refine lv_aload_n hx hb dX4_copyFrom_5 rfl (lv_at hl 0 rfl) ?_
  refine lv_aload_n hx hb dX4_copyFrom_6 rfl (lv_at hl 1 rfl) ?_
  refine va_get (D := (dC, dI)) (ci := 4) (v := .int o_items) (C := RX4) (T := TX4) (N := 8) hx hb hT inlX4 hown hK hP 5 rfl rfl 4 (by decide) (hT _ wm_4_15) (fun _ h9 => h9) rfl dX4_copyFrom_7 ?_
  refine va_put (D := (dC, dI)) (ci := 4) (v := .int o_items) (ty := .int) (C := RX4) (T := TX4) (N := 8) hx hb hT inlX4 tyX4 tyX4_ok nmX4 hown hK hP hD hS 0 rfl rfl 4 (by decide) (hT _ wm_4_15) (fun _ h9 => h9) rfl (tyX4_ok 4 (by decide)) rfl rfl (Nat.le_of_ble_eq_true rfl) dX4_copyFrom_10 (fun H locs hP hD hS => ?_)
  have hP : va_P (dC, dI) vwCl ((vX4 cI cJ cZ h0 h1 h2 h3 h4 u_1.1 u_1.2.1 u_1.2.2.1 u_1.2.2.2.1 o_items u_1.2.2.2.2.1 u_1.2.2.2.2.2.1 u_1.2.2.2.2.2.2) ++ (vX4 cI cJ cZ h5 h6 h7 h8 h9 o_states o_results o_tries o_settledValues o_items o_outs o_waiting o_settled)) H := hP
  have hD : va_D A ((vX4 cI cJ cZ h0 h1 h2 h3 h4 u_1.1 u_1.2.1 u_1.2.2.1 u_1.2.2.2.1 o_items u_1.2.2.2.2.1 u_1.2.2.2.2.2.1 u_1.2.2.2.2.2.2) ++ (vX4 cI cJ cZ h5 h6 h7 h8 h9 o_states o_results o_tries o_settledValues o_items o_outs o_waiting o_settled)) := hD
  obtain rfl := Option.some.inj hd
  exact my_vret C0 hK hP hD hS dX4_copyFrom_13
set_option maxHeartbeats 4000000 in
set_option maxRecDepth 100000 in
theorem mX4_copyFrom_s (l : Launch) (dC : Nat → ClassId) (dI : Nat → Nat → Nat) (cI cJ cZ : ClassId) (h0 h1 h2 h3 h4 h5 h6 h7 h8 h9 : Nat) (v_states : Nat → Int32) (v_results : Nat → Int32) (v_tries : Nat → Int32) (v_settledValues : Nat → Int64) (v_items : Int32) (v_outs : Int32) (v_waiting : Int32) (v_settled : Int32) (o_states : Nat → Int32) (o_results : Nat → Int32) (o_tries : Nat → Int32) (o_settledValues : Nat → Int64) (o_items : Int32) (o_outs : Int32) (o_waiting : Int32) (o_settled : Int32)  {r : (Nat → Int32) × (Nat → Int32) × (Nat → Int32) × (Nat → Int64) × Int32 × Int32 × Int32 × Int32} (hd : fX4_copyFrom v_states v_results v_tries v_settledValues v_items v_outs v_waiting v_settled o_states o_results o_tries o_settledValues o_items o_outs o_waiting o_settled  = some r) (sz : Nat)  : Met l yX4_copyFrom (wS yX4_copyFrom cX4_copyFrom 2 none) { frames := 2, cells := 0, slots := 0, locals := 39 } (pC (dC, dI) (kT cI cJ cZ) xT ((vX4 cI cJ cZ h5 h6 h7 h8 h9 o_states o_results o_tries o_settledValues o_items o_outs o_waiting o_settled) ++ (vX4 cI cJ cZ h0 h1 h2 h3 h4 v_states v_results v_tries v_settledValues v_items v_outs v_waiting v_settled)) sz [.ref h0, .ref h5]) (qV (dC, dI) (kT cI cJ cZ) ((vX4 cI cJ cZ h5 h6 h7 h8 h9 o_states o_results o_tries o_settledValues o_items o_outs o_waiting o_settled) ++ (vX4 cI cJ cZ h0 h1 h2 h3 h4 r.1 r.2.1 r.2.2.1 r.2.2.2.1 r.2.2.2.2.1 r.2.2.2.2.2.1 r.2.2.2.2.2.2.1 r.2.2.2.2.2.2.2)) (va_A ((vX4 cI cJ cZ h5 h6 h7 h8 h9 o_states o_results o_tries o_settledValues o_items o_outs o_waiting o_settled) ++ (vX4 cI cJ cZ h0 h1 h2 h3 h4 v_states v_results v_tries v_settledValues v_items v_outs v_waiting v_settled)) sz)) 0 0 (va_A ((vX4 cI cJ cZ h5 h6 h7 h8 h9 o_states o_results o_tries o_settledValues o_items o_outs o_waiting o_settled) ++ (vX4 cI cJ cZ h0 h1 h2 h3 h4 v_states v_results v_tries v_settledValues v_items v_outs v_waiting v_settled)) sz) := by
  refine my_ent (fun A => qV (dC, dI) (kT cI cJ cZ) ((vX4 cI cJ cZ h5 h6 h7 h8 h9 o_states o_results o_tries o_settledValues o_items o_outs o_waiting o_settled) ++ (vX4 cI cJ cZ h0 h1 h2 h3 h4 r.1 r.2.1 r.2.2.1 r.2.2.2.1 r.2.2.2.2.1 r.2.2.2.2.2.1 r.2.2.2.2.2.2.1 r.2.2.2.2.2.2.2)) A) (by decide) (Nat.le_of_ble_eq_true rfl) ?_
  intro p e s m below meth c A hAe hnm C0 hK hX hP hD hA hS ls hl
  obtain ⟨hx, hb, hml, hown, hT, hr, hlocks⟩ := id C0
  unfold fX4_copyFrom at hd
  have hl : lv_has ls 2 [(0, .ref h0), (1, .ref h5)] := hl
  refine lv_aload_n hx hb dX4_copyFrom_0 rfl (lv_at hl 0 rfl) ?_
  refine lv_aload_n hx hb dX4_copyFrom_1 rfl (lv_at hl 1 rfl) ?_
  obtain ⟨u_1, hc_2, hd⟩ := bd hd
  refine cv_v (W' := (vX4 cI cJ cZ h5 h6 h7 h8 h9 o_states o_results o_tries o_settledValues o_items o_outs o_waiting o_settled) ++ (vX4 cI cJ cZ h0 h1 h2 h3 h4 v_states v_results v_tries v_settledValues v_items v_outs v_waiting v_settled)) (Wn := (vX4 cI cJ cZ h5 h6 h7 h8 h9 o_states o_results o_tries o_settledValues o_items o_outs o_waiting o_settled) ++ (vX4 cI cJ cZ h0 h1 h2 h3 h4 u_1.1 u_1.2.1 u_1.2.2.1 u_1.2.2.2.1 v_items u_1.2.2.2.2.1 u_1.2.2.2.2.2.1 u_1.2.2.2.2.2.2)) (rest := []) C0 (mX4_copyItems_s l dC dI cI cJ cZ h0 h1 h2 h3 h4 h5 h6 h7 h8 h9 v_states v_results v_tries v_settledValues v_items v_outs v_waiting v_settled o_states o_results o_tries o_settledValues o_items o_outs o_waiting o_settled  hc_2 _) gv_X4_42 yd_X4_copyItems ⟨rfl, rfl, Nat.le_of_ble_eq_true rfl, Nat.le_of_ble_eq_true rfl, Nat.zero_le _, Nat.zero_le _⟩ xT_b xT_w hK hP hD hS hA 0 10 rfl hl.1 rfl (Nat.le_of_ble_eq_true rfl) dX4_copyFrom_2 4 5 rfl rfl rfl (fun H locs hP hD hS => ?_)
  refine lv_aload_n hx hb dX4_copyFrom_5 rfl (lv_at hl 0 rfl) ?_
  refine lv_aload_n hx hb dX4_copyFrom_6 rfl (lv_at hl 1 rfl) ?_
  refine va_get (D := (dC, dI)) (ci := 4) (v := .int o_items) (C := RX4) (T := TX4) (N := 8) hx hb hT inlX4 hown hK hP 0 rfl rfl 4 (by decide) (hT _ wm_4_15) (fun _ h9 => h9) rfl dX4_copyFrom_7 ?_
  refine va_put (D := (dC, dI)) (ci := 4) (v := .int o_items) (ty := .int) (C := RX4) (T := TX4) (N := 8) hx hb hT inlX4 tyX4 tyX4_ok nmX4 hown hK hP hD hS 5 rfl rfl 4 (by decide) (hT _ wm_4_15) (fun _ h9 => h9) rfl (tyX4_ok 4 (by decide)) rfl rfl (Nat.le_of_ble_eq_true rfl) dX4_copyFrom_10 (fun H locs hP hD hS => ?_)
  have hP : va_P (dC, dI) vwCl ((vX4 cI cJ cZ h5 h6 h7 h8 h9 o_states o_results o_tries o_settledValues o_items o_outs o_waiting o_settled) ++ (vX4 cI cJ cZ h0 h1 h2 h3 h4 u_1.1 u_1.2.1 u_1.2.2.1 u_1.2.2.2.1 o_items u_1.2.2.2.2.1 u_1.2.2.2.2.2.1 u_1.2.2.2.2.2.2)) H := hP
  have hD : va_D A ((vX4 cI cJ cZ h5 h6 h7 h8 h9 o_states o_results o_tries o_settledValues o_items o_outs o_waiting o_settled) ++ (vX4 cI cJ cZ h0 h1 h2 h3 h4 u_1.1 u_1.2.1 u_1.2.2.1 u_1.2.2.2.1 o_items u_1.2.2.2.2.1 u_1.2.2.2.2.2.1 u_1.2.2.2.2.2.2)) := hD
  obtain rfl := Option.some.inj hd
  exact my_vret C0 hK hP hD hS dX4_copyFrom_13
def fX4_becomeGone (v_states : Nat → Int32) (v_results : Nat → Int32) (v_tries : Nat → Int32) (v_settledValues : Nat → Int64) (v_items : Int32) (v_outs : Int32) (v_waiting : Int32) (v_settled : Int32) (p1 : Int32) : Option ((Nat → Int32) × (Nat → Int32) × (Nat → Int32) × (Nat → Int64)) := (fX4_hasItem v_states v_results v_tries v_settledValues v_items v_outs v_waiting v_settled p1).bind (fun u_1 => if u_1 = 0 then (some (v_states, v_results, v_tries, v_settledValues)) else (ix p1 300 (ix p1 300 (ix p1 300 (ix p1 300 (some (upd v_states p1.toNatClampNeg (4 : Int32), upd v_results p1.toNatClampNeg (-1 : Int32), upd v_tries p1.toNatClampNeg (0 : Int32), vp_updL v_settledValues p1.toNatClampNeg (0 : Int64))))))))
set_option maxHeartbeats 4000000 in
set_option maxRecDepth 100000 in
theorem mX4_becomeGone (l : Launch) (dC : Nat → ClassId) (dI : Nat → Nat → Nat) (cI cJ cZ : ClassId) (h0 h1 h2 h3 h4 : Nat) (v_states : Nat → Int32) (v_results : Nat → Int32) (v_tries : Nat → Int32) (v_settledValues : Nat → Int64) (v_items : Int32) (v_outs : Int32) (v_waiting : Int32) (v_settled : Int32) (p1 : Int32) {r : (Nat → Int32) × (Nat → Int32) × (Nat → Int32) × (Nat → Int64)} (hd : fX4_becomeGone v_states v_results v_tries v_settledValues v_items v_outs v_waiting v_settled p1 = some r) (sz : Nat)  : Met l yX4_becomeGone (wS yX4_becomeGone cX4_becomeGone 2 none) { frames := 1, cells := 0, slots := 0, locals := 21 } (pC (dC, dI) (kT cI cJ cZ) xT (vX4 cI cJ cZ h0 h1 h2 h3 h4 v_states v_results v_tries v_settledValues v_items v_outs v_waiting v_settled) sz [.ref h0, .int p1]) (qV (dC, dI) (kT cI cJ cZ) (vX4 cI cJ cZ h0 h1 h2 h3 h4 r.1 r.2.1 r.2.2.1 r.2.2.2 v_items v_outs v_waiting v_settled) (va_A (vX4 cI cJ cZ h0 h1 h2 h3 h4 v_states v_results v_tries v_settledValues v_items v_outs v_waiting v_settled) sz)) 0 0 (va_A (vX4 cI cJ cZ h0 h1 h2 h3 h4 v_states v_results v_tries v_settledValues v_items v_outs v_waiting v_settled) sz) := by
  refine my_ent (fun A => qV (dC, dI) (kT cI cJ cZ) (vX4 cI cJ cZ h0 h1 h2 h3 h4 r.1 r.2.1 r.2.2.1 r.2.2.2 v_items v_outs v_waiting v_settled) A) (by decide) (Nat.le_of_ble_eq_true rfl) ?_
  intro p e s m below meth c A hAe hnm C0 hK hX hP hD hA hS ls hl
  obtain ⟨hx, hb, hml, hown, hT, hr, hlocks⟩ := id C0
  unfold fX4_becomeGone at hd
  have hl : lv_has ls 2 [(0, .ref h0), (1, .int p1)] := hl
  refine lv_aload_n hx hb dX4_becomeGone_0 rfl (lv_at hl 0 rfl) ?_
  refine lv_iload_n hx hb dX4_becomeGone_1 rfl (lv_at hl 1 rfl) ?_
  obtain ⟨u_1, hc_2, hd⟩ := bd hd
  refine cv_i (W' := vX4 cI cJ cZ h0 h1 h2 h3 h4 v_states v_results v_tries v_settledValues v_items v_outs v_waiting v_settled) (Wn := vX4 cI cJ cZ h0 h1 h2 h3 h4 v_states v_results v_tries v_settledValues v_items v_outs v_waiting v_settled) (rest := []) C0 (mX4_hasItem l dC dI cI cJ cZ h0 h1 h2 h3 h4 v_states v_results v_tries v_settledValues v_items v_outs v_waiting v_settled p1 hc_2 _) gv_X4_38 yd_X4_hasItem ⟨rfl, rfl, Nat.le_of_ble_eq_true rfl, Nat.le_of_ble_eq_true rfl, Nat.zero_le _, Nat.zero_le _⟩ xT_b xT_w hK hP hD hS hA 0 5 rfl hl.1 rfl (Nat.le_of_ble_eq_true rfl) dX4_becomeGone_2 4 0 rfl rfl rfl (fun H locs hP hD hS => ?_)
  refine lv_if_eq (tgt := 36) hx hb dX4_becomeGone_5 (by decide) (fun c_3 => ?_) (fun c_3 => ?_)
  · replace hd := i_t hd c_3
    obtain rfl := Option.some.inj hd
    exact my_vret C0 hK hP hD hS dX4_becomeGone_36
  · replace hd := i_e hd c_3
    refine lv_aload_n hx hb dX4_becomeGone_8 rfl (lv_at hl 0 rfl) ?_
    refine va_get (D := (dC, dI)) (ci := 4) (v := .ref h1) (C := RX4) (T := TX4) (N := 8) hx hb hT inlX4 hown hK hP 0 rfl rfl 0 (by decide) (hT _ wm_4_11) (fun _ h9 => h9) rfl dX4_becomeGone_9 ?_
    refine lv_iload_n hx hb dX4_becomeGone_12 rfl (lv_at hl 1 rfl) ?_
    refine lv_iconst (v := 4) hx hb dX4_becomeGone_13 (by decide) ?_
    obtain ⟨g_4, hd⟩ := ix_some hd
    refine va_iast hx hb hK hP hD hS 1 0 rfl rfl g_4 dX4_becomeGone_14 (fun H locs hP hD hS => ?_)
    have hP : va_P (dC, dI) vwCl (vX4 cI cJ cZ h0 h1 h2 h3 h4 (upd v_states p1.toNatClampNeg (4 : Int32)) v_results v_tries v_settledValues v_items v_outs v_waiting v_settled) H := hP
    have hD : va_D A (vX4 cI cJ cZ h0 h1 h2 h3 h4 (upd v_states p1.toNatClampNeg (4 : Int32)) v_results v_tries v_settledValues v_items v_outs v_waiting v_settled) := hD
    refine lv_aload_n hx hb dX4_becomeGone_15 rfl (lv_at hl 0 rfl) ?_
    refine va_get (D := (dC, dI)) (ci := 4) (v := .ref h2) (C := RX4) (T := TX4) (N := 8) hx hb hT inlX4 hown hK hP 0 rfl rfl 1 (by decide) (hT _ wm_4_12) (fun _ h9 => h9) rfl dX4_becomeGone_16 ?_
    refine lv_iload_n hx hb dX4_becomeGone_19 rfl (lv_at hl 1 rfl) ?_
    refine lv_iconst (v := (-1)) hx hb dX4_becomeGone_20 (by decide) ?_
    obtain ⟨g_5, hd⟩ := ix_some hd
    refine va_iast hx hb hK hP hD hS 2 0 rfl rfl g_5 dX4_becomeGone_21 (fun H locs hP hD hS => ?_)
    have hP : va_P (dC, dI) vwCl (vX4 cI cJ cZ h0 h1 h2 h3 h4 (upd v_states p1.toNatClampNeg (4 : Int32)) (upd v_results p1.toNatClampNeg (-1 : Int32)) v_tries v_settledValues v_items v_outs v_waiting v_settled) H := hP
    have hD : va_D A (vX4 cI cJ cZ h0 h1 h2 h3 h4 (upd v_states p1.toNatClampNeg (4 : Int32)) (upd v_results p1.toNatClampNeg (-1 : Int32)) v_tries v_settledValues v_items v_outs v_waiting v_settled) := hD
    refine lv_aload_n hx hb dX4_becomeGone_22 rfl (lv_at hl 0 rfl) ?_
    refine va_get (D := (dC, dI)) (ci := 4) (v := .ref h3) (C := RX4) (T := TX4) (N := 8) hx hb hT inlX4 hown hK hP 0 rfl rfl 2 (by decide) (hT _ wm_4_13) (fun _ h9 => h9) rfl dX4_becomeGone_23 ?_
    refine lv_iload_n hx hb dX4_becomeGone_26 rfl (lv_at hl 1 rfl) ?_
    refine lv_iconst (v := 0) hx hb dX4_becomeGone_27 (by decide) ?_
    obtain ⟨g_6, hd⟩ := ix_some hd
    refine va_iast hx hb hK hP hD hS 3 0 rfl rfl g_6 dX4_becomeGone_28 (fun H locs hP hD hS => ?_)
    have hP : va_P (dC, dI) vwCl (vX4 cI cJ cZ h0 h1 h2 h3 h4 (upd v_states p1.toNatClampNeg (4 : Int32)) (upd v_results p1.toNatClampNeg (-1 : Int32)) (upd v_tries p1.toNatClampNeg (0 : Int32)) v_settledValues v_items v_outs v_waiting v_settled) H := hP
    have hD : va_D A (vX4 cI cJ cZ h0 h1 h2 h3 h4 (upd v_states p1.toNatClampNeg (4 : Int32)) (upd v_results p1.toNatClampNeg (-1 : Int32)) (upd v_tries p1.toNatClampNeg (0 : Int32)) v_settledValues v_items v_outs v_waiting v_settled) := hD
    refine lv_aload_n hx hb dX4_becomeGone_29 rfl (lv_at hl 0 rfl) ?_
    refine va_get (D := (dC, dI)) (ci := 4) (v := .ref h4) (C := RX4) (T := TX4) (N := 8) hx hb hT inlX4 hown hK hP 0 rfl rfl 3 (by decide) (hT _ wm_4_14) (fun _ h9 => h9) rfl dX4_becomeGone_30 ?_
    refine lv_iload_n hx hb dX4_becomeGone_33 rfl (lv_at hl 1 rfl) ?_
    refine lv_lconst (v := 0) hx hb dX4_becomeGone_34 (by decide) ?_
    obtain ⟨g_7, hd⟩ := ix_some hd
    refine va_last hx hb hK hP hD hS 4 1 rfl rfl g_7 dX4_becomeGone_35 (fun H locs hP hD hS => ?_)
    have hP : va_P (dC, dI) vwCl (vX4 cI cJ cZ h0 h1 h2 h3 h4 (upd v_states p1.toNatClampNeg (4 : Int32)) (upd v_results p1.toNatClampNeg (-1 : Int32)) (upd v_tries p1.toNatClampNeg (0 : Int32)) (vp_updL v_settledValues p1.toNatClampNeg (0 : Int64)) v_items v_outs v_waiting v_settled) H := hP
    have hD : va_D A (vX4 cI cJ cZ h0 h1 h2 h3 h4 (upd v_states p1.toNatClampNeg (4 : Int32)) (upd v_results p1.toNatClampNeg (-1 : Int32)) (upd v_tries p1.toNatClampNeg (0 : Int32)) (vp_updL v_settledValues p1.toNatClampNeg (0 : Int64)) v_items v_outs v_waiting v_settled) := hD
    obtain rfl := Option.some.inj hd
    exact my_vret C0 hK hP hD hS dX4_becomeGone_36
def fX4_goBackTo_10 (n : Nat) (v_items : Int32) (o_states : Nat → Int32) (o_results : Nat → Int32) (o_tries : Nat → Int32) (o_settledValues : Nat → Int64) (o_items : Int32) (o_outs : Int32) (o_waiting : Int32) (o_settled : Int32) (k10 : ((Nat → Int32) × (Nat → Int32) × (Nat → Int32) × (Nat → Int64) × Int32 × Int32 × Int32 × Int32) → Option ((Nat → Int32) × (Nat → Int32) × (Nat → Int32) × (Nat → Int64) × Int32 × Int32 × Int32)) (a : (Nat → Int32) × (Nat → Int32) × (Nat → Int32) × (Nat → Int64) × Int32 × Int32 × Int32 × Int32) : Option ((Nat → Int32) × (Nat → Int32) × (Nat → Int32) × (Nat → Int64) × Int32 × Int32 × Int32) := if v_items ≤ a.2.2.2.2.2.2.2 then (some (a.1, a.2.1, a.2.2.1, a.2.2.2.1, a.2.2.2.2.1, a.2.2.2.2.2.1, a.2.2.2.2.2.2.1)) else ((fX4_becomeGone a.1 a.2.1 a.2.2.1 a.2.2.2.1 v_items a.2.2.2.2.1 a.2.2.2.2.2.1 a.2.2.2.2.2.2.1 a.2.2.2.2.2.2.2).bind (fun u_4 => k10 (u_4.1, u_4.2.1, u_4.2.2.1, u_4.2.2.2, a.2.2.2.2.1, a.2.2.2.2.2.1, a.2.2.2.2.2.2.1, a.2.2.2.2.2.2.2 + 1)))
set_option maxHeartbeats 4000000 in
set_option maxRecDepth 100000 in
theorem bX4_goBackTo_10 {p : Program} {l : Launch} {e : Env} {s : State} {m : MethodId} {args : Array Value} {below : List Frame} {meth : Method} {c : Code} {A : Nat → Prop} {dC : Nat → ClassId} {dI : Nat → Nat → Nat} {cI cJ cZ : ClassId} {h0 h1 h2 h3 h4 h5 h6 h7 h8 h9 : Nat} {r : (Nat → Int32) × (Nat → Int32) × (Nat → Int32) × (Nat → Int64) × Int32 × Int32 × Int32} {n : Nat} {v_items : Int32} {o_states : Nat → Int32} {o_results : Nat → Int32} {o_tries : Nat → Int32} {o_settledValues : Nat → Int64} {o_items : Int32} {o_outs : Int32} {o_waiting : Int32} {o_settled : Int32} (C0 : cx p s m args meth c cX4_goBackTo 3 RX4 none) (hK : va_K (dC, dI) vwCl (kT cI cJ cZ) s) (hX : xT s) (hA : ∀ q : Nat, s.heap.size ≤ q → A q) (k10 : ((Nat → Int32) × (Nat → Int32) × (Nat → Int32) × (Nat → Int64) × Int32 × Int32 × Int32 × Int32) → Option ((Nat → Int32) × (Nat → Int32) × (Nat → Int32) × (Nat → Int64) × Int32 × Int32 × Int32)) (ih10 : ∀ (a : (Nat → Int32) × (Nat → Int32) × (Nat → Int32) × (Nat → Int64) × Int32 × Int32 × Int32 × Int32), k10 a = some r → ∀ (H : Heap) (locs : List Loc) (ls : Array Slot), va_P (dC, dI) vwCl ((vX4 cI cJ cZ h0 h1 h2 h3 h4 a.1 a.2.1 a.2.2.1 a.2.2.2.1 v_items a.2.2.2.2.1 a.2.2.2.2.2.1 a.2.2.2.2.2.2.1) ++ (vX4 cI cJ cZ h5 h6 h7 h8 h9 o_states o_results o_tries o_settledValues o_items o_outs o_waiting o_settled)) H → va_D A ((vX4 cI cJ cZ h0 h1 h2 h3 h4 a.1 a.2.1 a.2.2.1 a.2.2.2.1 v_items a.2.2.2.2.1 a.2.2.2.2.2.1 a.2.2.2.2.2.2.1) ++ (vX4 cI cJ cZ h5 h6 h7 h8 h9 o_states o_results o_tries o_settledValues o_items o_outs o_waiting o_settled)) → va_S A s.heap H locs → lv_has ls 3 [(0, .ref h0), (2, .int a.2.2.2.2.2.2.2)] → W p l e ({ frames := 2, cells := 0, slots := 0, locals := 42 } : Room) s m args below meth c H locs 0 0 (MQ below (qV (dC, dI) (kT cI cJ cZ) ((vX4 cI cJ cZ h0 h1 h2 h3 h4 r.1 r.2.1 r.2.2.1 r.2.2.2.1 v_items r.2.2.2.2.1 r.2.2.2.2.2.1 r.2.2.2.2.2.2) ++ (vX4 cI cJ cZ h5 h6 h7 h8 h9 o_states o_results o_tries o_settledValues o_items o_outs o_waiting o_settled)) A) args s 0 0 A) (F0 m 10 ls [])) : ∀ (a : (Nat → Int32) × (Nat → Int32) × (Nat → Int32) × (Nat → Int64) × Int32 × Int32 × Int32 × Int32), fX4_goBackTo_10 n v_items o_states o_results o_tries o_settledValues o_items o_outs o_waiting o_settled k10 a = some r → ∀ (H : Heap) (locs : List Loc) (ls : Array Slot), va_P (dC, dI) vwCl ((vX4 cI cJ cZ h0 h1 h2 h3 h4 a.1 a.2.1 a.2.2.1 a.2.2.2.1 v_items a.2.2.2.2.1 a.2.2.2.2.2.1 a.2.2.2.2.2.2.1) ++ (vX4 cI cJ cZ h5 h6 h7 h8 h9 o_states o_results o_tries o_settledValues o_items o_outs o_waiting o_settled)) H → va_D A ((vX4 cI cJ cZ h0 h1 h2 h3 h4 a.1 a.2.1 a.2.2.1 a.2.2.2.1 v_items a.2.2.2.2.1 a.2.2.2.2.2.1 a.2.2.2.2.2.2.1) ++ (vX4 cI cJ cZ h5 h6 h7 h8 h9 o_states o_results o_tries o_settledValues o_items o_outs o_waiting o_settled)) → va_S A s.heap H locs → lv_has ls 3 [(0, .ref h0), (2, .int a.2.2.2.2.2.2.2)] → W p l e ({ frames := 2, cells := 0, slots := 0, locals := 42 } : Room) s m args below meth c H locs 0 0 (MQ below (qV (dC, dI) (kT cI cJ cZ) ((vX4 cI cJ cZ h0 h1 h2 h3 h4 r.1 r.2.1 r.2.2.1 r.2.2.2.1 v_items r.2.2.2.2.1 r.2.2.2.2.2.1 r.2.2.2.2.2.2) ++ (vX4 cI cJ cZ h5 h6 h7 h8 h9 o_states o_results o_tries o_settledValues o_items o_outs o_waiting o_settled)) A) args s 0 0 A) (F0 m 10 ls []) := by
  obtain ⟨hx, hb, hml, hown, hT, hr, hlocks⟩ := id C0
  intro a hd H locs ls hP hD hS hl
  unfold fX4_goBackTo_10 at hd
  refine lv_iload_n hx hb dX4_goBackTo_10 rfl (lv_at hl 1 rfl) ?_
  refine lv_aload_n hx hb dX4_goBackTo_11 rfl (lv_at hl 0 rfl) ?_
  refine va_get (D := (dC, dI)) (ci := 4) (v := .int v_items) (C := RX4) (T := TX4) (N := 8) hx hb hT inlX4 hown hK hP 0 rfl rfl 4 (by decide) (hT _ wm_4_15) (fun _ h9 => h9) rfl dX4_goBackTo_12 ?_
  refine lv_icmp_ge (tgt := 29) hx hb dX4_goBackTo_15 (by decide) (fun c_3 => ?_) (fun c_3 => ?_)
  · replace hd := i_t hd c_3
    obtain rfl := Option.some.inj hd
    exact my_vret C0 hK hP hD hS dX4_goBackTo_29
  · replace hd := i_e hd c_3
    refine lv_aload_n hx hb dX4_goBackTo_18 rfl (lv_at hl 0 rfl) ?_
    refine lv_iload_n hx hb dX4_goBackTo_19 rfl (lv_at hl 1 rfl) ?_
    obtain ⟨u_4, hc_5, hd⟩ := bd hd
    refine cv_v (W' := (vX4 cI cJ cZ h0 h1 h2 h3 h4 a.1 a.2.1 a.2.2.1 a.2.2.2.1 v_items a.2.2.2.2.1 a.2.2.2.2.2.1 a.2.2.2.2.2.2.1) ++ (vX4 cI cJ cZ h5 h6 h7 h8 h9 o_states o_results o_tries o_settledValues o_items o_outs o_waiting o_settled)) (Wn := (vX4 cI cJ cZ h0 h1 h2 h3 h4 u_4.1 u_4.2.1 u_4.2.2.1 u_4.2.2.2 v_items a.2.2.2.2.1 a.2.2.2.2.2.1 a.2.2.2.2.2.2.1) ++ (vX4 cI cJ cZ h5 h6 h7 h8 h9 o_states o_results o_tries o_settledValues o_items o_outs o_waiting o_settled)) (rest := []) C0 (mX4_becomeGone l dC dI cI cJ cZ h0 h1 h2 h3 h4 a.1 a.2.1 a.2.2.1 a.2.2.2.1 v_items a.2.2.2.2.1 a.2.2.2.2.2.1 a.2.2.2.2.2.2.1 a.2.2.2.2.2.2.2 hc_5 _) gv_X4_46 yd_X4_becomeGone ⟨rfl, rfl, Nat.le_of_ble_eq_true rfl, Nat.le_of_ble_eq_true rfl, Nat.zero_le _, Nat.zero_le _⟩ xT_b xT_w hK hP hD hS hA 0 5 rfl hl.1 rfl (Nat.le_of_ble_eq_true rfl) dX4_goBackTo_20 4 0 rfl rfl rfl (fun H locs hP hD hS => ?_)
    refine lv_iinc (v := a.2.2.2.2.2.2.2 + 1) (lv' := [(2, .int (a.2.2.2.2.2.2.2 + 1)), (0, .ref h0)]) hx hb dX4_goBackTo_23 hl (k := 1) rfl rfl (by decide) rfl (fun ls hl => ?_)
    refine lv_goto (tgt := 10) hx hb dX4_goBackTo_26 (by decide) ?_
    exact ih10 _ hd _ _ _ hP hD hS (lv_sub hl [1, 0] rfl)
set_option maxHeartbeats 4000000 in
set_option maxRecDepth 100000 in
theorem oX4_goBackTo_10 {p : Program} {l : Launch} {e : Env} {s : State} {m : MethodId} {args : Array Value} {below : List Frame} {meth : Method} {c : Code} {A : Nat → Prop} {dC : Nat → ClassId} {dI : Nat → Nat → Nat} {cI cJ cZ : ClassId} {h0 h1 h2 h3 h4 h5 h6 h7 h8 h9 : Nat} {r : (Nat → Int32) × (Nat → Int32) × (Nat → Int32) × (Nat → Int64) × Int32 × Int32 × Int32} {n : Nat} {v_items : Int32} {o_states : Nat → Int32} {o_results : Nat → Int32} {o_tries : Nat → Int32} {o_settledValues : Nat → Int64} {o_items : Int32} {o_outs : Int32} {o_waiting : Int32} {o_settled : Int32} (C0 : cx p s m args meth c cX4_goBackTo 3 RX4 none) (hK : va_K (dC, dI) vwCl (kT cI cJ cZ) s) (hX : xT s) (hA : ∀ q : Nat, s.heap.size ≤ q → A q)  : ∀ nn : Nat, ∀ (a : (Nat → Int32) × (Nat → Int32) × (Nat → Int32) × (Nat → Int64) × Int32 × Int32 × Int32 × Int32), loopF (fX4_goBackTo_10 n v_items o_states o_results o_tries o_settledValues o_items o_outs o_waiting o_settled ) nn a = some r → ∀ (H : Heap) (locs : List Loc) (ls : Array Slot), va_P (dC, dI) vwCl ((vX4 cI cJ cZ h0 h1 h2 h3 h4 a.1 a.2.1 a.2.2.1 a.2.2.2.1 v_items a.2.2.2.2.1 a.2.2.2.2.2.1 a.2.2.2.2.2.2.1) ++ (vX4 cI cJ cZ h5 h6 h7 h8 h9 o_states o_results o_tries o_settledValues o_items o_outs o_waiting o_settled)) H → va_D A ((vX4 cI cJ cZ h0 h1 h2 h3 h4 a.1 a.2.1 a.2.2.1 a.2.2.2.1 v_items a.2.2.2.2.1 a.2.2.2.2.2.1 a.2.2.2.2.2.2.1) ++ (vX4 cI cJ cZ h5 h6 h7 h8 h9 o_states o_results o_tries o_settledValues o_items o_outs o_waiting o_settled)) → va_S A s.heap H locs → lv_has ls 3 [(0, .ref h0), (2, .int a.2.2.2.2.2.2.2)] → W p l e ({ frames := 2, cells := 0, slots := 0, locals := 42 } : Room) s m args below meth c H locs 0 0 (MQ below (qV (dC, dI) (kT cI cJ cZ) ((vX4 cI cJ cZ h0 h1 h2 h3 h4 r.1 r.2.1 r.2.2.1 r.2.2.2.1 v_items r.2.2.2.2.1 r.2.2.2.2.2.1 r.2.2.2.2.2.2) ++ (vX4 cI cJ cZ h5 h6 h7 h8 h9 o_states o_results o_tries o_settledValues o_items o_outs o_waiting o_settled)) A) args s 0 0 A) (F0 m 10 ls []) := by
  intro nn
  induction nn with
  | zero => intro a hd; cases hd
  | succ nn ih => intro a hd; exact bX4_goBackTo_10 C0 hK hX hA  _ ih a hd
def fX4_goBackTo (n : Nat) (v_states : Nat → Int32) (v_results : Nat → Int32) (v_tries : Nat → Int32) (v_settledValues : Nat → Int64) (v_items : Int32) (v_outs : Int32) (v_waiting : Int32) (v_settled : Int32) (o_states : Nat → Int32) (o_results : Nat → Int32) (o_tries : Nat → Int32) (o_settledValues : Nat → Int64) (o_items : Int32) (o_outs : Int32) (o_waiting : Int32) (o_settled : Int32)  : Option ((Nat → Int32) × (Nat → Int32) × (Nat → Int32) × (Nat → Int64) × Int32 × Int32 × Int32) := (fX4_copyItems v_states v_results v_tries v_settledValues v_items v_outs v_waiting v_settled o_states o_results o_tries o_settledValues o_items o_outs o_waiting o_settled).bind (fun u_1 => loopF (fX4_goBackTo_10 n v_items o_states o_results o_tries o_settledValues o_items o_outs o_waiting o_settled ) n (u_1.1, u_1.2.1, u_1.2.2.1, u_1.2.2.2.1, u_1.2.2.2.2.1, u_1.2.2.2.2.2.1, u_1.2.2.2.2.2.2, o_items))
set_option maxHeartbeats 4000000 in
set_option maxRecDepth 100000 in
theorem mX4_goBackTo (l : Launch) (dC : Nat → ClassId) (dI : Nat → Nat → Nat) (cI cJ cZ : ClassId) (h0 h1 h2 h3 h4 h5 h6 h7 h8 h9 : Nat) (n : Nat) (v_states : Nat → Int32) (v_results : Nat → Int32) (v_tries : Nat → Int32) (v_settledValues : Nat → Int64) (v_items : Int32) (v_outs : Int32) (v_waiting : Int32) (v_settled : Int32) (o_states : Nat → Int32) (o_results : Nat → Int32) (o_tries : Nat → Int32) (o_settledValues : Nat → Int64) (o_items : Int32) (o_outs : Int32) (o_waiting : Int32) (o_settled : Int32)  {r : (Nat → Int32) × (Nat → Int32) × (Nat → Int32) × (Nat → Int64) × Int32 × Int32 × Int32} (hd : fX4_goBackTo n v_states v_results v_tries v_settledValues v_items v_outs v_waiting v_settled o_states o_results o_tries o_settledValues o_items o_outs o_waiting o_settled  = some r) (sz : Nat)  : Met l yX4_goBackTo (wS yX4_goBackTo cX4_goBackTo 3 none) { frames := 2, cells := 0, slots := 0, locals := 42 } (pC (dC, dI) (kT cI cJ cZ) xT ((vX4 cI cJ cZ h0 h1 h2 h3 h4 v_states v_results v_tries v_settledValues v_items v_outs v_waiting v_settled) ++ (vX4 cI cJ cZ h5 h6 h7 h8 h9 o_states o_results o_tries o_settledValues o_items o_outs o_waiting o_settled)) sz [.ref h0, .ref h5]) (qV (dC, dI) (kT cI cJ cZ) ((vX4 cI cJ cZ h0 h1 h2 h3 h4 r.1 r.2.1 r.2.2.1 r.2.2.2.1 v_items r.2.2.2.2.1 r.2.2.2.2.2.1 r.2.2.2.2.2.2) ++ (vX4 cI cJ cZ h5 h6 h7 h8 h9 o_states o_results o_tries o_settledValues o_items o_outs o_waiting o_settled)) (va_A ((vX4 cI cJ cZ h0 h1 h2 h3 h4 v_states v_results v_tries v_settledValues v_items v_outs v_waiting v_settled) ++ (vX4 cI cJ cZ h5 h6 h7 h8 h9 o_states o_results o_tries o_settledValues o_items o_outs o_waiting o_settled)) sz)) 0 0 (va_A ((vX4 cI cJ cZ h0 h1 h2 h3 h4 v_states v_results v_tries v_settledValues v_items v_outs v_waiting v_settled) ++ (vX4 cI cJ cZ h5 h6 h7 h8 h9 o_states o_results o_tries o_settledValues o_items o_outs o_waiting o_settled)) sz) := by
  refine my_ent (fun A => qV (dC, dI) (kT cI cJ cZ) ((vX4 cI cJ cZ h0 h1 h2 h3 h4 r.1 r.2.1 r.2.2.1 r.2.2.2.1 v_items r.2.2.2.2.1 r.2.2.2.2.2.1 r.2.2.2.2.2.2) ++ (vX4 cI cJ cZ h5 h6 h7 h8 h9 o_states o_results o_tries o_settledValues o_items o_outs o_waiting o_settled)) A) (by decide) (Nat.le_of_ble_eq_true rfl) ?_
  intro p e s m below meth c A hAe hnm C0 hK hX hP hD hA hS ls hl
  obtain ⟨hx, hb, hml, hown, hT, hr, hlocks⟩ := id C0
  unfold fX4_goBackTo at hd
  have hl : lv_has ls 3 [(0, .ref h0), (1, .ref h5)] := hl
  refine lv_aload_n hx hb dX4_goBackTo_0 rfl (lv_at hl 0 rfl) ?_
  refine lv_aload_n hx hb dX4_goBackTo_1 rfl (lv_at hl 1 rfl) ?_
  obtain ⟨u_1, hc_2, hd⟩ := bd hd
  refine cv_v (W' := (vX4 cI cJ cZ h0 h1 h2 h3 h4 v_states v_results v_tries v_settledValues v_items v_outs v_waiting v_settled) ++ (vX4 cI cJ cZ h5 h6 h7 h8 h9 o_states o_results o_tries o_settledValues o_items o_outs o_waiting o_settled)) (Wn := (vX4 cI cJ cZ h0 h1 h2 h3 h4 u_1.1 u_1.2.1 u_1.2.2.1 u_1.2.2.2.1 v_items u_1.2.2.2.2.1 u_1.2.2.2.2.2.1 u_1.2.2.2.2.2.2) ++ (vX4 cI cJ cZ h5 h6 h7 h8 h9 o_states o_results o_tries o_settledValues o_items o_outs o_waiting o_settled)) (rest := []) C0 (mX4_copyItems l dC dI cI cJ cZ h0 h1 h2 h3 h4 h5 h6 h7 h8 h9 v_states v_results v_tries v_settledValues v_items v_outs v_waiting v_settled o_states o_results o_tries o_settledValues o_items o_outs o_waiting o_settled  hc_2 _) gv_X4_42 yd_X4_copyItems ⟨rfl, rfl, Nat.le_of_ble_eq_true rfl, Nat.le_of_ble_eq_true rfl, Nat.zero_le _, Nat.zero_le _⟩ xT_b xT_w hK hP hD hS hA 0 10 rfl hl.1 rfl (Nat.le_of_ble_eq_true rfl) dX4_goBackTo_2 4 0 rfl rfl rfl (fun H locs hP hD hS => ?_)
  refine lv_aload_n hx hb dX4_goBackTo_5 rfl (lv_at hl 1 rfl) ?_
  refine va_get (D := (dC, dI)) (ci := 4) (v := .int o_items) (C := RX4) (T := TX4) (N := 8) hx hb hT inlX4 hown hK hP 5 rfl rfl 4 (by decide) (hT _ wm_4_15) (fun _ h9 => h9) rfl dX4_goBackTo_6 ?_
  refine lv_istore_n (lv' := [(2, .int o_items), (0, .ref h0), (1, .ref h5)]) hx hb dX4_goBackTo_9 rfl hl (by decide) rfl (fun ls hl => ?_)
  exact oX4_goBackTo_10 C0 hK hX hA  _ _ hd _ _ _ hP hD hS (lv_sub hl [1, 0] rfl)
def fX5_at (v_rows : Nat → Int32) (v_size : Int32) (p1 : Int32) : Option (Int32) := if p1 < 0 then (some (-1 : Int32)) else (if v_size ≤ p1 then (some (-1 : Int32)) else (ix p1 16 (some (v_rows p1.toNatClampNeg))))
set_option maxHeartbeats 4000000 in
set_option maxRecDepth 100000 in
theorem mX5_at (l : Launch) (dC : Nat → ClassId) (dI : Nat → Nat → Nat) (cI cJ cZ : ClassId) (h0 h1 : Nat) (v_rows : Nat → Int32) (v_size : Int32) (p1 : Int32) {r : Int32} (hd : fX5_at v_rows v_size p1 = some r) (sz : Nat)  : Met l yX5_at (wS yX5_at cX5_at 2 (some .int)) { frames := 0, cells := 0, slots := 0, locals := 0 } (pC (dC, dI) (kT cI cJ cZ) xT (vX5 cI cJ cZ h0 h1 v_rows v_size) sz [.ref h0, .int p1]) (qI (dC, dI) (kT cI cJ cZ) (vX5 cI cJ cZ h0 h1 v_rows v_size) (va_A (vX5 cI cJ cZ h0 h1 v_rows v_size) sz) r) 0 0 (va_A (vX5 cI cJ cZ h0 h1 v_rows v_size) sz) := by
  refine my_ent (fun A => qI (dC, dI) (kT cI cJ cZ) (vX5 cI cJ cZ h0 h1 v_rows v_size) A r) (by decide) (Nat.le_of_ble_eq_true rfl) ?_
  intro p e s m below meth c A hAe hnm C0 hK hX hP hD hA hS ls hl
  obtain ⟨hx, hb, hml, hown, hT, hr, hlocks⟩ := id C0
  unfold fX5_at at hd
  have hl : lv_has ls 2 [(0, .ref h0), (1, .int p1)] := hl
  refine lv_iload_n hx hb dX5_at_0 rfl (lv_at hl 1 rfl) ?_
  refine lv_if_lt (tgt := 21) hx hb dX5_at_1 (by decide) (fun c_1 => ?_) (fun c_1 => ?_)
  · replace hd := i_t hd c_1
    refine lv_iconst (v := (-1)) hx hb dX5_at_21 (by decide) ?_
    obtain rfl := Option.some.inj hd
    exact my_iret C0 hK hP hD hS dX5_at_22
  · replace hd := i_e hd c_1
    refine lv_iload_n hx hb dX5_at_4 rfl (lv_at hl 1 rfl) ?_
    refine lv_aload_n hx hb dX5_at_5 rfl (lv_at hl 0 rfl) ?_
    refine va_get (D := (dC, dI)) (ci := 5) (v := .int v_size) (C := RX5) (T := TX5) (N := 2) hx hb hT inlX5 hown hK hP 0 rfl rfl 1 (by decide) (hT _ wm_5_4) (fun _ h9 => h9) rfl dX5_at_6 ?_
    refine lv_icmp_ge (tgt := 21) hx hb dX5_at_9 (by decide) (fun c_2 => ?_) (fun c_2 => ?_)
    · replace hd := i_t hd c_2
      refine lv_iconst (v := (-1)) hx hb dX5_at_21 (by decide) ?_
      obtain rfl := Option.some.inj hd
      exact my_iret C0 hK hP hD hS dX5_at_22
    · replace hd := i_e hd c_2
      refine lv_aload_n hx hb dX5_at_12 rfl (lv_at hl 0 rfl) ?_
      refine va_get (D := (dC, dI)) (ci := 5) (v := .ref h1) (C := RX5) (T := TX5) (N := 2) hx hb hT inlX5 hown hK hP 0 rfl rfl 0 (by decide) (hT _ wm_5_3) (fun _ h9 => h9) rfl dX5_at_13 ?_
      refine lv_iload_n hx hb dX5_at_16 rfl (lv_at hl 1 rfl) ?_
      obtain ⟨g_3, hd⟩ := ix_some hd
      refine va_iald hx hb hK hP 1 0 rfl rfl g_3 dX5_at_17 ?_
      refine lv_goto (tgt := 22) hx hb dX5_at_18 (by decide) ?_
      obtain rfl := Option.some.inj hd
      exact my_iret C0 hK hP hD hS dX5_at_22
def fX5_find_2 (n : Nat) (v_rows : Nat → Int32) (v_size : Int32) (k2 : (Int32 × Int32) → Option (Int32)) (a : Int32 × Int32) : Option (Int32) := if v_size ≤ a.2 then (some (-1 : Int32)) else (ix a.2 16 (if (v_rows a.2.toNatClampNeg) = a.1 then (some a.2) else (k2 (a.1, a.2 + 1))))
set_option maxHeartbeats 4000000 in
set_option maxRecDepth 100000 in
theorem bX5_find_2 {p : Program} {l : Launch} {e : Env} {s : State} {m : MethodId} {args : Array Value} {below : List Frame} {meth : Method} {c : Code} {A : Nat → Prop} {dC : Nat → ClassId} {dI : Nat → Nat → Nat} {cI cJ cZ : ClassId} {h0 h1 : Nat} {r : Int32} {n : Nat} {v_rows : Nat → Int32} {v_size : Int32} (C0 : cx p s m args meth c cX5_find 3 RX5 (some .int)) (hK : va_K (dC, dI) vwCl (kT cI cJ cZ) s) (hX : xT s) (hA : ∀ q : Nat, s.heap.size ≤ q → A q) (k2 : (Int32 × Int32) → Option (Int32)) (ih2 : ∀ (a : Int32 × Int32), k2 a = some r → ∀ (H : Heap) (locs : List Loc) (ls : Array Slot), va_P (dC, dI) vwCl (vX5 cI cJ cZ h0 h1 v_rows v_size) H → va_D A (vX5 cI cJ cZ h0 h1 v_rows v_size) → va_S A s.heap H locs → lv_has ls 3 [(0, .ref h0), (1, .int a.1), (2, .int a.2)] → W p l e ({ frames := 0, cells := 0, slots := 0, locals := 0 } : Room) s m args below meth c H locs 0 0 (MQ below (qI (dC, dI) (kT cI cJ cZ) (vX5 cI cJ cZ h0 h1 v_rows v_size) A r) args s 0 0 A) (F0 m 2 ls [])) : ∀ (a : Int32 × Int32), fX5_find_2 n v_rows v_size k2 a = some r → ∀ (H : Heap) (locs : List Loc) (ls : Array Slot), va_P (dC, dI) vwCl (vX5 cI cJ cZ h0 h1 v_rows v_size) H → va_D A (vX5 cI cJ cZ h0 h1 v_rows v_size) → va_S A s.heap H locs → lv_has ls 3 [(0, .ref h0), (1, .int a.1), (2, .int a.2)] → W p l e ({ frames := 0, cells := 0, slots := 0, locals := 0 } : Room) s m args below meth c H locs 0 0 (MQ below (qI (dC, dI) (kT cI cJ cZ) (vX5 cI cJ cZ h0 h1 v_rows v_size) A r) args s 0 0 A) (F0 m 2 ls []) := by
  obtain ⟨hx, hb, hml, hown, hT, hr, hlocks⟩ := id C0
  intro a hd H locs ls hP hD hS hl
  unfold fX5_find_2 at hd
  refine lv_iload_n hx hb dX5_find_2 rfl (lv_at hl 2 rfl) ?_
  refine lv_aload_n hx hb dX5_find_3 rfl (lv_at hl 0 rfl) ?_
  refine va_get (D := (dC, dI)) (ci := 5) (v := .int v_size) (C := RX5) (T := TX5) (N := 2) hx hb hT inlX5 hown hK hP 0 rfl rfl 1 (by decide) (hT _ wm_5_4) (fun _ h9 => h9) rfl dX5_find_4 ?_
  refine lv_icmp_ge (tgt := 28) hx hb dX5_find_7 (by decide) (fun c_1 => ?_) (fun c_1 => ?_)
  · replace hd := i_t hd c_1
    refine lv_iconst (v := (-1)) hx hb dX5_find_28 (by decide) ?_
    obtain rfl := Option.some.inj hd
    exact my_iret C0 hK hP hD hS dX5_find_29
  · replace hd := i_e hd c_1
    refine lv_aload_n hx hb dX5_find_10 rfl (lv_at hl 0 rfl) ?_
    refine va_get (D := (dC, dI)) (ci := 5) (v := .ref h1) (C := RX5) (T := TX5) (N := 2) hx hb hT inlX5 hown hK hP 0 rfl rfl 0 (by decide) (hT _ wm_5_3) (fun _ h9 => h9) rfl dX5_find_11 ?_
    refine lv_iload_n hx hb dX5_find_14 rfl (lv_at hl 2 rfl) ?_
    obtain ⟨g_2, hd⟩ := ix_some hd
    refine va_iald hx hb hK hP 1 0 rfl rfl g_2 dX5_find_15 ?_
    refine lv_iload_n hx hb dX5_find_16 rfl (lv_at hl 1 rfl) ?_
    refine lv_icmp_ne (tgt := 22) hx hb dX5_find_17 (by decide) (fun c_3 => ?_) (fun c_3 => ?_)
    · replace hd := i_e hd c_3
      refine lv_iinc (v := a.2 + 1) (lv' := [(2, .int (a.2 + 1)), (0, .ref h0), (1, .int a.1)]) hx hb dX5_find_22 hl (k := 2) rfl rfl (by decide) rfl (fun ls hl => ?_)
      refine lv_goto (tgt := 2) hx hb dX5_find_25 (by decide) ?_
      exact ih2 _ hd _ _ _ hP hD hS (lv_sub hl [1, 2, 0] rfl)
    · replace hd := i_t hd c_3
      refine lv_iload_n hx hb dX5_find_20 rfl (lv_at hl 2 rfl) ?_
      obtain rfl := Option.some.inj hd
      exact my_iret C0 hK hP hD hS dX5_find_21
set_option maxHeartbeats 4000000 in
set_option maxRecDepth 100000 in
theorem oX5_find_2 {p : Program} {l : Launch} {e : Env} {s : State} {m : MethodId} {args : Array Value} {below : List Frame} {meth : Method} {c : Code} {A : Nat → Prop} {dC : Nat → ClassId} {dI : Nat → Nat → Nat} {cI cJ cZ : ClassId} {h0 h1 : Nat} {r : Int32} {n : Nat} {v_rows : Nat → Int32} {v_size : Int32} (C0 : cx p s m args meth c cX5_find 3 RX5 (some .int)) (hK : va_K (dC, dI) vwCl (kT cI cJ cZ) s) (hX : xT s) (hA : ∀ q : Nat, s.heap.size ≤ q → A q)  : ∀ nn : Nat, ∀ (a : Int32 × Int32), loopF (fX5_find_2 n v_rows v_size ) nn a = some r → ∀ (H : Heap) (locs : List Loc) (ls : Array Slot), va_P (dC, dI) vwCl (vX5 cI cJ cZ h0 h1 v_rows v_size) H → va_D A (vX5 cI cJ cZ h0 h1 v_rows v_size) → va_S A s.heap H locs → lv_has ls 3 [(0, .ref h0), (1, .int a.1), (2, .int a.2)] → W p l e ({ frames := 0, cells := 0, slots := 0, locals := 0 } : Room) s m args below meth c H locs 0 0 (MQ below (qI (dC, dI) (kT cI cJ cZ) (vX5 cI cJ cZ h0 h1 v_rows v_size) A r) args s 0 0 A) (F0 m 2 ls []) := by
  intro nn
  induction nn with
  | zero => intro a hd; cases hd
  | succ nn ih => intro a hd; exact bX5_find_2 C0 hK hX hA  _ ih a hd
def fX5_find (n : Nat) (v_rows : Nat → Int32) (v_size : Int32) (p1 : Int32) : Option (Int32) := loopF (fX5_find_2 n v_rows v_size ) n (p1, (0 : Int32))
set_option maxHeartbeats 4000000 in
set_option maxRecDepth 100000 in
theorem mX5_find (l : Launch) (dC : Nat → ClassId) (dI : Nat → Nat → Nat) (cI cJ cZ : ClassId) (h0 h1 : Nat) (n : Nat) (v_rows : Nat → Int32) (v_size : Int32) (p1 : Int32) {r : Int32} (hd : fX5_find n v_rows v_size p1 = some r) (sz : Nat)  : Met l yX5_find (wS yX5_find cX5_find 3 (some .int)) { frames := 0, cells := 0, slots := 0, locals := 0 } (pC (dC, dI) (kT cI cJ cZ) xT (vX5 cI cJ cZ h0 h1 v_rows v_size) sz [.ref h0, .int p1]) (qI (dC, dI) (kT cI cJ cZ) (vX5 cI cJ cZ h0 h1 v_rows v_size) (va_A (vX5 cI cJ cZ h0 h1 v_rows v_size) sz) r) 0 0 (va_A (vX5 cI cJ cZ h0 h1 v_rows v_size) sz) := by
  refine my_ent (fun A => qI (dC, dI) (kT cI cJ cZ) (vX5 cI cJ cZ h0 h1 v_rows v_size) A r) (by decide) (Nat.le_of_ble_eq_true rfl) ?_
  intro p e s m below meth c A hAe hnm C0 hK hX hP hD hA hS ls hl
  obtain ⟨hx, hb, hml, hown, hT, hr, hlocks⟩ := id C0
  unfold fX5_find at hd
  have hl : lv_has ls 3 [(0, .ref h0), (1, .int p1)] := hl
  refine lv_iconst (v := 0) hx hb dX5_find_0 (by decide) ?_
  refine lv_istore_n (lv' := [(2, .int (0 : Int32)), (0, .ref h0), (1, .int p1)]) hx hb dX5_find_1 rfl hl (by decide) rfl (fun ls hl => ?_)
  exact oX5_find_2 C0 hK hX hA  _ _ hd _ _ _ hP hD hS (lv_sub hl [1, 2, 0] rfl)
def fX5_append (v_rows : Nat → Int32) (v_size : Int32) (p1 : Int32) : Option ((Nat → Int32) × Int32) := if (16 : Int32) ≤ v_size then (some (v_rows, v_size)) else (ix v_size 16 (some (upd v_rows v_size.toNatClampNeg p1, v_size + (1 : Int32))))
set_option maxHeartbeats 4000000 in
set_option maxRecDepth 100000 in
theorem mX5_append (l : Launch) (dC : Nat → ClassId) (dI : Nat → Nat → Nat) (cI cJ cZ : ClassId) (h0 h1 : Nat) (v_rows : Nat → Int32) (v_size : Int32) (p1 : Int32) {r : (Nat → Int32) × Int32} (hd : fX5_append v_rows v_size p1 = some r) (sz : Nat)  : Met l yX5_append (wS yX5_append cX5_append 2 none) { frames := 0, cells := 0, slots := 0, locals := 0 } (pC (dC, dI) (kT cI cJ cZ) xT (vX5 cI cJ cZ h0 h1 v_rows v_size) sz [.ref h0, .int p1]) (qV (dC, dI) (kT cI cJ cZ) (vX5 cI cJ cZ h0 h1 r.1 r.2) (va_A (vX5 cI cJ cZ h0 h1 v_rows v_size) sz)) 0 0 (va_A (vX5 cI cJ cZ h0 h1 v_rows v_size) sz) := by
  refine my_ent (fun A => qV (dC, dI) (kT cI cJ cZ) (vX5 cI cJ cZ h0 h1 r.1 r.2) A) (by decide) (Nat.le_of_ble_eq_true rfl) ?_
  intro p e s m below meth c A hAe hnm C0 hK hX hP hD hA hS ls hl
  obtain ⟨hx, hb, hml, hown, hT, hr, hlocks⟩ := id C0
  unfold fX5_append at hd
  have hl : lv_has ls 2 [(0, .ref h0), (1, .int p1)] := hl
  refine lv_aload_n hx hb dX5_append_0 rfl (lv_at hl 0 rfl) ?_
  refine va_get (D := (dC, dI)) (ci := 5) (v := .int v_size) (C := RX5) (T := TX5) (N := 2) hx hb hT inlX5 hown hK hP 0 rfl rfl 1 (by decide) (hT _ wm_5_4) (fun _ h9 => h9) rfl dX5_append_1 ?_
  refine lv_bipush (v := 16) hx hb dX5_append_4 (by decide) ?_
  refine lv_icmp_ge (tgt := 29) hx hb dX5_append_6 (by decide) (fun c_1 => ?_) (fun c_1 => ?_)
  · replace hd := i_t hd c_1
    obtain rfl := Option.some.inj hd
    exact my_vret C0 hK hP hD hS dX5_append_29
  · replace hd := i_e hd c_1
    refine lv_aload_n hx hb dX5_append_9 rfl (lv_at hl 0 rfl) ?_
    refine va_get (D := (dC, dI)) (ci := 5) (v := .ref h1) (C := RX5) (T := TX5) (N := 2) hx hb hT inlX5 hown hK hP 0 rfl rfl 0 (by decide) (hT _ wm_5_3) (fun _ h9 => h9) rfl dX5_append_10 ?_
    refine lv_aload_n hx hb dX5_append_13 rfl (lv_at hl 0 rfl) ?_
    refine va_get (D := (dC, dI)) (ci := 5) (v := .int v_size) (C := RX5) (T := TX5) (N := 2) hx hb hT inlX5 hown hK hP 0 rfl rfl 1 (by decide) (hT _ wm_5_4) (fun _ h9 => h9) rfl dX5_append_14 ?_
    refine lv_iload_n hx hb dX5_append_17 rfl (lv_at hl 1 rfl) ?_
    obtain ⟨g_2, hd⟩ := ix_some hd
    refine va_iast hx hb hK hP hD hS 1 0 rfl rfl g_2 dX5_append_18 (fun H locs hP hD hS => ?_)
    have hP : va_P (dC, dI) vwCl (vX5 cI cJ cZ h0 h1 (upd v_rows v_size.toNatClampNeg p1) v_size) H := hP
    have hD : va_D A (vX5 cI cJ cZ h0 h1 (upd v_rows v_size.toNatClampNeg p1) v_size) := hD
    refine lv_aload_n hx hb dX5_append_19 rfl (lv_at hl 0 rfl) ?_
    refine lv_dup hx hb dX5_append_20 rfl ?_
    refine va_get (D := (dC, dI)) (ci := 5) (v := .int v_size) (C := RX5) (T := TX5) (N := 2) hx hb hT inlX5 hown hK hP 0 rfl rfl 1 (by decide) (hT _ wm_5_4) (fun _ h9 => h9) rfl dX5_append_21 ?_
    refine lv_iconst (v := 1) hx hb dX5_append_24 (by decide) ?_
    refine lv_iadd hx hb dX5_append_25 ?_
    refine va_put (D := (dC, dI)) (ci := 5) (v := .int (v_size + (1 : Int32))) (ty := .int) (C := RX5) (T := TX5) (N := 2) hx hb hT inlX5 tyX5 tyX5_ok nmX5 hown hK hP hD hS 0 rfl rfl 1 (by decide) (hT _ wm_5_4) (fun _ h9 => h9) rfl (tyX5_ok 1 (by decide)) rfl rfl (Nat.le_of_ble_eq_true rfl) dX5_append_26 (fun H locs hP hD hS => ?_)
    have hP : va_P (dC, dI) vwCl (vX5 cI cJ cZ h0 h1 (upd v_rows v_size.toNatClampNeg p1) (v_size + (1 : Int32))) H := hP
    have hD : va_D A (vX5 cI cJ cZ h0 h1 (upd v_rows v_size.toNatClampNeg p1) (v_size + (1 : Int32))) := hD
    obtain rfl := Option.some.inj hd
    exact my_vret C0 hK hP hD hS dX5_append_29
def fX5_removeAt (v_rows : Nat → Int32) (v_size : Int32) (p1 : Int32) : Option ((Nat → Int32) × Int32) := if p1 < 0 then (some (v_rows, v_size)) else (if p1 < v_size then (cpg (p1 + (1 : Int32)) p1 ((v_size - p1) - (1 : Int32)) 16 16 (some (va_cpy v_rows v_rows (p1 + (1 : Int32)).toNatClampNeg p1.toNatClampNeg ((v_size - p1) - (1 : Int32)).toNatClampNeg, v_size - (1 : Int32)))) else (some (v_rows, v_size)))
set_option maxHeartbeats 4000000 in
set_option maxRecDepth 100000 in
theorem mX5_removeAt (l : Launch) (dC : Nat → ClassId) (dI : Nat → Nat → Nat) (cI cJ cZ : ClassId) (h0 h1 : Nat) (v_rows : Nat → Int32) (v_size : Int32) (p1 : Int32) {r : (Nat → Int32) × Int32} (hd : fX5_removeAt v_rows v_size p1 = some r) (sz : Nat)  : Met l yX5_removeAt (wS yX5_removeAt cX5_removeAt 3 none) { frames := 1, cells := 0, slots := 0, locals := 18 } (pC (dC, dI) (kT cI cJ cZ) xT (vX5 cI cJ cZ h0 h1 v_rows v_size) sz [.ref h0, .int p1]) (qV (dC, dI) (kT cI cJ cZ) (vX5 cI cJ cZ h0 h1 r.1 r.2) (va_A (vX5 cI cJ cZ h0 h1 v_rows v_size) sz)) 0 0 (va_A (vX5 cI cJ cZ h0 h1 v_rows v_size) sz) := by
  refine my_ent (fun A => qV (dC, dI) (kT cI cJ cZ) (vX5 cI cJ cZ h0 h1 r.1 r.2) A) (by decide) (Nat.le_of_ble_eq_true rfl) ?_
  intro p e s m below meth c A hAe hnm C0 hK hX hP hD hA hS ls hl
  obtain ⟨hx, hb, hml, hown, hT, hr, hlocks⟩ := id C0
  unfold fX5_removeAt at hd
  have hl : lv_has ls 3 [(0, .ref h0), (1, .int p1)] := hl
  refine lv_iload_n hx hb dX5_removeAt_0 rfl (lv_at hl 1 rfl) ?_
  refine lv_if_lt (tgt := 12) hx hb dX5_removeAt_1 (by decide) (fun c_1 => ?_) (fun c_1 => ?_)
  · replace hd := i_t hd c_1
    obtain rfl := Option.some.inj hd
    exact my_vret C0 hK hP hD hS dX5_removeAt_12
  · replace hd := i_e hd c_1
    refine lv_iload_n hx hb dX5_removeAt_4 rfl (lv_at hl 1 rfl) ?_
    refine lv_aload_n hx hb dX5_removeAt_5 rfl (lv_at hl 0 rfl) ?_
    refine va_get (D := (dC, dI)) (ci := 5) (v := .int v_size) (C := RX5) (T := TX5) (N := 2) hx hb hT inlX5 hown hK hP 0 rfl rfl 1 (by decide) (hT _ wm_5_4) (fun _ h9 => h9) rfl dX5_removeAt_6 ?_
    refine lv_icmp_lt (tgt := 13) hx hb dX5_removeAt_9 (by decide) (fun c_2 => ?_) (fun c_2 => ?_)
    · replace hd := i_t hd c_2
      refine lv_aload_n hx hb dX5_removeAt_13 rfl (lv_at hl 0 rfl) ?_
      refine va_get (D := (dC, dI)) (ci := 5) (v := .int v_size) (C := RX5) (T := TX5) (N := 2) hx hb hT inlX5 hown hK hP 0 rfl rfl 1 (by decide) (hT _ wm_5_4) (fun _ h9 => h9) rfl dX5_removeAt_14 ?_
      refine lv_iload_n hx hb dX5_removeAt_17 rfl (lv_at hl 1 rfl) ?_
      refine lv_isub hx hb dX5_removeAt_18 ?_
      refine lv_iconst (v := 1) hx hb dX5_removeAt_19 (by decide) ?_
      refine lv_isub hx hb dX5_removeAt_20 ?_
      refine lv_istore_n (lv' := [(2, .int ((v_size - p1) - (1 : Int32))), (0, .ref h0), (1, .int p1)]) hx hb dX5_removeAt_21 rfl hl (by decide) rfl (fun ls hl => ?_)
      refine lv_aload_n hx hb dX5_removeAt_22 rfl (lv_at hl 1 rfl) ?_
      refine va_get (D := (dC, dI)) (ci := 5) (v := .ref h1) (C := RX5) (T := TX5) (N := 2) hx hb hT inlX5 hown hK hP 0 rfl rfl 0 (by decide) (hT _ wm_5_3) (fun _ h9 => h9) rfl dX5_removeAt_23 ?_
      refine lv_iload_n hx hb dX5_removeAt_26 rfl (lv_at hl 2 rfl) ?_
      refine lv_iconst (v := 1) hx hb dX5_removeAt_27 (by decide) ?_
      refine lv_iadd hx hb dX5_removeAt_28 ?_
      refine lv_aload_n hx hb dX5_removeAt_29 rfl (lv_at hl 1 rfl) ?_
      refine va_get (D := (dC, dI)) (ci := 5) (v := .ref h1) (C := RX5) (T := TX5) (N := 2) hx hb hT inlX5 hown hK hP 0 rfl rfl 0 (by decide) (hT _ wm_5_3) (fun _ h9 => h9) rfl dX5_removeAt_30 ?_
      refine lv_iload_n hx hb dX5_removeAt_33 rfl (lv_at hl 2 rfl) ?_
      refine lv_iload_n hx hb dX5_removeAt_34 rfl (lv_at hl 0 rfl) ?_
      obtain ⟨g_3, hd⟩ := cpg_some hd
      refine va_copyi hx hb (hml.trans hl.1.symm) hown (hT _ wm_10_7) (hT _ wm_10_8) (hT _ wm_10_9) (hT _ wm_10_10) hK hP hD hS 1 1 0 0 rfl rfl rfl rfl rfl g_3.1 g_3.2.1 g_3.2.2.1 g_3.2.2.2.1 g_3.2.2.2.2 (fun _ _ => rfl) (Nat.le_of_ble_eq_true rfl) (Nat.le_of_ble_eq_true rfl) dX5_removeAt_35 (fun H locs hP hD hS => ?_)
      have hP : va_P (dC, dI) vwCl (vX5 cI cJ cZ h0 h1 (va_cpy v_rows v_rows (p1 + (1 : Int32)).toNatClampNeg p1.toNatClampNeg ((v_size - p1) - (1 : Int32)).toNatClampNeg) v_size) H := hP
      have hD : va_D A (vX5 cI cJ cZ h0 h1 (va_cpy v_rows v_rows (p1 + (1 : Int32)).toNatClampNeg p1.toNatClampNeg ((v_size - p1) - (1 : Int32)).toNatClampNeg) v_size) := hD
      refine lv_aload_n hx hb dX5_removeAt_38 rfl (lv_at hl 1 rfl) ?_
      refine lv_dup hx hb dX5_removeAt_39 rfl ?_
      refine va_get (D := (dC, dI)) (ci := 5) (v := .int v_size) (C := RX5) (T := TX5) (N := 2) hx hb hT inlX5 hown hK hP 0 rfl rfl 1 (by decide) (hT _ wm_5_4) (fun _ h9 => h9) rfl dX5_removeAt_40 ?_
      refine lv_iconst (v := 1) hx hb dX5_removeAt_43 (by decide) ?_
      refine lv_isub hx hb dX5_removeAt_44 ?_
      refine va_put (D := (dC, dI)) (ci := 5) (v := .int (v_size - (1 : Int32))) (ty := .int) (C := RX5) (T := TX5) (N := 2) hx hb hT inlX5 tyX5 tyX5_ok nmX5 hown hK hP hD hS 0 rfl rfl 1 (by decide) (hT _ wm_5_4) (fun _ h9 => h9) rfl (tyX5_ok 1 (by decide)) rfl rfl (Nat.le_of_ble_eq_true rfl) dX5_removeAt_45 (fun H locs hP hD hS => ?_)
      have hP : va_P (dC, dI) vwCl (vX5 cI cJ cZ h0 h1 (va_cpy v_rows v_rows (p1 + (1 : Int32)).toNatClampNeg p1.toNatClampNeg ((v_size - p1) - (1 : Int32)).toNatClampNeg) (v_size - (1 : Int32))) H := hP
      have hD : va_D A (vX5 cI cJ cZ h0 h1 (va_cpy v_rows v_rows (p1 + (1 : Int32)).toNatClampNeg p1.toNatClampNeg ((v_size - p1) - (1 : Int32)).toNatClampNeg) (v_size - (1 : Int32))) := hD
      obtain rfl := Option.some.inj hd
      exact my_vret C0 hK hP hD hS dX5_removeAt_48
    · replace hd := i_e hd c_2
      obtain rfl := Option.some.inj hd
      exact my_vret C0 hK hP hD hS dX5_removeAt_12
def fX5_clear (v_rows : Nat → Int32) (v_size : Int32)  : Option (Int32) := some (0 : Int32)
set_option maxHeartbeats 4000000 in
set_option maxRecDepth 100000 in
theorem mX5_clear (l : Launch) (dC : Nat → ClassId) (dI : Nat → Nat → Nat) (cI cJ cZ : ClassId) (h0 h1 : Nat) (v_rows : Nat → Int32) (v_size : Int32)  {r : Int32} (hd : fX5_clear v_rows v_size  = some r) (sz : Nat)  : Met l yX5_clear (wS yX5_clear cX5_clear 1 none) { frames := 0, cells := 0, slots := 0, locals := 0 } (pC (dC, dI) (kT cI cJ cZ) xT (vX5 cI cJ cZ h0 h1 v_rows v_size) sz [.ref h0]) (qV (dC, dI) (kT cI cJ cZ) (vX5 cI cJ cZ h0 h1 v_rows r) (va_A (vX5 cI cJ cZ h0 h1 v_rows v_size) sz)) 0 0 (va_A (vX5 cI cJ cZ h0 h1 v_rows v_size) sz) := by
  refine my_ent (fun A => qV (dC, dI) (kT cI cJ cZ) (vX5 cI cJ cZ h0 h1 v_rows r) A) (by decide) (Nat.le_of_ble_eq_true rfl) ?_
  intro p e s m below meth c A hAe hnm C0 hK hX hP hD hA hS ls hl
  obtain ⟨hx, hb, hml, hown, hT, hr, hlocks⟩ := id C0
  unfold fX5_clear at hd
  have hl : lv_has ls 1 [(0, .ref h0)] := hl
  refine lv_aload_n hx hb dX5_clear_0 rfl (lv_at hl 0 rfl) ?_
  refine lv_iconst (v := 0) hx hb dX5_clear_1 (by decide) ?_
  refine va_put (D := (dC, dI)) (ci := 5) (v := .int (0 : Int32)) (ty := .int) (C := RX5) (T := TX5) (N := 2) hx hb hT inlX5 tyX5 tyX5_ok nmX5 hown hK hP hD hS 0 rfl rfl 1 (by decide) (hT _ wm_5_4) (fun _ h9 => h9) rfl (tyX5_ok 1 (by decide)) rfl rfl (Nat.le_of_ble_eq_true rfl) dX5_clear_2 (fun H locs hP hD hS => ?_)
  have hP : va_P (dC, dI) vwCl (vX5 cI cJ cZ h0 h1 v_rows (0 : Int32)) H := hP
  have hD : va_D A (vX5 cI cJ cZ h0 h1 v_rows (0 : Int32)) := hD
  obtain rfl := Option.some.inj hd
  exact my_vret C0 hK hP hD hS dX5_clear_5
def fX6_countOf_35 (n : Nat) (v_keys : Nat → Int64) (v_acts : Nat → Int32) (v_latestAnswers : Nat → Int64) (k5 : (Int64 × Int32 × Int32) → Option (Int32)) (a : Int64 × Int32 × Int32) : Option (Int32) := k5 (a.1, a.2.1, a.2.2 + 1)
set_option maxHeartbeats 4000000 in
set_option maxRecDepth 100000 in
theorem bX6_countOf_35 {p : Program} {l : Launch} {e : Env} {s : State} {m : MethodId} {args : Array Value} {below : List Frame} {meth : Method} {c : Code} {A : Nat → Prop} {dC : Nat → ClassId} {dI : Nat → Nat → Nat} {cI cJ cZ : ClassId} {h0 h1 h2 h3 : Nat} {r : Int32} {n : Nat} {v_keys : Nat → Int64} {v_acts : Nat → Int32} {v_latestAnswers : Nat → Int64} (C0 : cx p s m args meth c cX6_countOf 5 RX6 (some .int)) (hK : va_K (dC, dI) vwCl (kT cI cJ cZ) s) (hX : xT s) (hA : ∀ q : Nat, s.heap.size ≤ q → A q) (k5 : (Int64 × Int32 × Int32) → Option (Int32)) (ih5 : ∀ (a : Int64 × Int32 × Int32), k5 a = some r → ∀ (H : Heap) (locs : List Loc) (ls : Array Slot), va_P (dC, dI) vwCl (vX6 cI cJ cZ h0 h1 h2 h3 v_keys v_acts v_latestAnswers) H → va_D A (vX6 cI cJ cZ h0 h1 h2 h3 v_keys v_acts v_latestAnswers) → va_S A s.heap H locs → lv_has ls 5 [(0, .ref h0), (1, .long a.1), (3, .int a.2.1), (4, .int a.2.2)] → W p l e ({ frames := 0, cells := 0, slots := 0, locals := 0 } : Room) s m args below meth c H locs 0 0 (MQ below (qI (dC, dI) (kT cI cJ cZ) (vX6 cI cJ cZ h0 h1 h2 h3 v_keys v_acts v_latestAnswers) A r) args s 0 0 A) (F0 m 5 ls [])) : ∀ (a : Int64 × Int32 × Int32), fX6_countOf_35 n v_keys v_acts v_latestAnswers k5 a = some r → ∀ (H : Heap) (locs : List Loc) (ls : Array Slot), va_P (dC, dI) vwCl (vX6 cI cJ cZ h0 h1 h2 h3 v_keys v_acts v_latestAnswers) H → va_D A (vX6 cI cJ cZ h0 h1 h2 h3 v_keys v_acts v_latestAnswers) → va_S A s.heap H locs → lv_has ls 5 [(0, .ref h0), (1, .long a.1), (3, .int a.2.1), (4, .int a.2.2)] → W p l e ({ frames := 0, cells := 0, slots := 0, locals := 0 } : Room) s m args below meth c H locs 0 0 (MQ below (qI (dC, dI) (kT cI cJ cZ) (vX6 cI cJ cZ h0 h1 h2 h3 v_keys v_acts v_latestAnswers) A r) args s 0 0 A) (F0 m 35 ls []) := by
  obtain ⟨hx, hb, hml, hown, hT, hr, hlocks⟩ := id C0
  intro a hd H locs ls hP hD hS hl
  unfold fX6_countOf_35 at hd
  refine lv_iinc (v := a.2.2 + 1) (lv' := [(4, .int (a.2.2 + 1)), (0, .ref h0), (1, .long a.1), (3, .int a.2.1)]) hx hb dX6_countOf_35 hl (k := 3) rfl rfl (by decide) rfl (fun ls hl => ?_)
  refine lv_goto (tgt := 5) hx hb dX6_countOf_38 (by decide) ?_
  exact ih5 _ hd _ _ _ hP hD hS (lv_sub hl [1, 2, 3, 0] rfl)
def fX6_countOf_5 (n : Nat) (v_keys : Nat → Int64) (v_acts : Nat → Int32) (v_latestAnswers : Nat → Int64) (k5 : (Int64 × Int32 × Int32) → Option (Int32)) (a : Int64 × Int32 × Int32) : Option (Int32) := if (300 : Int32) ≤ a.2.2 then (some a.2.1) else (ix a.2.2 300 (if (v_keys a.2.2.toNatClampNeg) = a.1 then (ix a.2.2 300 (fX6_countOf_35 n v_keys v_acts v_latestAnswers k5 (a.1, a.2.1 + (v_acts a.2.2.toNatClampNeg), a.2.2))) else (fX6_countOf_35 n v_keys v_acts v_latestAnswers k5 (a.1, a.2.1, a.2.2))))
set_option maxHeartbeats 4000000 in
set_option maxRecDepth 100000 in
theorem bX6_countOf_5 {p : Program} {l : Launch} {e : Env} {s : State} {m : MethodId} {args : Array Value} {below : List Frame} {meth : Method} {c : Code} {A : Nat → Prop} {dC : Nat → ClassId} {dI : Nat → Nat → Nat} {cI cJ cZ : ClassId} {h0 h1 h2 h3 : Nat} {r : Int32} {n : Nat} {v_keys : Nat → Int64} {v_acts : Nat → Int32} {v_latestAnswers : Nat → Int64} (C0 : cx p s m args meth c cX6_countOf 5 RX6 (some .int)) (hK : va_K (dC, dI) vwCl (kT cI cJ cZ) s) (hX : xT s) (hA : ∀ q : Nat, s.heap.size ≤ q → A q) (k5 : (Int64 × Int32 × Int32) → Option (Int32)) (ih5 : ∀ (a : Int64 × Int32 × Int32), k5 a = some r → ∀ (H : Heap) (locs : List Loc) (ls : Array Slot), va_P (dC, dI) vwCl (vX6 cI cJ cZ h0 h1 h2 h3 v_keys v_acts v_latestAnswers) H → va_D A (vX6 cI cJ cZ h0 h1 h2 h3 v_keys v_acts v_latestAnswers) → va_S A s.heap H locs → lv_has ls 5 [(0, .ref h0), (1, .long a.1), (3, .int a.2.1), (4, .int a.2.2)] → W p l e ({ frames := 0, cells := 0, slots := 0, locals := 0 } : Room) s m args below meth c H locs 0 0 (MQ below (qI (dC, dI) (kT cI cJ cZ) (vX6 cI cJ cZ h0 h1 h2 h3 v_keys v_acts v_latestAnswers) A r) args s 0 0 A) (F0 m 5 ls [])) : ∀ (a : Int64 × Int32 × Int32), fX6_countOf_5 n v_keys v_acts v_latestAnswers k5 a = some r → ∀ (H : Heap) (locs : List Loc) (ls : Array Slot), va_P (dC, dI) vwCl (vX6 cI cJ cZ h0 h1 h2 h3 v_keys v_acts v_latestAnswers) H → va_D A (vX6 cI cJ cZ h0 h1 h2 h3 v_keys v_acts v_latestAnswers) → va_S A s.heap H locs → lv_has ls 5 [(0, .ref h0), (1, .long a.1), (3, .int a.2.1), (4, .int a.2.2)] → W p l e ({ frames := 0, cells := 0, slots := 0, locals := 0 } : Room) s m args below meth c H locs 0 0 (MQ below (qI (dC, dI) (kT cI cJ cZ) (vX6 cI cJ cZ h0 h1 h2 h3 v_keys v_acts v_latestAnswers) A r) args s 0 0 A) (F0 m 5 ls []) := by
  obtain ⟨hx, hb, hml, hown, hT, hr, hlocks⟩ := id C0
  intro a hd H locs ls hP hD hS hl
  unfold fX6_countOf_5 at hd
  refine lv_iload hx hb dX6_countOf_5 (lv_at hl 3 rfl) ?_
  refine lv_sipush (v := 300) hx hb dX6_countOf_7 (by decide) ?_
  refine lv_icmp_ge (tgt := 41) hx hb dX6_countOf_10 (by decide) (fun c_1 => ?_) (fun c_1 => ?_)
  · replace hd := i_t hd c_1
    refine lv_iload_n hx hb dX6_countOf_41 rfl (lv_at hl 2 rfl) ?_
    obtain rfl := Option.some.inj hd
    exact my_iret C0 hK hP hD hS dX6_countOf_42
  · replace hd := i_e hd c_1
    refine lv_aload_n hx hb dX6_countOf_13 rfl (lv_at hl 0 rfl) ?_
    refine va_get (D := (dC, dI)) (ci := 6) (v := .ref h1) (C := RX6) (T := TX6) (N := 3) hx hb hT inlX6 hown hK hP 0 rfl rfl 0 (by decide) (hT _ wm_5_15) (fun _ h9 => h9) rfl dX6_countOf_14 ?_
    refine lv_iload hx hb dX6_countOf_17 (lv_at hl 3 rfl) ?_
    obtain ⟨g_2, hd⟩ := ix_some hd
    refine va_lald hx hb hK hP 1 1 rfl rfl g_2 dX6_countOf_19 ?_
    refine lv_lload_n hx hb dX6_countOf_20 rfl (lv_at hl 1 rfl) ?_
    refine lc_ne (tgt := 35) hx hb dX6_countOf_21 dX6_countOf_22 (by decide) (fun c_3 => ?_) (fun c_3 => ?_)
    · replace hd := i_e hd c_3
      exact bX6_countOf_35 C0 hK hX hA k5 ih5 _ hd _ _ _ hP hD hS (lv_sub hl [0, 1, 2, 3] rfl)
    · replace hd := i_t hd c_3
      refine lv_iload_n hx hb dX6_countOf_25 rfl (lv_at hl 2 rfl) ?_
      refine lv_aload_n hx hb dX6_countOf_26 rfl (lv_at hl 0 rfl) ?_
      refine va_get (D := (dC, dI)) (ci := 6) (v := .ref h2) (C := RX6) (T := TX6) (N := 3) hx hb hT inlX6 hown hK hP 0 rfl rfl 1 (by decide) (hT _ wm_5_16) (fun _ h9 => h9) rfl dX6_countOf_27 ?_
      refine lv_iload hx hb dX6_countOf_30 (lv_at hl 3 rfl) ?_
      obtain ⟨g_4, hd⟩ := ix_some hd
      refine va_iald hx hb hK hP 2 0 rfl rfl g_4 dX6_countOf_32 ?_
      refine lv_iadd hx hb dX6_countOf_33 ?_
      refine lv_istore_n (lv' := [(3, .int (a.2.1 + (v_acts a.2.2.toNatClampNeg))), (0, .ref h0), (1, .long a.1), (4, .int a.2.2)]) hx hb dX6_countOf_34 rfl hl (by decide) rfl (fun ls hl => ?_)
      exact bX6_countOf_35 C0 hK hX hA k5 ih5 _ hd _ _ _ hP hD hS (lv_sub hl [1, 2, 0, 3] rfl)
set_option maxHeartbeats 4000000 in
set_option maxRecDepth 100000 in
theorem oX6_countOf_5 {p : Program} {l : Launch} {e : Env} {s : State} {m : MethodId} {args : Array Value} {below : List Frame} {meth : Method} {c : Code} {A : Nat → Prop} {dC : Nat → ClassId} {dI : Nat → Nat → Nat} {cI cJ cZ : ClassId} {h0 h1 h2 h3 : Nat} {r : Int32} {n : Nat} {v_keys : Nat → Int64} {v_acts : Nat → Int32} {v_latestAnswers : Nat → Int64} (C0 : cx p s m args meth c cX6_countOf 5 RX6 (some .int)) (hK : va_K (dC, dI) vwCl (kT cI cJ cZ) s) (hX : xT s) (hA : ∀ q : Nat, s.heap.size ≤ q → A q)  : ∀ nn : Nat, ∀ (a : Int64 × Int32 × Int32), loopF (fX6_countOf_5 n v_keys v_acts v_latestAnswers ) nn a = some r → ∀ (H : Heap) (locs : List Loc) (ls : Array Slot), va_P (dC, dI) vwCl (vX6 cI cJ cZ h0 h1 h2 h3 v_keys v_acts v_latestAnswers) H → va_D A (vX6 cI cJ cZ h0 h1 h2 h3 v_keys v_acts v_latestAnswers) → va_S A s.heap H locs → lv_has ls 5 [(0, .ref h0), (1, .long a.1), (3, .int a.2.1), (4, .int a.2.2)] → W p l e ({ frames := 0, cells := 0, slots := 0, locals := 0 } : Room) s m args below meth c H locs 0 0 (MQ below (qI (dC, dI) (kT cI cJ cZ) (vX6 cI cJ cZ h0 h1 h2 h3 v_keys v_acts v_latestAnswers) A r) args s 0 0 A) (F0 m 5 ls []) := by
  intro nn
  induction nn with
  | zero => intro a hd; cases hd
  | succ nn ih => intro a hd; exact bX6_countOf_5 C0 hK hX hA  _ ih a hd
def fX6_countOf (n : Nat) (v_keys : Nat → Int64) (v_acts : Nat → Int32) (v_latestAnswers : Nat → Int64) (p1 : Int64) : Option (Int32) := loopF (fX6_countOf_5 n v_keys v_acts v_latestAnswers ) n (p1, (0 : Int32), (0 : Int32))
set_option maxHeartbeats 4000000 in
set_option maxRecDepth 100000 in
theorem mX6_countOf (l : Launch) (dC : Nat → ClassId) (dI : Nat → Nat → Nat) (cI cJ cZ : ClassId) (h0 h1 h2 h3 : Nat) (n : Nat) (v_keys : Nat → Int64) (v_acts : Nat → Int32) (v_latestAnswers : Nat → Int64) (p1 : Int64) {r : Int32} (hd : fX6_countOf n v_keys v_acts v_latestAnswers p1 = some r) (sz : Nat)  : Met l yX6_countOf (wS yX6_countOf cX6_countOf 5 (some .int)) { frames := 0, cells := 0, slots := 0, locals := 0 } (pC (dC, dI) (kT cI cJ cZ) xT (vX6 cI cJ cZ h0 h1 h2 h3 v_keys v_acts v_latestAnswers) sz [.ref h0, .long p1]) (qI (dC, dI) (kT cI cJ cZ) (vX6 cI cJ cZ h0 h1 h2 h3 v_keys v_acts v_latestAnswers) (va_A (vX6 cI cJ cZ h0 h1 h2 h3 v_keys v_acts v_latestAnswers) sz) r) 0 0 (va_A (vX6 cI cJ cZ h0 h1 h2 h3 v_keys v_acts v_latestAnswers) sz) := by
  refine my_ent (fun A => qI (dC, dI) (kT cI cJ cZ) (vX6 cI cJ cZ h0 h1 h2 h3 v_keys v_acts v_latestAnswers) A r) (by decide) (Nat.le_of_ble_eq_true rfl) ?_
  intro p e s m below meth c A hAe hnm C0 hK hX hP hD hA hS ls hl
  obtain ⟨hx, hb, hml, hown, hT, hr, hlocks⟩ := id C0
  unfold fX6_countOf at hd
  have hl : lv_has ls 5 [(0, .ref h0), (1, .long p1)] := hl
  refine lv_iconst (v := 0) hx hb dX6_countOf_0 (by decide) ?_
  refine lv_istore_n (lv' := [(3, .int (0 : Int32)), (0, .ref h0), (1, .long p1)]) hx hb dX6_countOf_1 rfl hl (by decide) rfl (fun ls hl => ?_)
  refine lv_iconst (v := 0) hx hb dX6_countOf_2 (by decide) ?_
  refine lv_istore (lv' := [(4, .int (0 : Int32)), (3, .int (0 : Int32)), (0, .ref h0), (1, .long p1)]) hx hb dX6_countOf_3 hl (by decide) rfl (fun ls hl => ?_)
  exact oX6_countOf_5 C0 hK hX hA  _ _ hd _ _ _ hP hD hS (lv_sub hl [2, 3, 1, 0] rfl)
def fX6_answerTo (v_keys : Nat → Int64) (v_acts : Nat → Int32) (v_latestAnswers : Nat → Int64) (p1 : Int32) : Option (Int64) := if p1 < 0 then (some (0 : Int64)) else (if (300 : Int32) ≤ p1 then (some (0 : Int64)) else (ix p1 300 (some (v_latestAnswers p1.toNatClampNeg))))
set_option maxHeartbeats 4000000 in
set_option maxRecDepth 100000 in
theorem mX6_answerTo (l : Launch) (dC : Nat → ClassId) (dI : Nat → Nat → Nat) (cI cJ cZ : ClassId) (h0 h1 h2 h3 : Nat) (v_keys : Nat → Int64) (v_acts : Nat → Int32) (v_latestAnswers : Nat → Int64) (p1 : Int32) {r : Int64} (hd : fX6_answerTo v_keys v_acts v_latestAnswers p1 = some r) (sz : Nat)  : Met l yX6_answerTo (wS yX6_answerTo cX6_answerTo 2 (some .long)) { frames := 0, cells := 0, slots := 0, locals := 0 } (pC (dC, dI) (kT cI cJ cZ) xT (vX6 cI cJ cZ h0 h1 h2 h3 v_keys v_acts v_latestAnswers) sz [.ref h0, .int p1]) (qL (dC, dI) (kT cI cJ cZ) (vX6 cI cJ cZ h0 h1 h2 h3 v_keys v_acts v_latestAnswers) (va_A (vX6 cI cJ cZ h0 h1 h2 h3 v_keys v_acts v_latestAnswers) sz) r) 0 0 (va_A (vX6 cI cJ cZ h0 h1 h2 h3 v_keys v_acts v_latestAnswers) sz) := by
  refine my_ent (fun A => qL (dC, dI) (kT cI cJ cZ) (vX6 cI cJ cZ h0 h1 h2 h3 v_keys v_acts v_latestAnswers) A r) (by decide) (Nat.le_of_ble_eq_true rfl) ?_
  intro p e s m below meth c A hAe hnm C0 hK hX hP hD hA hS ls hl
  obtain ⟨hx, hb, hml, hown, hT, hr, hlocks⟩ := id C0
  unfold fX6_answerTo at hd
  have hl : lv_has ls 2 [(0, .ref h0), (1, .int p1)] := hl
  refine lv_iload_n hx hb dX6_answerTo_0 rfl (lv_at hl 1 rfl) ?_
  refine lv_if_lt (tgt := 20) hx hb dX6_answerTo_1 (by decide) (fun c_1 => ?_) (fun c_1 => ?_)
  · replace hd := i_t hd c_1
    refine lv_lconst (v := 0) hx hb dX6_answerTo_20 (by decide) ?_
    obtain rfl := Option.some.inj hd
    exact my_lret C0 hK hP hD hS dX6_answerTo_21
  · replace hd := i_e hd c_1
    refine lv_iload_n hx hb dX6_answerTo_4 rfl (lv_at hl 1 rfl) ?_
    refine lv_sipush (v := 300) hx hb dX6_answerTo_5 (by decide) ?_
    refine lv_icmp_ge (tgt := 20) hx hb dX6_answerTo_8 (by decide) (fun c_2 => ?_) (fun c_2 => ?_)
    · replace hd := i_t hd c_2
      refine lv_lconst (v := 0) hx hb dX6_answerTo_20 (by decide) ?_
      obtain rfl := Option.some.inj hd
      exact my_lret C0 hK hP hD hS dX6_answerTo_21
    · replace hd := i_e hd c_2
      refine lv_aload_n hx hb dX6_answerTo_11 rfl (lv_at hl 0 rfl) ?_
      refine va_get (D := (dC, dI)) (ci := 6) (v := .ref h3) (C := RX6) (T := TX6) (N := 3) hx hb hT inlX6 hown hK hP 0 rfl rfl 2 (by decide) (hT _ wm_5_17) (fun _ h9 => h9) rfl dX6_answerTo_12 ?_
      refine lv_iload_n hx hb dX6_answerTo_15 rfl (lv_at hl 1 rfl) ?_
      obtain ⟨g_3, hd⟩ := ix_some hd
      refine va_lald hx hb hK hP 3 1 rfl rfl g_3 dX6_answerTo_16 ?_
      refine lv_goto (tgt := 21) hx hb dX6_answerTo_17 (by decide) ?_
      obtain rfl := Option.some.inj hd
      exact my_lret C0 hK hP hD hS dX6_answerTo_21
def fX6_takeAsk_27 (n : Nat)  (a : (Nat → Int64) × (Nat → Int32) × (Nat → Int64) × Int32 × Int64 × Int64) : Option (Int32 × (Nat → Int64) × (Nat → Int32) × (Nat → Int64)) := ix a.2.2.2.1 300 (ix a.2.2.2.1 300 (ix a.2.2.2.1 300 ((fX6_countOf n (vp_updL a.1 a.2.2.2.1.toNatClampNeg a.2.2.2.2.1) (upd a.2.1 a.2.2.2.1.toNatClampNeg ((a.2.1 a.2.2.2.1.toNatClampNeg) + (1 : Int32))) a.2.2.1 a.2.2.2.2.1).bind (fun u_9 => ix a.2.2.2.1 300 (some ((1 : Int32), vp_updL a.1 a.2.2.2.1.toNatClampNeg a.2.2.2.2.1, upd a.2.1 a.2.2.2.1.toNatClampNeg ((a.2.1 a.2.2.2.1.toNatClampNeg) + (1 : Int32)), vp_updL a.2.2.1 a.2.2.2.1.toNatClampNeg (a.2.2.2.2.2 + u_9.toInt64)))))))
set_option maxHeartbeats 4000000 in
set_option maxRecDepth 100000 in
theorem bX6_takeAsk_27 {p : Program} {l : Launch} {e : Env} {s : State} {m : MethodId} {args : Array Value} {below : List Frame} {meth : Method} {c : Code} {A : Nat → Prop} {dC : Nat → ClassId} {dI : Nat → Nat → Nat} {cI cJ cZ : ClassId} {h0 h1 h2 h3 : Nat} {r : Int32 × (Nat → Int64) × (Nat → Int32) × (Nat → Int64)} {n : Nat} (C0 : cx p s m args meth c cX6_takeAsk 7 RX6 (some .boolean)) (hK : va_K (dC, dI) vwCl (kT cI cJ cZ) s) (hX : xT s) (hA : ∀ q : Nat, s.heap.size ≤ q → A q)  : ∀ (a : (Nat → Int64) × (Nat → Int32) × (Nat → Int64) × Int32 × Int64 × Int64), fX6_takeAsk_27 n  a = some r → ∀ (H : Heap) (locs : List Loc) (ls : Array Slot), va_P (dC, dI) vwCl (vX6 cI cJ cZ h0 h1 h2 h3 a.1 a.2.1 a.2.2.1) H → va_D A (vX6 cI cJ cZ h0 h1 h2 h3 a.1 a.2.1 a.2.2.1) → va_S A s.heap H locs → lv_has ls 7 [(0, .ref h0), (1, .int a.2.2.2.1), (2, .long a.2.2.2.2.1), (4, .long a.2.2.2.2.2)] → W p l e ({ frames := 1, cells := 0, slots := 0, locals := 24 } : Room) s m args below meth c H locs 0 0 (MQ below (qI (dC, dI) (kT cI cJ cZ) (vX6 cI cJ cZ h0 h1 h2 h3 r.2.1 r.2.2.1 r.2.2.2) A r.1) args s 0 0 A) (F0 m 27 ls []) := by
  obtain ⟨hx, hb, hml, hown, hT, hr, hlocks⟩ := id C0
  intro a hd H locs ls hP hD hS hl
  unfold fX6_takeAsk_27 at hd
  refine lv_aload_n hx hb dX6_takeAsk_27 rfl (lv_at hl 0 rfl) ?_
  refine va_get (D := (dC, dI)) (ci := 6) (v := .ref h1) (C := RX6) (T := TX6) (N := 3) hx hb hT inlX6 hown hK hP 0 rfl rfl 0 (by decide) (hT _ wm_5_15) (fun _ h9 => h9) rfl dX6_takeAsk_28 ?_
  refine lv_iload_n hx hb dX6_takeAsk_31 rfl (lv_at hl 1 rfl) ?_
  refine lv_lload_n hx hb dX6_takeAsk_32 rfl (lv_at hl 2 rfl) ?_
  obtain ⟨g_6, hd⟩ := ix_some hd
  refine va_last hx hb hK hP hD hS 1 1 rfl rfl g_6 dX6_takeAsk_33 (fun H locs hP hD hS => ?_)
  have hP : va_P (dC, dI) vwCl (vX6 cI cJ cZ h0 h1 h2 h3 (vp_updL a.1 a.2.2.2.1.toNatClampNeg a.2.2.2.2.1) a.2.1 a.2.2.1) H := hP
  have hD : va_D A (vX6 cI cJ cZ h0 h1 h2 h3 (vp_updL a.1 a.2.2.2.1.toNatClampNeg a.2.2.2.2.1) a.2.1 a.2.2.1) := hD
  refine lv_aload_n hx hb dX6_takeAsk_34 rfl (lv_at hl 0 rfl) ?_
  refine va_get (D := (dC, dI)) (ci := 6) (v := .ref h2) (C := RX6) (T := TX6) (N := 3) hx hb hT inlX6 hown hK hP 0 rfl rfl 1 (by decide) (hT _ wm_5_16) (fun _ h9 => h9) rfl dX6_takeAsk_35 ?_
  refine lv_iload_n hx hb dX6_takeAsk_38 rfl (lv_at hl 1 rfl) ?_
  refine lv_dup2_11 hx hb dX6_takeAsk_39 rfl rfl ?_
  obtain ⟨g_7, hd⟩ := ix_some hd
  refine va_iald hx hb hK hP 2 0 rfl rfl g_7 dX6_takeAsk_40 ?_
  refine lv_iconst (v := 1) hx hb dX6_takeAsk_41 (by decide) ?_
  refine lv_iadd hx hb dX6_takeAsk_42 ?_
  obtain ⟨g_8, hd⟩ := ix_some hd
  refine va_iast hx hb hK hP hD hS 2 0 rfl rfl g_8 dX6_takeAsk_43 (fun H locs hP hD hS => ?_)
  have hP : va_P (dC, dI) vwCl (vX6 cI cJ cZ h0 h1 h2 h3 (vp_updL a.1 a.2.2.2.1.toNatClampNeg a.2.2.2.2.1) (upd a.2.1 a.2.2.2.1.toNatClampNeg ((a.2.1 a.2.2.2.1.toNatClampNeg) + (1 : Int32))) a.2.2.1) H := hP
  have hD : va_D A (vX6 cI cJ cZ h0 h1 h2 h3 (vp_updL a.1 a.2.2.2.1.toNatClampNeg a.2.2.2.2.1) (upd a.2.1 a.2.2.2.1.toNatClampNeg ((a.2.1 a.2.2.2.1.toNatClampNeg) + (1 : Int32))) a.2.2.1) := hD
  refine lv_aload_n hx hb dX6_takeAsk_44 rfl (lv_at hl 0 rfl) ?_
  refine va_get (D := (dC, dI)) (ci := 6) (v := .ref h3) (C := RX6) (T := TX6) (N := 3) hx hb hT inlX6 hown hK hP 0 rfl rfl 2 (by decide) (hT _ wm_5_17) (fun _ h9 => h9) rfl dX6_takeAsk_45 ?_
  refine lv_iload_n hx hb dX6_takeAsk_48 rfl (lv_at hl 1 rfl) ?_
  refine lv_lload hx hb dX6_takeAsk_49 (lv_at hl 3 rfl) ?_
  refine lv_aload_n hx hb dX6_takeAsk_51 rfl (lv_at hl 0 rfl) ?_
  refine lv_lload_n hx hb dX6_takeAsk_52 rfl (lv_at hl 2 rfl) ?_
  obtain ⟨u_9, hc_10, hd⟩ := bd hd
  refine cv_i (W' := vX6 cI cJ cZ h0 h1 h2 h3 (vp_updL a.1 a.2.2.2.1.toNatClampNeg a.2.2.2.2.1) (upd a.2.1 a.2.2.2.1.toNatClampNeg ((a.2.1 a.2.2.2.1.toNatClampNeg) + (1 : Int32))) a.2.2.1) (Wn := vX6 cI cJ cZ h0 h1 h2 h3 (vp_updL a.1 a.2.2.2.1.toNatClampNeg a.2.2.2.2.1) (upd a.2.1 a.2.2.2.1.toNatClampNeg ((a.2.1 a.2.2.2.1.toNatClampNeg) + (1 : Int32))) a.2.2.1) (rest := [.long a.2.2.2.2.2, .int a.2.2.2.1, .ref h3]) C0 (mX6_countOf l dC dI cI cJ cZ h0 h1 h2 h3 n (vp_updL a.1 a.2.2.2.1.toNatClampNeg a.2.2.2.2.1) (upd a.2.1 a.2.2.2.1.toNatClampNeg ((a.2.1 a.2.2.2.1.toNatClampNeg) + (1 : Int32))) a.2.2.1 a.2.2.2.2.1 hc_10 _) gv_X6_22 yd_X6_countOf ⟨rfl, rfl, Nat.le_of_ble_eq_true rfl, Nat.le_of_ble_eq_true rfl, Nat.zero_le _, Nat.zero_le _⟩ xT_b xT_w hK hP hD hS hA 0 4 rfl hl.1 rfl (Nat.le_of_ble_eq_true rfl) dX6_takeAsk_53 6 0 rfl rfl rfl (fun H locs hP hD hS => ?_)
  refine lv_i2l (v := u_9.toInt64) hx hb dX6_takeAsk_56 rfl ?_
  refine lv_ladd hx hb dX6_takeAsk_57 ?_
  obtain ⟨g_11, hd⟩ := ix_some hd
  refine va_last hx hb hK hP hD hS 3 1 rfl rfl g_11 dX6_takeAsk_58 (fun H locs hP hD hS => ?_)
  have hP : va_P (dC, dI) vwCl (vX6 cI cJ cZ h0 h1 h2 h3 (vp_updL a.1 a.2.2.2.1.toNatClampNeg a.2.2.2.2.1) (upd a.2.1 a.2.2.2.1.toNatClampNeg ((a.2.1 a.2.2.2.1.toNatClampNeg) + (1 : Int32))) (vp_updL a.2.2.1 a.2.2.2.1.toNatClampNeg (a.2.2.2.2.2 + u_9.toInt64))) H := hP
  have hD : va_D A (vX6 cI cJ cZ h0 h1 h2 h3 (vp_updL a.1 a.2.2.2.1.toNatClampNeg a.2.2.2.2.1) (upd a.2.1 a.2.2.2.1.toNatClampNeg ((a.2.1 a.2.2.2.1.toNatClampNeg) + (1 : Int32))) (vp_updL a.2.2.1 a.2.2.2.1.toNatClampNeg (a.2.2.2.2.2 + u_9.toInt64))) := hD
  refine lv_iconst (v := 1) hx hb dX6_takeAsk_59 (by decide) ?_
  obtain rfl := Option.some.inj hd
  exact my_zret C0 hK hP hD hS (Or.inr rfl) dX6_takeAsk_60
def fX6_takeAsk (n : Nat) (v_keys : Nat → Int64) (v_acts : Nat → Int32) (v_latestAnswers : Nat → Int64) (p1 : Int32) (p2 : Int64) (p4 : Int64) (p6 : Int32) : Option (Int32 × (Nat → Int64) × (Nat → Int32) × (Nat → Int64)) := if p1 < 0 then (some ((0 : Int32), v_keys, v_acts, v_latestAnswers)) else (if (300 : Int32) ≤ p1 then (some ((0 : Int32), v_keys, v_acts, v_latestAnswers)) else (if p6 = 0 then (fX6_takeAsk_27 n  (v_keys, v_acts, v_latestAnswers, p1, p2, p4)) else (ix p1 300 (if (v_acts p1.toNatClampNeg) ≤ 0 then (fX6_takeAsk_27 n  (v_keys, v_acts, v_latestAnswers, p1, p2, p4)) else (some ((0 : Int32), v_keys, v_acts, v_latestAnswers))))))
set_option maxHeartbeats 4000000 in
set_option maxRecDepth 100000 in
theorem mX6_takeAsk (l : Launch) (dC : Nat → ClassId) (dI : Nat → Nat → Nat) (cI cJ cZ : ClassId) (h0 h1 h2 h3 : Nat) (n : Nat) (v_keys : Nat → Int64) (v_acts : Nat → Int32) (v_latestAnswers : Nat → Int64) (p1 : Int32) (p2 : Int64) (p4 : Int64) (p6 : Int32) {r : Int32 × (Nat → Int64) × (Nat → Int32) × (Nat → Int64)} (hd : fX6_takeAsk n v_keys v_acts v_latestAnswers p1 p2 p4 p6 = some r) (sz : Nat)  : Met l yX6_takeAsk (wS yX6_takeAsk cX6_takeAsk 7 (some .boolean)) { frames := 1, cells := 0, slots := 0, locals := 24 } (pC (dC, dI) (kT cI cJ cZ) xT (vX6 cI cJ cZ h0 h1 h2 h3 v_keys v_acts v_latestAnswers) sz [.ref h0, .int p1, .long p2, .long p4, .int p6]) (qI (dC, dI) (kT cI cJ cZ) (vX6 cI cJ cZ h0 h1 h2 h3 r.2.1 r.2.2.1 r.2.2.2) (va_A (vX6 cI cJ cZ h0 h1 h2 h3 v_keys v_acts v_latestAnswers) sz) r.1) 0 0 (va_A (vX6 cI cJ cZ h0 h1 h2 h3 v_keys v_acts v_latestAnswers) sz) := by
  refine my_ent (fun A => qI (dC, dI) (kT cI cJ cZ) (vX6 cI cJ cZ h0 h1 h2 h3 r.2.1 r.2.2.1 r.2.2.2) A r.1) (by decide) (Nat.le_of_ble_eq_true rfl) ?_
  intro p e s m below meth c A hAe hnm C0 hK hX hP hD hA hS ls hl
  obtain ⟨hx, hb, hml, hown, hT, hr, hlocks⟩ := id C0
  unfold fX6_takeAsk at hd
  have hl : lv_has ls 7 [(0, .ref h0), (1, .int p1), (2, .long p2), (4, .long p4), (6, .int p6)] := hl
  refine lv_iload_n hx hb dX6_takeAsk_0 rfl (lv_at hl 1 rfl) ?_
  refine lv_if_lt (tgt := 25) hx hb dX6_takeAsk_1 (by decide) (fun c_1 => ?_) (fun c_1 => ?_)
  · replace hd := i_t hd c_1
    refine lv_iconst (v := 0) hx hb dX6_takeAsk_25 (by decide) ?_
    obtain rfl := Option.some.inj hd
    exact my_zret C0 hK hP hD hS (Or.inl rfl) dX6_takeAsk_26
  · replace hd := i_e hd c_1
    refine lv_iload_n hx hb dX6_takeAsk_4 rfl (lv_at hl 1 rfl) ?_
    refine lv_sipush (v := 300) hx hb dX6_takeAsk_5 (by decide) ?_
    refine lv_icmp_ge (tgt := 25) hx hb dX6_takeAsk_8 (by decide) (fun c_2 => ?_) (fun c_2 => ?_)
    · replace hd := i_t hd c_2
      refine lv_iconst (v := 0) hx hb dX6_takeAsk_25 (by decide) ?_
      obtain rfl := Option.some.inj hd
      exact my_zret C0 hK hP hD hS (Or.inl rfl) dX6_takeAsk_26
    · replace hd := i_e hd c_2
      refine lv_iload hx hb dX6_takeAsk_11 (lv_at hl 4 rfl) ?_
      refine lv_if_eq (tgt := 27) hx hb dX6_takeAsk_13 (by decide) (fun c_3 => ?_) (fun c_3 => ?_)
      · replace hd := i_t hd c_3
        exact bX6_takeAsk_27 C0 hK hX hA  _ hd _ _ _ hP hD hS (lv_sub hl [0, 1, 2, 3] rfl)
      · replace hd := i_e hd c_3
        refine lv_aload_n hx hb dX6_takeAsk_16 rfl (lv_at hl 0 rfl) ?_
        refine va_get (D := (dC, dI)) (ci := 6) (v := .ref h2) (C := RX6) (T := TX6) (N := 3) hx hb hT inlX6 hown hK hP 0 rfl rfl 1 (by decide) (hT _ wm_5_16) (fun _ h9 => h9) rfl dX6_takeAsk_17 ?_
        refine lv_iload_n hx hb dX6_takeAsk_20 rfl (lv_at hl 1 rfl) ?_
        obtain ⟨g_4, hd⟩ := ix_some hd
        refine va_iald hx hb hK hP 2 0 rfl rfl g_4 dX6_takeAsk_21 ?_
        refine lv_if_le (tgt := 27) hx hb dX6_takeAsk_22 (by decide) (fun c_5 => ?_) (fun c_5 => ?_)
        · replace hd := i_t hd c_5
          exact bX6_takeAsk_27 C0 hK hX hA  _ hd _ _ _ hP hD hS (lv_sub hl [0, 1, 2, 3] rfl)
        · replace hd := i_e hd c_5
          refine lv_iconst (v := 0) hx hb dX6_takeAsk_25 (by decide) ?_
          obtain rfl := Option.some.inj hd
          exact my_zret C0 hK hP hD hS (Or.inl rfl) dX6_takeAsk_26
