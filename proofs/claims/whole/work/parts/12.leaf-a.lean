def fX0_mayHave (v_keys : Nat → Int64) (v_values : Nat → Int64) (v_marks : Nat → Int32) (v_dues : Nat → Int32) (p1 : Int32) : Option (Int32) := if p1 < 0 then (some (0 : Int32)) else (if (300 : Int32) ≤ p1 then (some (0 : Int32)) else (some (1 : Int32)))
set_option maxHeartbeats 4000000 in
set_option maxRecDepth 100000 in
theorem mX0_mayHave (l : Launch) (dC : Nat → ClassId) (dI : Nat → Nat → Nat) (cI cJ cZ : ClassId) (h0 h1 h2 h3 h4 : Nat) (v_keys : Nat → Int64) (v_values : Nat → Int64) (v_marks : Nat → Int32) (v_dues : Nat → Int32) (p1 : Int32) {r : Int32} (hd : fX0_mayHave v_keys v_values v_marks v_dues p1 = some r) (sz : Nat)  : Met l yX0_mayHave (wS yX0_mayHave cX0_mayHave 2 (some .boolean)) { frames := 0, cells := 0, slots := 0, locals := 0 } (pC (dC, dI) (kT cI cJ cZ) xT (vX0 cI cJ cZ h0 h1 h2 h3 h4 v_keys v_values v_marks v_dues) sz [.ref h0, .int p1]) (qI (dC, dI) (kT cI cJ cZ) (vX0 cI cJ cZ h0 h1 h2 h3 h4 v_keys v_values v_marks v_dues) (va_A (vX0 cI cJ cZ h0 h1 h2 h3 h4 v_keys v_values v_marks v_dues) sz) r) 0 0 (va_A (vX0 cI cJ cZ h0 h1 h2 h3 h4 v_keys v_values v_marks v_dues) sz) := by
  refine my_ent (fun A => qI (dC, dI) (kT cI cJ cZ) (vX0 cI cJ cZ h0 h1 h2 h3 h4 v_keys v_values v_marks v_dues) A r) (by decide) (Nat.le_of_ble_eq_true rfl) ?_
  intro p e s m below meth c A hAe hnm C0 hK hX hP hD hA hS ls hl
  obtain ⟨hx, hb, hml, hown, hT, hr, hlocks⟩ := id C0
  unfold fX0_mayHave at hd
  have hl : lv_has ls 2 [(0, .ref h0), (1, .int p1)] := hl
  refine lv_iload_n hx hb dX0_mayHave_0 rfl (lv_at hl 1 rfl) ?_
  refine lv_if_lt (tgt := 15) hx hb dX0_mayHave_1 (by decide) (fun c_1 => ?_) (fun c_1 => ?_)
  · replace hd := i_t hd c_1
    refine lv_iconst (v := 0) hx hb dX0_mayHave_15 (by decide) ?_
    obtain rfl := Option.some.inj hd
    exact my_zret C0 hK hP hD hS (Or.inl rfl) dX0_mayHave_16
  · replace hd := i_e hd c_1
    refine lv_iload_n hx hb dX0_mayHave_4 rfl (lv_at hl 1 rfl) ?_
    refine lv_sipush (v := 300) hx hb dX0_mayHave_5 (by decide) ?_
    refine lv_icmp_ge (tgt := 15) hx hb dX0_mayHave_8 (by decide) (fun c_2 => ?_) (fun c_2 => ?_)
    · replace hd := i_t hd c_2
      refine lv_iconst (v := 0) hx hb dX0_mayHave_15 (by decide) ?_
      obtain rfl := Option.some.inj hd
      exact my_zret C0 hK hP hD hS (Or.inl rfl) dX0_mayHave_16
    · replace hd := i_e hd c_2
      refine lv_iconst (v := 1) hx hb dX0_mayHave_11 (by decide) ?_
      refine lv_goto (tgt := 16) hx hb dX0_mayHave_12 (by decide) ?_
      obtain rfl := Option.some.inj hd
      exact my_zret C0 hK hP hD hS (Or.inr rfl) dX0_mayHave_16
def fX0_noteRow (v_keys : Nat → Int64) (v_values : Nat → Int64) (v_marks : Nat → Int32) (v_dues : Nat → Int32) (p1 : Int32) (p2 : Int64) (p4 : Int64) : Option ((Nat → Int64) × (Nat → Int64)) := (fX0_mayHave v_keys v_values v_marks v_dues p1).bind (fun u_1 => if u_1 = 0 then (some (v_keys, v_values)) else (ix p1 300 (ix p1 300 (some (vp_updL v_keys p1.toNatClampNeg p2, vp_updL v_values p1.toNatClampNeg p4)))))
set_option maxHeartbeats 4000000 in
set_option maxRecDepth 100000 in
theorem mX0_noteRow (l : Launch) (dC : Nat → ClassId) (dI : Nat → Nat → Nat) (cI cJ cZ : ClassId) (h0 h1 h2 h3 h4 : Nat) (v_keys : Nat → Int64) (v_values : Nat → Int64) (v_marks : Nat → Int32) (v_dues : Nat → Int32) (p1 : Int32) (p2 : Int64) (p4 : Int64) {r : (Nat → Int64) × (Nat → Int64)} (hd : fX0_noteRow v_keys v_values v_marks v_dues p1 p2 p4 = some r) (sz : Nat)  : Met l yX0_noteRow (wS yX0_noteRow cX0_noteRow 6 none) { frames := 1, cells := 0, slots := 0, locals := 21 } (pC (dC, dI) (kT cI cJ cZ) xT (vX0 cI cJ cZ h0 h1 h2 h3 h4 v_keys v_values v_marks v_dues) sz [.ref h0, .int p1, .long p2, .long p4]) (qV (dC, dI) (kT cI cJ cZ) (vX0 cI cJ cZ h0 h1 h2 h3 h4 r.1 r.2 v_marks v_dues) (va_A (vX0 cI cJ cZ h0 h1 h2 h3 h4 v_keys v_values v_marks v_dues) sz)) 0 0 (va_A (vX0 cI cJ cZ h0 h1 h2 h3 h4 v_keys v_values v_marks v_dues) sz) := by
  refine my_ent (fun A => qV (dC, dI) (kT cI cJ cZ) (vX0 cI cJ cZ h0 h1 h2 h3 h4 r.1 r.2 v_marks v_dues) A) (by decide) (Nat.le_of_ble_eq_true rfl) ?_
  intro p e s m below meth c A hAe hnm C0 hK hX hP hD hA hS ls hl
  obtain ⟨hx, hb, hml, hown, hT, hr, hlocks⟩ := id C0
  unfold fX0_noteRow at hd
  have hl : lv_has ls 6 [(0, .ref h0), (1, .int p1), (2, .long p2), (4, .long p4)] := hl
  refine lv_aload_n hx hb dX0_noteRow_0 rfl (lv_at hl 0 rfl) ?_
  refine lv_iload_n hx hb dX0_noteRow_1 rfl (lv_at hl 1 rfl) ?_
  obtain ⟨u_1, hc_2, hd⟩ := bd hd
  refine cv_i (W' := vX0 cI cJ cZ h0 h1 h2 h3 h4 v_keys v_values v_marks v_dues) (Wn := vX0 cI cJ cZ h0 h1 h2 h3 h4 v_keys v_values v_marks v_dues) (rest := []) C0 (mX0_mayHave l dC dI cI cJ cZ h0 h1 h2 h3 h4 v_keys v_values v_marks v_dues p1 hc_2 _) gv_X0_26 yd_X0_mayHave ⟨rfl, rfl, Nat.le_of_ble_eq_true rfl, Nat.le_of_ble_eq_true rfl, Nat.zero_le _, Nat.zero_le _⟩ xT_b xT_w hK hP hD hS hA 0 5 rfl hl.1 rfl (Nat.le_of_ble_eq_true rfl) dX0_noteRow_2 0 0 rfl rfl rfl (fun H locs hP hD hS => ?_)
  refine lv_if_eq (tgt := 23) hx hb dX0_noteRow_5 (by decide) (fun c_3 => ?_) (fun c_3 => ?_)
  · replace hd := i_t hd c_3
    obtain rfl := Option.some.inj hd
    exact my_vret C0 hK hP hD hS dX0_noteRow_23
  · replace hd := i_e hd c_3
    refine lv_aload_n hx hb dX0_noteRow_8 rfl (lv_at hl 0 rfl) ?_
    refine va_get (D := (dC, dI)) (ci := 0) (v := .ref h1) (C := RX0) (T := TX0) (N := 4) hx hb hT inlX0 hown hK hP 0 rfl rfl 0 (by decide) (hT _ wm_4_2) (fun _ h9 => h9) rfl dX0_noteRow_9 ?_
    refine lv_iload_n hx hb dX0_noteRow_12 rfl (lv_at hl 1 rfl) ?_
    refine lv_lload_n hx hb dX0_noteRow_13 rfl (lv_at hl 2 rfl) ?_
    obtain ⟨g_4, hd⟩ := ix_some hd
    refine va_last hx hb hK hP hD hS 1 1 rfl rfl g_4 dX0_noteRow_14 (fun H locs hP hD hS => ?_)
    have hP : va_P (dC, dI) vwCl (vX0 cI cJ cZ h0 h1 h2 h3 h4 (vp_updL v_keys p1.toNatClampNeg p2) v_values v_marks v_dues) H := hP
    have hD : va_D A (vX0 cI cJ cZ h0 h1 h2 h3 h4 (vp_updL v_keys p1.toNatClampNeg p2) v_values v_marks v_dues) := hD
    refine lv_aload_n hx hb dX0_noteRow_15 rfl (lv_at hl 0 rfl) ?_
    refine va_get (D := (dC, dI)) (ci := 0) (v := .ref h2) (C := RX0) (T := TX0) (N := 4) hx hb hT inlX0 hown hK hP 0 rfl rfl 1 (by decide) (hT _ wm_4_3) (fun _ h9 => h9) rfl dX0_noteRow_16 ?_
    refine lv_iload_n hx hb dX0_noteRow_19 rfl (lv_at hl 1 rfl) ?_
    refine lv_lload hx hb dX0_noteRow_20 (lv_at hl 3 rfl) ?_
    obtain ⟨g_5, hd⟩ := ix_some hd
    refine va_last hx hb hK hP hD hS 2 1 rfl rfl g_5 dX0_noteRow_22 (fun H locs hP hD hS => ?_)
    have hP : va_P (dC, dI) vwCl (vX0 cI cJ cZ h0 h1 h2 h3 h4 (vp_updL v_keys p1.toNatClampNeg p2) (vp_updL v_values p1.toNatClampNeg p4) v_marks v_dues) H := hP
    have hD : va_D A (vX0 cI cJ cZ h0 h1 h2 h3 h4 (vp_updL v_keys p1.toNatClampNeg p2) (vp_updL v_values p1.toNatClampNeg p4) v_marks v_dues) := hD
    obtain rfl := Option.some.inj hd
    exact my_vret C0 hK hP hD hS dX0_noteRow_23
def fX0_noteMark (v_keys : Nat → Int64) (v_values : Nat → Int64) (v_marks : Nat → Int32) (v_dues : Nat → Int32) (p1 : Int32) : Option ((Nat → Int32)) := (fX0_mayHave v_keys v_values v_marks v_dues p1).bind (fun u_1 => if u_1 = 0 then (some v_marks) else (ix p1 300 (some (upd v_marks p1.toNatClampNeg (vp_nar .boolean (1 : Int32))))))
set_option maxHeartbeats 4000000 in
set_option maxRecDepth 100000 in
theorem mX0_noteMark (l : Launch) (dC : Nat → ClassId) (dI : Nat → Nat → Nat) (cI cJ cZ : ClassId) (h0 h1 h2 h3 h4 : Nat) (v_keys : Nat → Int64) (v_values : Nat → Int64) (v_marks : Nat → Int32) (v_dues : Nat → Int32) (p1 : Int32) {r : (Nat → Int32)} (hd : fX0_noteMark v_keys v_values v_marks v_dues p1 = some r) (sz : Nat)  : Met l yX0_noteMark (wS yX0_noteMark cX0_noteMark 2 none) { frames := 1, cells := 0, slots := 0, locals := 21 } (pC (dC, dI) (kT cI cJ cZ) xT (vX0 cI cJ cZ h0 h1 h2 h3 h4 v_keys v_values v_marks v_dues) sz [.ref h0, .int p1]) (qV (dC, dI) (kT cI cJ cZ) (vX0 cI cJ cZ h0 h1 h2 h3 h4 v_keys v_values r v_dues) (va_A (vX0 cI cJ cZ h0 h1 h2 h3 h4 v_keys v_values v_marks v_dues) sz)) 0 0 (va_A (vX0 cI cJ cZ h0 h1 h2 h3 h4 v_keys v_values v_marks v_dues) sz) := by
  refine my_ent (fun A => qV (dC, dI) (kT cI cJ cZ) (vX0 cI cJ cZ h0 h1 h2 h3 h4 v_keys v_values r v_dues) A) (by decide) (Nat.le_of_ble_eq_true rfl) ?_
  intro p e s m below meth c A hAe hnm C0 hK hX hP hD hA hS ls hl
  obtain ⟨hx, hb, hml, hown, hT, hr, hlocks⟩ := id C0
  unfold fX0_noteMark at hd
  have hl : lv_has ls 2 [(0, .ref h0), (1, .int p1)] := hl
  refine lv_aload_n hx hb dX0_noteMark_0 rfl (lv_at hl 0 rfl) ?_
  refine lv_iload_n hx hb dX0_noteMark_1 rfl (lv_at hl 1 rfl) ?_
  obtain ⟨u_1, hc_2, hd⟩ := bd hd
  refine cv_i (W' := vX0 cI cJ cZ h0 h1 h2 h3 h4 v_keys v_values v_marks v_dues) (Wn := vX0 cI cJ cZ h0 h1 h2 h3 h4 v_keys v_values v_marks v_dues) (rest := []) C0 (mX0_mayHave l dC dI cI cJ cZ h0 h1 h2 h3 h4 v_keys v_values v_marks v_dues p1 hc_2 _) gv_X0_26 yd_X0_mayHave ⟨rfl, rfl, Nat.le_of_ble_eq_true rfl, Nat.le_of_ble_eq_true rfl, Nat.zero_le _, Nat.zero_le _⟩ xT_b xT_w hK hP hD hS hA 0 5 rfl hl.1 rfl (Nat.le_of_ble_eq_true rfl) dX0_noteMark_2 0 0 rfl rfl rfl (fun H locs hP hD hS => ?_)
  refine lv_if_eq (tgt := 15) hx hb dX0_noteMark_5 (by decide) (fun c_3 => ?_) (fun c_3 => ?_)
  · replace hd := i_t hd c_3
    obtain rfl := Option.some.inj hd
    exact my_vret C0 hK hP hD hS dX0_noteMark_15
  · replace hd := i_e hd c_3
    refine lv_aload_n hx hb dX0_noteMark_8 rfl (lv_at hl 0 rfl) ?_
    refine va_get (D := (dC, dI)) (ci := 0) (v := .ref h3) (C := RX0) (T := TX0) (N := 4) hx hb hT inlX0 hown hK hP 0 rfl rfl 2 (by decide) (hT _ wm_4_5) (fun _ h9 => h9) rfl dX0_noteMark_9 ?_
    refine lv_iload_n hx hb dX0_noteMark_12 rfl (lv_at hl 1 rfl) ?_
    refine lv_iconst (v := 1) hx hb dX0_noteMark_13 (by decide) ?_
    obtain ⟨g_4, hd⟩ := ix_some hd
    refine va_zast hx hb hK hP hD hS 3 2 rfl rfl g_4 dX0_noteMark_14 (fun H locs hP hD hS => ?_)
    have hP : va_P (dC, dI) vwCl (vX0 cI cJ cZ h0 h1 h2 h3 h4 v_keys v_values (upd v_marks p1.toNatClampNeg (vp_nar .boolean (1 : Int32))) v_dues) H := hP
    have hD : va_D A (vX0 cI cJ cZ h0 h1 h2 h3 h4 v_keys v_values (upd v_marks p1.toNatClampNeg (vp_nar .boolean (1 : Int32))) v_dues) := hD
    obtain rfl := Option.some.inj hd
    exact my_vret C0 hK hP hD hS dX0_noteMark_15
def fX0_keyOf (v_keys : Nat → Int64) (v_values : Nat → Int64) (v_marks : Nat → Int32) (v_dues : Nat → Int32) (p1 : Int32) : Option (Int64) := (fX0_mayHave v_keys v_values v_marks v_dues p1).bind (fun u_1 => if u_1 = 0 then (some (0 : Int64)) else (ix p1 300 (some (v_keys p1.toNatClampNeg))))
set_option maxHeartbeats 4000000 in
set_option maxRecDepth 100000 in
theorem mX0_keyOf (l : Launch) (dC : Nat → ClassId) (dI : Nat → Nat → Nat) (cI cJ cZ : ClassId) (h0 h1 h2 h3 h4 : Nat) (v_keys : Nat → Int64) (v_values : Nat → Int64) (v_marks : Nat → Int32) (v_dues : Nat → Int32) (p1 : Int32) {r : Int64} (hd : fX0_keyOf v_keys v_values v_marks v_dues p1 = some r) (sz : Nat)  : Met l yX0_keyOf (wS yX0_keyOf cX0_keyOf 2 (some .long)) { frames := 1, cells := 0, slots := 0, locals := 21 } (pC (dC, dI) (kT cI cJ cZ) xT (vX0 cI cJ cZ h0 h1 h2 h3 h4 v_keys v_values v_marks v_dues) sz [.ref h0, .int p1]) (qL (dC, dI) (kT cI cJ cZ) (vX0 cI cJ cZ h0 h1 h2 h3 h4 v_keys v_values v_marks v_dues) (va_A (vX0 cI cJ cZ h0 h1 h2 h3 h4 v_keys v_values v_marks v_dues) sz) r) 0 0 (va_A (vX0 cI cJ cZ h0 h1 h2 h3 h4 v_keys v_values v_marks v_dues) sz) := by
  refine my_ent (fun A => qL (dC, dI) (kT cI cJ cZ) (vX0 cI cJ cZ h0 h1 h2 h3 h4 v_keys v_values v_marks v_dues) A r) (by decide) (Nat.le_of_ble_eq_true rfl) ?_
  intro p e s m below meth c A hAe hnm C0 hK hX hP hD hA hS ls hl
  obtain ⟨hx, hb, hml, hown, hT, hr, hlocks⟩ := id C0
  unfold fX0_keyOf at hd
  have hl : lv_has ls 2 [(0, .ref h0), (1, .int p1)] := hl
  refine lv_aload_n hx hb dX0_keyOf_0 rfl (lv_at hl 0 rfl) ?_
  refine lv_iload_n hx hb dX0_keyOf_1 rfl (lv_at hl 1 rfl) ?_
  obtain ⟨u_1, hc_2, hd⟩ := bd hd
  refine cv_i (W' := vX0 cI cJ cZ h0 h1 h2 h3 h4 v_keys v_values v_marks v_dues) (Wn := vX0 cI cJ cZ h0 h1 h2 h3 h4 v_keys v_values v_marks v_dues) (rest := []) C0 (mX0_mayHave l dC dI cI cJ cZ h0 h1 h2 h3 h4 v_keys v_values v_marks v_dues p1 hc_2 _) gv_X0_26 yd_X0_mayHave ⟨rfl, rfl, Nat.le_of_ble_eq_true rfl, Nat.le_of_ble_eq_true rfl, Nat.zero_le _, Nat.zero_le _⟩ xT_b xT_w hK hP hD hS hA 0 5 rfl hl.1 rfl (Nat.le_of_ble_eq_true rfl) dX0_keyOf_2 0 0 rfl rfl rfl (fun H locs hP hD hS => ?_)
  refine lv_if_eq (tgt := 17) hx hb dX0_keyOf_5 (by decide) (fun c_3 => ?_) (fun c_3 => ?_)
  · replace hd := i_t hd c_3
    refine lv_lconst (v := 0) hx hb dX0_keyOf_17 (by decide) ?_
    obtain rfl := Option.some.inj hd
    exact my_lret C0 hK hP hD hS dX0_keyOf_18
  · replace hd := i_e hd c_3
    refine lv_aload_n hx hb dX0_keyOf_8 rfl (lv_at hl 0 rfl) ?_
    refine va_get (D := (dC, dI)) (ci := 0) (v := .ref h1) (C := RX0) (T := TX0) (N := 4) hx hb hT inlX0 hown hK hP 0 rfl rfl 0 (by decide) (hT _ wm_4_2) (fun _ h9 => h9) rfl dX0_keyOf_9 ?_
    refine lv_iload_n hx hb dX0_keyOf_12 rfl (lv_at hl 1 rfl) ?_
    obtain ⟨g_4, hd⟩ := ix_some hd
    refine va_lald hx hb hK hP 1 1 rfl rfl g_4 dX0_keyOf_13 ?_
    refine lv_goto (tgt := 18) hx hb dX0_keyOf_14 (by decide) ?_
    obtain rfl := Option.some.inj hd
    exact my_lret C0 hK hP hD hS dX0_keyOf_18
def fX0_valueOf (v_keys : Nat → Int64) (v_values : Nat → Int64) (v_marks : Nat → Int32) (v_dues : Nat → Int32) (p1 : Int32) : Option (Int64) := (fX0_mayHave v_keys v_values v_marks v_dues p1).bind (fun u_1 => if u_1 = 0 then (some (0 : Int64)) else (ix p1 300 (some (v_values p1.toNatClampNeg))))
set_option maxHeartbeats 4000000 in
set_option maxRecDepth 100000 in
theorem mX0_valueOf (l : Launch) (dC : Nat → ClassId) (dI : Nat → Nat → Nat) (cI cJ cZ : ClassId) (h0 h1 h2 h3 h4 : Nat) (v_keys : Nat → Int64) (v_values : Nat → Int64) (v_marks : Nat → Int32) (v_dues : Nat → Int32) (p1 : Int32) {r : Int64} (hd : fX0_valueOf v_keys v_values v_marks v_dues p1 = some r) (sz : Nat)  : Met l yX0_valueOf (wS yX0_valueOf cX0_valueOf 2 (some .long)) { frames := 1, cells := 0, slots := 0, locals := 21 } (pC (dC, dI) (kT cI cJ cZ) xT (vX0 cI cJ cZ h0 h1 h2 h3 h4 v_keys v_values v_marks v_dues) sz [.ref h0, .int p1]) (qL (dC, dI) (kT cI cJ cZ) (vX0 cI cJ cZ h0 h1 h2 h3 h4 v_keys v_values v_marks v_dues) (va_A (vX0 cI cJ cZ h0 h1 h2 h3 h4 v_keys v_values v_marks v_dues) sz) r) 0 0 (va_A (vX0 cI cJ cZ h0 h1 h2 h3 h4 v_keys v_values v_marks v_dues) sz) := by
  refine my_ent (fun A => qL (dC, dI) (kT cI cJ cZ) (vX0 cI cJ cZ h0 h1 h2 h3 h4 v_keys v_values v_marks v_dues) A r) (by decide) (Nat.le_of_ble_eq_true rfl) ?_
  intro p e s m below meth c A hAe hnm C0 hK hX hP hD hA hS ls hl
  obtain ⟨hx, hb, hml, hown, hT, hr, hlocks⟩ := id C0
  unfold fX0_valueOf at hd
  have hl : lv_has ls 2 [(0, .ref h0), (1, .int p1)] := hl
  refine lv_aload_n hx hb dX0_valueOf_0 rfl (lv_at hl 0 rfl) ?_
  refine lv_iload_n hx hb dX0_valueOf_1 rfl (lv_at hl 1 rfl) ?_
  obtain ⟨u_1, hc_2, hd⟩ := bd hd
  refine cv_i (W' := vX0 cI cJ cZ h0 h1 h2 h3 h4 v_keys v_values v_marks v_dues) (Wn := vX0 cI cJ cZ h0 h1 h2 h3 h4 v_keys v_values v_marks v_dues) (rest := []) C0 (mX0_mayHave l dC dI cI cJ cZ h0 h1 h2 h3 h4 v_keys v_values v_marks v_dues p1 hc_2 _) gv_X0_26 yd_X0_mayHave ⟨rfl, rfl, Nat.le_of_ble_eq_true rfl, Nat.le_of_ble_eq_true rfl, Nat.zero_le _, Nat.zero_le _⟩ xT_b xT_w hK hP hD hS hA 0 5 rfl hl.1 rfl (Nat.le_of_ble_eq_true rfl) dX0_valueOf_2 0 0 rfl rfl rfl (fun H locs hP hD hS => ?_)
  refine lv_if_eq (tgt := 17) hx hb dX0_valueOf_5 (by decide) (fun c_3 => ?_) (fun c_3 => ?_)
  · replace hd := i_t hd c_3
    refine lv_lconst (v := 0) hx hb dX0_valueOf_17 (by decide) ?_
    obtain rfl := Option.some.inj hd
    exact my_lret C0 hK hP hD hS dX0_valueOf_18
  · replace hd := i_e hd c_3
    refine lv_aload_n hx hb dX0_valueOf_8 rfl (lv_at hl 0 rfl) ?_
    refine va_get (D := (dC, dI)) (ci := 0) (v := .ref h2) (C := RX0) (T := TX0) (N := 4) hx hb hT inlX0 hown hK hP 0 rfl rfl 1 (by decide) (hT _ wm_4_3) (fun _ h9 => h9) rfl dX0_valueOf_9 ?_
    refine lv_iload_n hx hb dX0_valueOf_12 rfl (lv_at hl 1 rfl) ?_
    obtain ⟨g_4, hd⟩ := ix_some hd
    refine va_lald hx hb hK hP 2 1 rfl rfl g_4 dX0_valueOf_13 ?_
    refine lv_goto (tgt := 18) hx hb dX0_valueOf_14 (by decide) ?_
    obtain rfl := Option.some.inj hd
    exact my_lret C0 hK hP hD hS dX0_valueOf_18
def fX0_isMark (v_keys : Nat → Int64) (v_values : Nat → Int64) (v_marks : Nat → Int32) (v_dues : Nat → Int32) (p1 : Int32) : Option (Int32) := (fX0_mayHave v_keys v_values v_marks v_dues p1).bind (fun u_1 => if u_1 = 0 then (some (0 : Int32)) else (ix p1 300 (if (v_marks p1.toNatClampNeg) = 0 then (some (0 : Int32)) else (some (1 : Int32)))))
set_option maxHeartbeats 4000000 in
set_option maxRecDepth 100000 in
theorem mX0_isMark (l : Launch) (dC : Nat → ClassId) (dI : Nat → Nat → Nat) (cI cJ cZ : ClassId) (h0 h1 h2 h3 h4 : Nat) (v_keys : Nat → Int64) (v_values : Nat → Int64) (v_marks : Nat → Int32) (v_dues : Nat → Int32) (p1 : Int32) {r : Int32} (hd : fX0_isMark v_keys v_values v_marks v_dues p1 = some r) (sz : Nat)  : Met l yX0_isMark (wS yX0_isMark cX0_isMark 2 (some .boolean)) { frames := 1, cells := 0, slots := 0, locals := 21 } (pC (dC, dI) (kT cI cJ cZ) xT (vX0 cI cJ cZ h0 h1 h2 h3 h4 v_keys v_values v_marks v_dues) sz [.ref h0, .int p1]) (qI (dC, dI) (kT cI cJ cZ) (vX0 cI cJ cZ h0 h1 h2 h3 h4 v_keys v_values v_marks v_dues) (va_A (vX0 cI cJ cZ h0 h1 h2 h3 h4 v_keys v_values v_marks v_dues) sz) r) 0 0 (va_A (vX0 cI cJ cZ h0 h1 h2 h3 h4 v_keys v_values v_marks v_dues) sz) := by
  refine my_ent (fun A => qI (dC, dI) (kT cI cJ cZ) (vX0 cI cJ cZ h0 h1 h2 h3 h4 v_keys v_values v_marks v_dues) A r) (by decide) (Nat.le_of_ble_eq_true rfl) ?_
  intro p e s m below meth c A hAe hnm C0 hK hX hP hD hA hS ls hl
  obtain ⟨hx, hb, hml, hown, hT, hr, hlocks⟩ := id C0
  unfold fX0_isMark at hd
  have hl : lv_has ls 2 [(0, .ref h0), (1, .int p1)] := hl
  refine lv_aload_n hx hb dX0_isMark_0 rfl (lv_at hl 0 rfl) ?_
  refine lv_iload_n hx hb dX0_isMark_1 rfl (lv_at hl 1 rfl) ?_
  obtain ⟨u_1, hc_2, hd⟩ := bd hd
  refine cv_i (W' := vX0 cI cJ cZ h0 h1 h2 h3 h4 v_keys v_values v_marks v_dues) (Wn := vX0 cI cJ cZ h0 h1 h2 h3 h4 v_keys v_values v_marks v_dues) (rest := []) C0 (mX0_mayHave l dC dI cI cJ cZ h0 h1 h2 h3 h4 v_keys v_values v_marks v_dues p1 hc_2 _) gv_X0_26 yd_X0_mayHave ⟨rfl, rfl, Nat.le_of_ble_eq_true rfl, Nat.le_of_ble_eq_true rfl, Nat.zero_le _, Nat.zero_le _⟩ xT_b xT_w hK hP hD hS hA 0 5 rfl hl.1 rfl (Nat.le_of_ble_eq_true rfl) dX0_isMark_2 0 0 rfl rfl rfl (fun H locs hP hD hS => ?_)
  refine lv_if_eq (tgt := 21) hx hb dX0_isMark_5 (by decide) (fun c_3 => ?_) (fun c_3 => ?_)
  · replace hd := i_t hd c_3
    refine lv_iconst (v := 0) hx hb dX0_isMark_21 (by decide) ?_
    obtain rfl := Option.some.inj hd
    exact my_zret C0 hK hP hD hS (Or.inl rfl) dX0_isMark_22
  · replace hd := i_e hd c_3
    refine lv_aload_n hx hb dX0_isMark_8 rfl (lv_at hl 0 rfl) ?_
    refine va_get (D := (dC, dI)) (ci := 0) (v := .ref h3) (C := RX0) (T := TX0) (N := 4) hx hb hT inlX0 hown hK hP 0 rfl rfl 2 (by decide) (hT _ wm_4_5) (fun _ h9 => h9) rfl dX0_isMark_9 ?_
    refine lv_iload_n hx hb dX0_isMark_12 rfl (lv_at hl 1 rfl) ?_
    obtain ⟨g_4, hd⟩ := ix_some hd
    refine va_zald hx hb hK hP 3 2 rfl rfl g_4 dX0_isMark_13 ?_
    refine lv_if_eq (tgt := 21) hx hb dX0_isMark_14 (by decide) (fun c_5 => ?_) (fun c_5 => ?_)
    · replace hd := i_t hd c_5
      refine lv_iconst (v := 0) hx hb dX0_isMark_21 (by decide) ?_
      obtain rfl := Option.some.inj hd
      exact my_zret C0 hK hP hD hS (Or.inl rfl) dX0_isMark_22
    · replace hd := i_e hd c_5
      refine lv_iconst (v := 1) hx hb dX0_isMark_17 (by decide) ?_
      refine lv_goto (tgt := 22) hx hb dX0_isMark_18 (by decide) ?_
      obtain rfl := Option.some.inj hd
      exact my_zret C0 hK hP hD hS (Or.inr rfl) dX0_isMark_22
def fX0_dueOf (v_keys : Nat → Int64) (v_values : Nat → Int64) (v_marks : Nat → Int32) (v_dues : Nat → Int32) (p1 : Int32) : Option (Int32) := (fX0_mayHave v_keys v_values v_marks v_dues p1).bind (fun u_1 => if u_1 = 0 then (some (-1 : Int32)) else (ix p1 300 (some (v_dues p1.toNatClampNeg))))
set_option maxHeartbeats 4000000 in
set_option maxRecDepth 100000 in
theorem mX0_dueOf (l : Launch) (dC : Nat → ClassId) (dI : Nat → Nat → Nat) (cI cJ cZ : ClassId) (h0 h1 h2 h3 h4 : Nat) (v_keys : Nat → Int64) (v_values : Nat → Int64) (v_marks : Nat → Int32) (v_dues : Nat → Int32) (p1 : Int32) {r : Int32} (hd : fX0_dueOf v_keys v_values v_marks v_dues p1 = some r) (sz : Nat)  : Met l yX0_dueOf (wS yX0_dueOf cX0_dueOf 2 (some .int)) { frames := 1, cells := 0, slots := 0, locals := 21 } (pC (dC, dI) (kT cI cJ cZ) xT (vX0 cI cJ cZ h0 h1 h2 h3 h4 v_keys v_values v_marks v_dues) sz [.ref h0, .int p1]) (qI (dC, dI) (kT cI cJ cZ) (vX0 cI cJ cZ h0 h1 h2 h3 h4 v_keys v_values v_marks v_dues) (va_A (vX0 cI cJ cZ h0 h1 h2 h3 h4 v_keys v_values v_marks v_dues) sz) r) 0 0 (va_A (vX0 cI cJ cZ h0 h1 h2 h3 h4 v_keys v_values v_marks v_dues) sz) := by
  refine my_ent (fun A => qI (dC, dI) (kT cI cJ cZ) (vX0 cI cJ cZ h0 h1 h2 h3 h4 v_keys v_values v_marks v_dues) A r) (by decide) (Nat.le_of_ble_eq_true rfl) ?_
  intro p e s m below meth c A hAe hnm C0 hK hX hP hD hA hS ls hl
  obtain ⟨hx, hb, hml, hown, hT, hr, hlocks⟩ := id C0
  unfold fX0_dueOf at hd
  have hl : lv_has ls 2 [(0, .ref h0), (1, .int p1)] := hl
  refine lv_aload_n hx hb dX0_dueOf_0 rfl (lv_at hl 0 rfl) ?_
  refine lv_iload_n hx hb dX0_dueOf_1 rfl (lv_at hl 1 rfl) ?_
  obtain ⟨u_1, hc_2, hd⟩ := bd hd
  refine cv_i (W' := vX0 cI cJ cZ h0 h1 h2 h3 h4 v_keys v_values v_marks v_dues) (Wn := vX0 cI cJ cZ h0 h1 h2 h3 h4 v_keys v_values v_marks v_dues) (rest := []) C0 (mX0_mayHave l dC dI cI cJ cZ h0 h1 h2 h3 h4 v_keys v_values v_marks v_dues p1 hc_2 _) gv_X0_26 yd_X0_mayHave ⟨rfl, rfl, Nat.le_of_ble_eq_true rfl, Nat.le_of_ble_eq_true rfl, Nat.zero_le _, Nat.zero_le _⟩ xT_b xT_w hK hP hD hS hA 0 5 rfl hl.1 rfl (Nat.le_of_ble_eq_true rfl) dX0_dueOf_2 0 0 rfl rfl rfl (fun H locs hP hD hS => ?_)
  refine lv_if_eq (tgt := 17) hx hb dX0_dueOf_5 (by decide) (fun c_3 => ?_) (fun c_3 => ?_)
  · replace hd := i_t hd c_3
    refine lv_iconst (v := (-1)) hx hb dX0_dueOf_17 (by decide) ?_
    obtain rfl := Option.some.inj hd
    exact my_iret C0 hK hP hD hS dX0_dueOf_18
  · replace hd := i_e hd c_3
    refine lv_aload_n hx hb dX0_dueOf_8 rfl (lv_at hl 0 rfl) ?_
    refine va_get (D := (dC, dI)) (ci := 0) (v := .ref h4) (C := RX0) (T := TX0) (N := 4) hx hb hT inlX0 hown hK hP 0 rfl rfl 3 (by decide) (hT _ wm_4_7) (fun _ h9 => h9) rfl dX0_dueOf_9 ?_
    refine lv_iload_n hx hb dX0_dueOf_12 rfl (lv_at hl 1 rfl) ?_
    obtain ⟨g_4, hd⟩ := ix_some hd
    refine va_iald hx hb hK hP 4 0 rfl rfl g_4 dX0_dueOf_13 ?_
    refine lv_goto (tgt := 18) hx hb dX0_dueOf_14 (by decide) ?_
    obtain rfl := Option.some.inj hd
    exact my_iret C0 hK hP hD hS dX0_dueOf_18
def fX0_setDue (v_keys : Nat → Int64) (v_values : Nat → Int64) (v_marks : Nat → Int32) (v_dues : Nat → Int32) (p1 : Int32) (p2 : Int32) : Option ((Nat → Int32)) := (fX0_mayHave v_keys v_values v_marks v_dues p1).bind (fun u_1 => if u_1 = 0 then (some v_dues) else (ix p1 300 (some (upd v_dues p1.toNatClampNeg p2))))
set_option maxHeartbeats 4000000 in
set_option maxRecDepth 100000 in
theorem mX0_setDue (l : Launch) (dC : Nat → ClassId) (dI : Nat → Nat → Nat) (cI cJ cZ : ClassId) (h0 h1 h2 h3 h4 : Nat) (v_keys : Nat → Int64) (v_values : Nat → Int64) (v_marks : Nat → Int32) (v_dues : Nat → Int32) (p1 : Int32) (p2 : Int32) {r : (Nat → Int32)} (hd : fX0_setDue v_keys v_values v_marks v_dues p1 p2 = some r) (sz : Nat)  : Met l yX0_setDue (wS yX0_setDue cX0_setDue 3 none) { frames := 1, cells := 0, slots := 0, locals := 21 } (pC (dC, dI) (kT cI cJ cZ) xT (vX0 cI cJ cZ h0 h1 h2 h3 h4 v_keys v_values v_marks v_dues) sz [.ref h0, .int p1, .int p2]) (qV (dC, dI) (kT cI cJ cZ) (vX0 cI cJ cZ h0 h1 h2 h3 h4 v_keys v_values v_marks r) (va_A (vX0 cI cJ cZ h0 h1 h2 h3 h4 v_keys v_values v_marks v_dues) sz)) 0 0 (va_A (vX0 cI cJ cZ h0 h1 h2 h3 h4 v_keys v_values v_marks v_dues) sz) := by
  refine my_ent (fun A => qV (dC, dI) (kT cI cJ cZ) (vX0 cI cJ cZ h0 h1 h2 h3 h4 v_keys v_values v_marks r) A) (by decide) (Nat.le_of_ble_eq_true rfl) ?_
  intro p e s m below meth c A hAe hnm C0 hK hX hP hD hA hS ls hl
  obtain ⟨hx, hb, hml, hown, hT, hr, hlocks⟩ := id C0
  unfold fX0_setDue at hd
  have hl : lv_has ls 3 [(0, .ref h0), (1, .int p1), (2, .int p2)] := hl
  refine lv_aload_n hx hb dX0_setDue_0 rfl (lv_at hl 0 rfl) ?_
  refine lv_iload_n hx hb dX0_setDue_1 rfl (lv_at hl 1 rfl) ?_
  obtain ⟨u_1, hc_2, hd⟩ := bd hd
  refine cv_i (W' := vX0 cI cJ cZ h0 h1 h2 h3 h4 v_keys v_values v_marks v_dues) (Wn := vX0 cI cJ cZ h0 h1 h2 h3 h4 v_keys v_values v_marks v_dues) (rest := []) C0 (mX0_mayHave l dC dI cI cJ cZ h0 h1 h2 h3 h4 v_keys v_values v_marks v_dues p1 hc_2 _) gv_X0_26 yd_X0_mayHave ⟨rfl, rfl, Nat.le_of_ble_eq_true rfl, Nat.le_of_ble_eq_true rfl, Nat.zero_le _, Nat.zero_le _⟩ xT_b xT_w hK hP hD hS hA 0 5 rfl hl.1 rfl (Nat.le_of_ble_eq_true rfl) dX0_setDue_2 0 0 rfl rfl rfl (fun H locs hP hD hS => ?_)
  refine lv_if_eq (tgt := 15) hx hb dX0_setDue_5 (by decide) (fun c_3 => ?_) (fun c_3 => ?_)
  · replace hd := i_t hd c_3
    obtain rfl := Option.some.inj hd
    exact my_vret C0 hK hP hD hS dX0_setDue_15
  · replace hd := i_e hd c_3
    refine lv_aload_n hx hb dX0_setDue_8 rfl (lv_at hl 0 rfl) ?_
    refine va_get (D := (dC, dI)) (ci := 0) (v := .ref h4) (C := RX0) (T := TX0) (N := 4) hx hb hT inlX0 hown hK hP 0 rfl rfl 3 (by decide) (hT _ wm_4_7) (fun _ h9 => h9) rfl dX0_setDue_9 ?_
    refine lv_iload_n hx hb dX0_setDue_12 rfl (lv_at hl 1 rfl) ?_
    refine lv_iload_n hx hb dX0_setDue_13 rfl (lv_at hl 2 rfl) ?_
    obtain ⟨g_4, hd⟩ := ix_some hd
    refine va_iast hx hb hK hP hD hS 4 0 rfl rfl g_4 dX0_setDue_14 (fun H locs hP hD hS => ?_)
    have hP : va_P (dC, dI) vwCl (vX0 cI cJ cZ h0 h1 h2 h3 h4 v_keys v_values v_marks (upd v_dues p1.toNatClampNeg p2)) H := hP
    have hD : va_D A (vX0 cI cJ cZ h0 h1 h2 h3 h4 v_keys v_values v_marks (upd v_dues p1.toNatClampNeg p2)) := hD
    obtain rfl := Option.some.inj hd
    exact my_vret C0 hK hP hD hS dX0_setDue_15
def fX1_find_2 (n : Nat) (v_keys : Nat → Int64) (v_values : Nat → Int64) (v_ends : Nat → Int32) (v_size : Int32) (k2 : (Int64 × Int32) → Option (Int32)) (a : Int64 × Int32) : Option (Int32) := if v_size ≤ a.2 then (some (-1 : Int32)) else (ix a.2 8 (if (v_keys a.2.toNatClampNeg) = a.1 then (some a.2) else (k2 (a.1, a.2 + 1))))
set_option maxHeartbeats 4000000 in
set_option maxRecDepth 100000 in
theorem bX1_find_2 {p : Program} {l : Launch} {e : Env} {s : State} {m : MethodId} {args : Array Value} {below : List Frame} {meth : Method} {c : Code} {A : Nat → Prop} {dC : Nat → ClassId} {dI : Nat → Nat → Nat} {cI cJ cZ : ClassId} {h0 h1 h2 h3 : Nat} {r : Int32} {n : Nat} {v_keys : Nat → Int64} {v_values : Nat → Int64} {v_ends : Nat → Int32} {v_size : Int32} (C0 : cx p s m args meth c cX1_find 4 RX1 (some .int)) (hK : va_K (dC, dI) vwCl (kT cI cJ cZ) s) (hX : xT s) (hA : ∀ q : Nat, s.heap.size ≤ q → A q) (k2 : (Int64 × Int32) → Option (Int32)) (ih2 : ∀ (a : Int64 × Int32), k2 a = some r → ∀ (H : Heap) (locs : List Loc) (ls : Array Slot), va_P (dC, dI) vwCl (vX1 cI cJ cZ h0 h1 h2 h3 v_keys v_values v_ends v_size) H → va_D A (vX1 cI cJ cZ h0 h1 h2 h3 v_keys v_values v_ends v_size) → va_S A s.heap H locs → lv_has ls 4 [(0, .ref h0), (1, .long a.1), (3, .int a.2)] → W p l e ({ frames := 0, cells := 0, slots := 0, locals := 0 } : Room) s m args below meth c H locs 0 0 (MQ below (qI (dC, dI) (kT cI cJ cZ) (vX1 cI cJ cZ h0 h1 h2 h3 v_keys v_values v_ends v_size) A r) args s 0 0 A) (F0 m 2 ls [])) : ∀ (a : Int64 × Int32), fX1_find_2 n v_keys v_values v_ends v_size k2 a = some r → ∀ (H : Heap) (locs : List Loc) (ls : Array Slot), va_P (dC, dI) vwCl (vX1 cI cJ cZ h0 h1 h2 h3 v_keys v_values v_ends v_size) H → va_D A (vX1 cI cJ cZ h0 h1 h2 h3 v_keys v_values v_ends v_size) → va_S A s.heap H locs → lv_has ls 4 [(0, .ref h0), (1, .long a.1), (3, .int a.2)] → W p l e ({ frames := 0, cells := 0, slots := 0, locals := 0 } : Room) s m args below meth c H locs 0 0 (MQ below (qI (dC, dI) (kT cI cJ cZ) (vX1 cI cJ cZ h0 h1 h2 h3 v_keys v_values v_ends v_size) A r) args s 0 0 A) (F0 m 2 ls []) := by
  obtain ⟨hx, hb, hml, hown, hT, hr, hlocks⟩ := id C0
  intro a hd H locs ls hP hD hS hl
  unfold fX1_find_2 at hd
  refine lv_iload_n hx hb dX1_find_2 rfl (lv_at hl 2 rfl) ?_
  refine lv_aload_n hx hb dX1_find_3 rfl (lv_at hl 0 rfl) ?_
  refine va_get (D := (dC, dI)) (ci := 1) (v := .int v_size) (C := RX1) (T := TX1) (N := 4) hx hb hT inlX1 hown hK hP 0 rfl rfl 3 (by decide) (hT _ wm_6_0) (fun _ h9 => h9) rfl dX1_find_4 ?_
  refine lv_icmp_ge (tgt := 29) hx hb dX1_find_7 (by decide) (fun c_1 => ?_) (fun c_1 => ?_)
  · replace hd := i_t hd c_1
    refine lv_iconst (v := (-1)) hx hb dX1_find_29 (by decide) ?_
    obtain rfl := Option.some.inj hd
    exact my_iret C0 hK hP hD hS dX1_find_30
  · replace hd := i_e hd c_1
    refine lv_aload_n hx hb dX1_find_10 rfl (lv_at hl 0 rfl) ?_
    refine va_get (D := (dC, dI)) (ci := 1) (v := .ref h1) (C := RX1) (T := TX1) (N := 4) hx hb hT inlX1 hown hK hP 0 rfl rfl 0 (by decide) (hT _ wm_5_21) (fun _ h9 => h9) rfl dX1_find_11 ?_
    refine lv_iload_n hx hb dX1_find_14 rfl (lv_at hl 2 rfl) ?_
    obtain ⟨g_2, hd⟩ := ix_some hd
    refine va_lald hx hb hK hP 1 1 rfl rfl g_2 dX1_find_15 ?_
    refine lv_lload_n hx hb dX1_find_16 rfl (lv_at hl 1 rfl) ?_
    refine lc_ne (tgt := 23) hx hb dX1_find_17 dX1_find_18 (by decide) (fun c_3 => ?_) (fun c_3 => ?_)
    · replace hd := i_e hd c_3
      refine lv_iinc (v := a.2 + 1) (lv' := [(3, .int (a.2 + 1)), (0, .ref h0), (1, .long a.1)]) hx hb dX1_find_23 hl (k := 2) rfl rfl (by decide) rfl (fun ls hl => ?_)
      refine lv_goto (tgt := 2) hx hb dX1_find_26 (by decide) ?_
      exact ih2 _ hd _ _ _ hP hD hS (lv_sub hl [1, 2, 0] rfl)
    · replace hd := i_t hd c_3
      refine lv_iload_n hx hb dX1_find_21 rfl (lv_at hl 2 rfl) ?_
      obtain rfl := Option.some.inj hd
      exact my_iret C0 hK hP hD hS dX1_find_22
set_option maxHeartbeats 4000000 in
set_option maxRecDepth 100000 in
theorem oX1_find_2 {p : Program} {l : Launch} {e : Env} {s : State} {m : MethodId} {args : Array Value} {below : List Frame} {meth : Method} {c : Code} {A : Nat → Prop} {dC : Nat → ClassId} {dI : Nat → Nat → Nat} {cI cJ cZ : ClassId} {h0 h1 h2 h3 : Nat} {r : Int32} {n : Nat} {v_keys : Nat → Int64} {v_values : Nat → Int64} {v_ends : Nat → Int32} {v_size : Int32} (C0 : cx p s m args meth c cX1_find 4 RX1 (some .int)) (hK : va_K (dC, dI) vwCl (kT cI cJ cZ) s) (hX : xT s) (hA : ∀ q : Nat, s.heap.size ≤ q → A q)  : ∀ nn : Nat, ∀ (a : Int64 × Int32), loopF (fX1_find_2 n v_keys v_values v_ends v_size ) nn a = some r → ∀ (H : Heap) (locs : List Loc) (ls : Array Slot), va_P (dC, dI) vwCl (vX1 cI cJ cZ h0 h1 h2 h3 v_keys v_values v_ends v_size) H → va_D A (vX1 cI cJ cZ h0 h1 h2 h3 v_keys v_values v_ends v_size) → va_S A s.heap H locs → lv_has ls 4 [(0, .ref h0), (1, .long a.1), (3, .int a.2)] → W p l e ({ frames := 0, cells := 0, slots := 0, locals := 0 } : Room) s m args below meth c H locs 0 0 (MQ below (qI (dC, dI) (kT cI cJ cZ) (vX1 cI cJ cZ h0 h1 h2 h3 v_keys v_values v_ends v_size) A r) args s 0 0 A) (F0 m 2 ls []) := by
  intro nn
  induction nn with
  | zero => intro a hd; cases hd
  | succ nn ih => intro a hd; exact bX1_find_2 C0 hK hX hA  _ ih a hd
def fX1_find (n : Nat) (v_keys : Nat → Int64) (v_values : Nat → Int64) (v_ends : Nat → Int32) (v_size : Int32) (p1 : Int64) : Option (Int32) := loopF (fX1_find_2 n v_keys v_values v_ends v_size ) n (p1, (0 : Int32))
set_option maxHeartbeats 4000000 in
set_option maxRecDepth 100000 in
theorem mX1_find (l : Launch) (dC : Nat → ClassId) (dI : Nat → Nat → Nat) (cI cJ cZ : ClassId) (h0 h1 h2 h3 : Nat) (n : Nat) (v_keys : Nat → Int64) (v_values : Nat → Int64) (v_ends : Nat → Int32) (v_size : Int32) (p1 : Int64) {r : Int32} (hd : fX1_find n v_keys v_values v_ends v_size p1 = some r) (sz : Nat)  : Met l yX1_find (wS yX1_find cX1_find 4 (some .int)) { frames := 0, cells := 0, slots := 0, locals := 0 } (pC (dC, dI) (kT cI cJ cZ) xT (vX1 cI cJ cZ h0 h1 h2 h3 v_keys v_values v_ends v_size) sz [.ref h0, .long p1]) (qI (dC, dI) (kT cI cJ cZ) (vX1 cI cJ cZ h0 h1 h2 h3 v_keys v_values v_ends v_size) (va_A (vX1 cI cJ cZ h0 h1 h2 h3 v_keys v_values v_ends v_size) sz) r) 0 0 (va_A (vX1 cI cJ cZ h0 h1 h2 h3 v_keys v_values v_ends v_size) sz) := by
  refine my_ent (fun A => qI (dC, dI) (kT cI cJ cZ) (vX1 cI cJ cZ h0 h1 h2 h3 v_keys v_values v_ends v_size) A r) (by decide) (Nat.le_of_ble_eq_true rfl) ?_
  intro p e s m below meth c A hAe hnm C0 hK hX hP hD hA hS ls hl
  obtain ⟨hx, hb, hml, hown, hT, hr, hlocks⟩ := id C0
  unfold fX1_find at hd
  have hl : lv_has ls 4 [(0, .ref h0), (1, .long p1)] := hl
  refine lv_iconst (v := 0) hx hb dX1_find_0 (by decide) ?_
  refine lv_istore_n (lv' := [(3, .int (0 : Int32)), (0, .ref h0), (1, .long p1)]) hx hb dX1_find_1 rfl hl (by decide) rfl (fun ls hl => ?_)
  exact oX1_find_2 C0 hK hX hA  _ _ hd _ _ _ hP hD hS (lv_sub hl [1, 2, 0] rfl)
def fX1_endOf (n : Nat) (v_keys : Nat → Int64) (v_values : Nat → Int64) (v_ends : Nat → Int32) (v_size : Int32) (p1 : Int64) : Option (Int32) := (fX1_find n v_keys v_values v_ends v_size p1).bind (fun u_1 => if u_1 = (-1 : Int32) then (some (-1 : Int32)) else (ix u_1 8 (some (v_ends u_1.toNatClampNeg))))
set_option maxHeartbeats 4000000 in
set_option maxRecDepth 100000 in
theorem mX1_endOf (l : Launch) (dC : Nat → ClassId) (dI : Nat → Nat → Nat) (cI cJ cZ : ClassId) (h0 h1 h2 h3 : Nat) (n : Nat) (v_keys : Nat → Int64) (v_values : Nat → Int64) (v_ends : Nat → Int32) (v_size : Int32) (p1 : Int64) {r : Int32} (hd : fX1_endOf n v_keys v_values v_ends v_size p1 = some r) (sz : Nat)  : Met l yX1_endOf (wS yX1_endOf cX1_endOf 4 (some .int)) { frames := 1, cells := 0, slots := 0, locals := 23 } (pC (dC, dI) (kT cI cJ cZ) xT (vX1 cI cJ cZ h0 h1 h2 h3 v_keys v_values v_ends v_size) sz [.ref h0, .long p1]) (qI (dC, dI) (kT cI cJ cZ) (vX1 cI cJ cZ h0 h1 h2 h3 v_keys v_values v_ends v_size) (va_A (vX1 cI cJ cZ h0 h1 h2 h3 v_keys v_values v_ends v_size) sz) r) 0 0 (va_A (vX1 cI cJ cZ h0 h1 h2 h3 v_keys v_values v_ends v_size) sz) := by
  refine my_ent (fun A => qI (dC, dI) (kT cI cJ cZ) (vX1 cI cJ cZ h0 h1 h2 h3 v_keys v_values v_ends v_size) A r) (by decide) (Nat.le_of_ble_eq_true rfl) ?_
  intro p e s m below meth c A hAe hnm C0 hK hX hP hD hA hS ls hl
  obtain ⟨hx, hb, hml, hown, hT, hr, hlocks⟩ := id C0
  unfold fX1_endOf at hd
  have hl : lv_has ls 4 [(0, .ref h0), (1, .long p1)] := hl
  refine lv_aload_n hx hb dX1_endOf_0 rfl (lv_at hl 0 rfl) ?_
  refine lv_lload_n hx hb dX1_endOf_1 rfl (lv_at hl 1 rfl) ?_
  obtain ⟨u_1, hc_2, hd⟩ := bd hd
  refine cv_i (W' := vX1 cI cJ cZ h0 h1 h2 h3 v_keys v_values v_ends v_size) (Wn := vX1 cI cJ cZ h0 h1 h2 h3 v_keys v_values v_ends v_size) (rest := []) C0 (mX1_find l dC dI cI cJ cZ h0 h1 h2 h3 n v_keys v_values v_ends v_size p1 hc_2 _) gv_X1_26 yd_X1_find ⟨rfl, rfl, Nat.le_of_ble_eq_true rfl, Nat.le_of_ble_eq_true rfl, Nat.zero_le _, Nat.zero_le _⟩ xT_b xT_w hK hP hD hS hA 0 4 rfl hl.1 rfl (Nat.le_of_ble_eq_true rfl) dX1_endOf_2 1 0 rfl rfl rfl (fun H locs hP hD hS => ?_)
  refine lv_istore_n (lv' := [(3, .int u_1), (0, .ref h0), (1, .long p1)]) hx hb dX1_endOf_5 rfl hl (by decide) rfl (fun ls hl => ?_)
  refine lv_iload_n hx hb dX1_endOf_6 rfl (lv_at hl 0 rfl) ?_
  refine lv_iconst (v := (-1)) hx hb dX1_endOf_7 (by decide) ?_
  refine lv_icmp_ne (tgt := 15) hx hb dX1_endOf_8 (by decide) (fun c_3 => ?_) (fun c_3 => ?_)
  · replace hd := i_e hd c_3
    refine lv_aload_n hx hb dX1_endOf_15 rfl (lv_at hl 1 rfl) ?_
    refine va_get (D := (dC, dI)) (ci := 1) (v := .ref h3) (C := RX1) (T := TX1) (N := 4) hx hb hT inlX1 hown hK hP 0 rfl rfl 2 (by decide) (hT _ wm_5_23) (fun _ h9 => h9) rfl dX1_endOf_16 ?_
    refine lv_iload_n hx hb dX1_endOf_19 rfl (lv_at hl 0 rfl) ?_
    obtain ⟨g_4, hd⟩ := ix_some hd
    refine va_iald hx hb hK hP 3 0 rfl rfl g_4 dX1_endOf_20 ?_
    obtain rfl := Option.some.inj hd
    exact my_iret C0 hK hP hD hS dX1_endOf_21
  · replace hd := i_t hd c_3
    refine lv_iconst (v := (-1)) hx hb dX1_endOf_11 (by decide) ?_
    refine lv_goto (tgt := 21) hx hb dX1_endOf_12 (by decide) ?_
    obtain rfl := Option.some.inj hd
    exact my_iret C0 hK hP hD hS dX1_endOf_21
def fX1_valueOf (n : Nat) (v_keys : Nat → Int64) (v_values : Nat → Int64) (v_ends : Nat → Int32) (v_size : Int32) (p1 : Int64) : Option (Int64) := (fX1_find n v_keys v_values v_ends v_size p1).bind (fun u_1 => if u_1 = (-1 : Int32) then (some (0 : Int64)) else (ix u_1 8 (some (v_values u_1.toNatClampNeg))))
set_option maxHeartbeats 4000000 in
set_option maxRecDepth 100000 in
theorem mX1_valueOf (l : Launch) (dC : Nat → ClassId) (dI : Nat → Nat → Nat) (cI cJ cZ : ClassId) (h0 h1 h2 h3 : Nat) (n : Nat) (v_keys : Nat → Int64) (v_values : Nat → Int64) (v_ends : Nat → Int32) (v_size : Int32) (p1 : Int64) {r : Int64} (hd : fX1_valueOf n v_keys v_values v_ends v_size p1 = some r) (sz : Nat)  : Met l yX1_valueOf (wS yX1_valueOf cX1_valueOf 4 (some .long)) { frames := 1, cells := 0, slots := 0, locals := 23 } (pC (dC, dI) (kT cI cJ cZ) xT (vX1 cI cJ cZ h0 h1 h2 h3 v_keys v_values v_ends v_size) sz [.ref h0, .long p1]) (qL (dC, dI) (kT cI cJ cZ) (vX1 cI cJ cZ h0 h1 h2 h3 v_keys v_values v_ends v_size) (va_A (vX1 cI cJ cZ h0 h1 h2 h3 v_keys v_values v_ends v_size) sz) r) 0 0 (va_A (vX1 cI cJ cZ h0 h1 h2 h3 v_keys v_values v_ends v_size) sz) := by
  refine my_ent (fun A => qL (dC, dI) (kT cI cJ cZ) (vX1 cI cJ cZ h0 h1 h2 h3 v_keys v_values v_ends v_size) A r) (by decide) (Nat.le_of_ble_eq_true rfl) ?_
  intro p e s m below meth c A hAe hnm C0 hK hX hP hD hA hS ls hl
  obtain ⟨hx, hb, hml, hown, hT, hr, hlocks⟩ := id C0
  unfold fX1_valueOf at hd
  have hl : lv_has ls 4 [(0, .ref h0), (1, .long p1)] := hl
  refine lv_aload_n hx hb dX1_valueOf_0 rfl (lv_at hl 0 rfl) ?_
  refine lv_lload_n hx hb dX1_valueOf_1 rfl (lv_at hl 1 rfl) ?_
  obtain ⟨u_1, hc_2, hd⟩ := bd hd
  refine cv_i (W' := vX1 cI cJ cZ h0 h1 h2 h3 v_keys v_values v_ends v_size) (Wn := vX1 cI cJ cZ h0 h1 h2 h3 v_keys v_values v_ends v_size) (rest := []) C0 (mX1_find l dC dI cI cJ cZ h0 h1 h2 h3 n v_keys v_values v_ends v_size p1 hc_2 _) gv_X1_26 yd_X1_find ⟨rfl, rfl, Nat.le_of_ble_eq_true rfl, Nat.le_of_ble_eq_true rfl, Nat.zero_le _, Nat.zero_le _⟩ xT_b xT_w hK hP hD hS hA 0 4 rfl hl.1 rfl (Nat.le_of_ble_eq_true rfl) dX1_valueOf_2 1 0 rfl rfl rfl (fun H locs hP hD hS => ?_)
  refine lv_istore_n (lv' := [(3, .int u_1), (0, .ref h0), (1, .long p1)]) hx hb dX1_valueOf_5 rfl hl (by decide) rfl (fun ls hl => ?_)
  refine lv_iload_n hx hb dX1_valueOf_6 rfl (lv_at hl 0 rfl) ?_
  refine lv_iconst (v := (-1)) hx hb dX1_valueOf_7 (by decide) ?_
  refine lv_icmp_ne (tgt := 15) hx hb dX1_valueOf_8 (by decide) (fun c_3 => ?_) (fun c_3 => ?_)
  · replace hd := i_e hd c_3
    refine lv_aload_n hx hb dX1_valueOf_15 rfl (lv_at hl 1 rfl) ?_
    refine va_get (D := (dC, dI)) (ci := 1) (v := .ref h2) (C := RX1) (T := TX1) (N := 4) hx hb hT inlX1 hown hK hP 0 rfl rfl 1 (by decide) (hT _ wm_5_22) (fun _ h9 => h9) rfl dX1_valueOf_16 ?_
    refine lv_iload_n hx hb dX1_valueOf_19 rfl (lv_at hl 0 rfl) ?_
    obtain ⟨g_4, hd⟩ := ix_some hd
    refine va_lald hx hb hK hP 2 1 rfl rfl g_4 dX1_valueOf_20 ?_
    obtain rfl := Option.some.inj hd
    exact my_lret C0 hK hP hD hS dX1_valueOf_21
  · replace hd := i_t hd c_3
    refine lv_lconst (v := 0) hx hb dX1_valueOf_11 (by decide) ?_
    refine lv_goto (tgt := 21) hx hb dX1_valueOf_12 (by decide) ?_
    obtain rfl := Option.some.inj hd
    exact my_lret C0 hK hP hD hS dX1_valueOf_21
def fX1_firstToGo_70 (n : Nat) (v_keys : Nat → Int64) (v_values : Nat → Int64) (v_ends : Nat → Int32) (v_size : Int32) (k4 : (Int32 × Int32) → Option (Int32)) (a : Int32 × Int32) : Option (Int32) := k4 (a.1, a.2 + 1)
set_option maxHeartbeats 4000000 in
set_option maxRecDepth 100000 in
theorem bX1_firstToGo_70 {p : Program} {l : Launch} {e : Env} {s : State} {m : MethodId} {args : Array Value} {below : List Frame} {meth : Method} {c : Code} {A : Nat → Prop} {dC : Nat → ClassId} {dI : Nat → Nat → Nat} {cI cJ cZ : ClassId} {h0 h1 h2 h3 : Nat} {r : Int32} {n : Nat} {v_keys : Nat → Int64} {v_values : Nat → Int64} {v_ends : Nat → Int32} {v_size : Int32} (C0 : cx p s m args meth c cX1_firstToGo 4 RX1 (some .int)) (hK : va_K (dC, dI) vwCl (kT cI cJ cZ) s) (hX : xT s) (hA : ∀ q : Nat, s.heap.size ≤ q → A q) (k4 : (Int32 × Int32) → Option (Int32)) (ih4 : ∀ (a : Int32 × Int32), k4 a = some r → ∀ (H : Heap) (locs : List Loc) (ls : Array Slot), va_P (dC, dI) vwCl (vX1 cI cJ cZ h0 h1 h2 h3 v_keys v_values v_ends v_size) H → va_D A (vX1 cI cJ cZ h0 h1 h2 h3 v_keys v_values v_ends v_size) → va_S A s.heap H locs → lv_has ls 4 [(0, .ref h0), (1, .int a.1), (2, .int a.2)] → W p l e ({ frames := 0, cells := 0, slots := 0, locals := 0 } : Room) s m args below meth c H locs 0 0 (MQ below (qI (dC, dI) (kT cI cJ cZ) (vX1 cI cJ cZ h0 h1 h2 h3 v_keys v_values v_ends v_size) A r) args s 0 0 A) (F0 m 4 ls [])) : ∀ (a : Int32 × Int32), fX1_firstToGo_70 n v_keys v_values v_ends v_size k4 a = some r → ∀ (H : Heap) (locs : List Loc) (ls : Array Slot), va_P (dC, dI) vwCl (vX1 cI cJ cZ h0 h1 h2 h3 v_keys v_values v_ends v_size) H → va_D A (vX1 cI cJ cZ h0 h1 h2 h3 v_keys v_values v_ends v_size) → va_S A s.heap H locs → lv_has ls 4 [(0, .ref h0), (1, .int a.1), (2, .int a.2)] → W p l e ({ frames := 0, cells := 0, slots := 0, locals := 0 } : Room) s m args below meth c H locs 0 0 (MQ below (qI (dC, dI) (kT cI cJ cZ) (vX1 cI cJ cZ h0 h1 h2 h3 v_keys v_values v_ends v_size) A r) args s 0 0 A) (F0 m 70 ls []) := by
  obtain ⟨hx, hb, hml, hown, hT, hr, hlocks⟩ := id C0
  intro a hd H locs ls hP hD hS hl
  unfold fX1_firstToGo_70 at hd
  refine lv_iinc (v := a.2 + 1) (lv' := [(2, .int (a.2 + 1)), (0, .ref h0), (1, .int a.1)]) hx hb dX1_firstToGo_70 hl (k := 2) rfl rfl (by decide) rfl (fun ls hl => ?_)
  refine lv_goto (tgt := 4) hx hb dX1_firstToGo_73 (by decide) ?_
  exact ih4 _ hd _ _ _ hP hD hS (lv_sub hl [1, 2, 0] rfl)
def fX1_firstToGo_68 (n : Nat) (v_keys : Nat → Int64) (v_values : Nat → Int64) (v_ends : Nat → Int32) (v_size : Int32) (k4 : (Int32 × Int32) → Option (Int32)) (a : Int32) : Option (Int32) := fX1_firstToGo_70 n v_keys v_values v_ends v_size k4 (a, a)
set_option maxHeartbeats 4000000 in
set_option maxRecDepth 100000 in
theorem bX1_firstToGo_68 {p : Program} {l : Launch} {e : Env} {s : State} {m : MethodId} {args : Array Value} {below : List Frame} {meth : Method} {c : Code} {A : Nat → Prop} {dC : Nat → ClassId} {dI : Nat → Nat → Nat} {cI cJ cZ : ClassId} {h0 h1 h2 h3 : Nat} {r : Int32} {n : Nat} {v_keys : Nat → Int64} {v_values : Nat → Int64} {v_ends : Nat → Int32} {v_size : Int32} (C0 : cx p s m args meth c cX1_firstToGo 4 RX1 (some .int)) (hK : va_K (dC, dI) vwCl (kT cI cJ cZ) s) (hX : xT s) (hA : ∀ q : Nat, s.heap.size ≤ q → A q) (k4 : (Int32 × Int32) → Option (Int32)) (ih4 : ∀ (a : Int32 × Int32), k4 a = some r → ∀ (H : Heap) (locs : List Loc) (ls : Array Slot), va_P (dC, dI) vwCl (vX1 cI cJ cZ h0 h1 h2 h3 v_keys v_values v_ends v_size) H → va_D A (vX1 cI cJ cZ h0 h1 h2 h3 v_keys v_values v_ends v_size) → va_S A s.heap H locs → lv_has ls 4 [(0, .ref h0), (1, .int a.1), (2, .int a.2)] → W p l e ({ frames := 0, cells := 0, slots := 0, locals := 0 } : Room) s m args below meth c H locs 0 0 (MQ below (qI (dC, dI) (kT cI cJ cZ) (vX1 cI cJ cZ h0 h1 h2 h3 v_keys v_values v_ends v_size) A r) args s 0 0 A) (F0 m 4 ls [])) : ∀ (a : Int32), fX1_firstToGo_68 n v_keys v_values v_ends v_size k4 a = some r → ∀ (H : Heap) (locs : List Loc) (ls : Array Slot), va_P (dC, dI) vwCl (vX1 cI cJ cZ h0 h1 h2 h3 v_keys v_values v_ends v_size) H → va_D A (vX1 cI cJ cZ h0 h1 h2 h3 v_keys v_values v_ends v_size) → va_S A s.heap H locs → lv_has ls 4 [(0, .ref h0), (2, .int a)] → W p l e ({ frames := 0, cells := 0, slots := 0, locals := 0 } : Room) s m args below meth c H locs 0 0 (MQ below (qI (dC, dI) (kT cI cJ cZ) (vX1 cI cJ cZ h0 h1 h2 h3 v_keys v_values v_ends v_size) A r) args s 0 0 A) (F0 m 68 ls []) := by
  obtain ⟨hx, hb, hml, hown, hT, hr, hlocks⟩ := id C0
  intro a hd H locs ls hP hD hS hl
  unfold fX1_firstToGo_68 at hd
  refine lv_iload_n hx hb dX1_firstToGo_68 rfl (lv_at hl 1 rfl) ?_
  refine lv_istore_n (lv' := [(1, .int a), (0, .ref h0), (2, .int a)]) hx hb dX1_firstToGo_69 rfl hl (by decide) rfl (fun ls hl => ?_)
  exact bX1_firstToGo_70 C0 hK hX hA k4 ih4 _ hd _ _ _ hP hD hS (lv_sub hl [1, 0, 2] rfl)
def fX1_firstToGo_32 (n : Nat) (v_keys : Nat → Int64) (v_values : Nat → Int64) (v_ends : Nat → Int32) (v_size : Int32) (k4 : (Int32 × Int32) → Option (Int32)) (a : Int32 × Int32 × Int32) : Option (Int32) := if a.2.2 = 0 then (ix a.2.1 8 (ix a.1 8 (if (v_ends a.2.1.toNatClampNeg) = (v_ends a.1.toNatClampNeg) then (ix a.2.1 8 (ix a.1 8 (if (v_keys a.1.toNatClampNeg) ≤ (v_keys a.2.1.toNatClampNeg) then (fX1_firstToGo_70 n v_keys v_values v_ends v_size k4 (a.1, a.2.1)) else (fX1_firstToGo_68 n v_keys v_values v_ends v_size k4 a.2.1)))) else (fX1_firstToGo_70 n v_keys v_values v_ends v_size k4 (a.1, a.2.1))))) else (fX1_firstToGo_68 n v_keys v_values v_ends v_size k4 a.2.1)
set_option maxHeartbeats 4000000 in
set_option maxRecDepth 100000 in
theorem bX1_firstToGo_32 {p : Program} {l : Launch} {e : Env} {s : State} {m : MethodId} {args : Array Value} {below : List Frame} {meth : Method} {c : Code} {A : Nat → Prop} {dC : Nat → ClassId} {dI : Nat → Nat → Nat} {cI cJ cZ : ClassId} {h0 h1 h2 h3 : Nat} {r : Int32} {n : Nat} {v_keys : Nat → Int64} {v_values : Nat → Int64} {v_ends : Nat → Int32} {v_size : Int32} (C0 : cx p s m args meth c cX1_firstToGo 4 RX1 (some .int)) (hK : va_K (dC, dI) vwCl (kT cI cJ cZ) s) (hX : xT s) (hA : ∀ q : Nat, s.heap.size ≤ q → A q) (k4 : (Int32 × Int32) → Option (Int32)) (ih4 : ∀ (a : Int32 × Int32), k4 a = some r → ∀ (H : Heap) (locs : List Loc) (ls : Array Slot), va_P (dC, dI) vwCl (vX1 cI cJ cZ h0 h1 h2 h3 v_keys v_values v_ends v_size) H → va_D A (vX1 cI cJ cZ h0 h1 h2 h3 v_keys v_values v_ends v_size) → va_S A s.heap H locs → lv_has ls 4 [(0, .ref h0), (1, .int a.1), (2, .int a.2)] → W p l e ({ frames := 0, cells := 0, slots := 0, locals := 0 } : Room) s m args below meth c H locs 0 0 (MQ below (qI (dC, dI) (kT cI cJ cZ) (vX1 cI cJ cZ h0 h1 h2 h3 v_keys v_values v_ends v_size) A r) args s 0 0 A) (F0 m 4 ls [])) : ∀ (a : Int32 × Int32 × Int32), fX1_firstToGo_32 n v_keys v_values v_ends v_size k4 a = some r → ∀ (H : Heap) (locs : List Loc) (ls : Array Slot), va_P (dC, dI) vwCl (vX1 cI cJ cZ h0 h1 h2 h3 v_keys v_values v_ends v_size) H → va_D A (vX1 cI cJ cZ h0 h1 h2 h3 v_keys v_values v_ends v_size) → va_S A s.heap H locs → lv_has ls 4 [(0, .ref h0), (1, .int a.1), (2, .int a.2.1)] → W p l e ({ frames := 0, cells := 0, slots := 0, locals := 0 } : Room) s m args below meth c H locs 0 0 (MQ below (qI (dC, dI) (kT cI cJ cZ) (vX1 cI cJ cZ h0 h1 h2 h3 v_keys v_values v_ends v_size) A r) args s 0 0 A) (F0 m 32 ls [.int a.2.2]) := by
  obtain ⟨hx, hb, hml, hown, hT, hr, hlocks⟩ := id C0
  intro a hd H locs ls hP hD hS hl
  unfold fX1_firstToGo_32 at hd
  refine lv_istore_n (lv' := [(3, .int a.2.2), (0, .ref h0), (1, .int a.1), (2, .int a.2.1)]) hx hb dX1_firstToGo_32 rfl hl (by decide) rfl (fun ls hl => ?_)
  refine lv_iload_n hx hb dX1_firstToGo_33 rfl (lv_at hl 0 rfl) ?_
  refine lv_if_ne (tgt := 68) hx hb dX1_firstToGo_34 (by decide) (fun c_5 => ?_) (fun c_5 => ?_)
  · replace hd := i_e hd c_5
    exact bX1_firstToGo_68 C0 hK hX hA k4 ih4 _ hd _ _ _ hP hD hS (lv_sub hl [1, 3] rfl)
  · replace hd := i_t hd c_5
    refine lv_aload_n hx hb dX1_firstToGo_37 rfl (lv_at hl 1 rfl) ?_
    refine va_get (D := (dC, dI)) (ci := 1) (v := .ref h3) (C := RX1) (T := TX1) (N := 4) hx hb hT inlX1 hown hK hP 0 rfl rfl 2 (by decide) (hT _ wm_5_23) (fun _ h9 => h9) rfl dX1_firstToGo_38 ?_
    refine lv_iload_n hx hb dX1_firstToGo_41 rfl (lv_at hl 3 rfl) ?_
    obtain ⟨g_6, hd⟩ := ix_some hd
    refine va_iald hx hb hK hP 3 0 rfl rfl g_6 dX1_firstToGo_42 ?_
    refine lv_aload_n hx hb dX1_firstToGo_43 rfl (lv_at hl 1 rfl) ?_
    refine va_get (D := (dC, dI)) (ci := 1) (v := .ref h3) (C := RX1) (T := TX1) (N := 4) hx hb hT inlX1 hown hK hP 0 rfl rfl 2 (by decide) (hT _ wm_5_23) (fun _ h9 => h9) rfl dX1_firstToGo_44 ?_
    refine lv_iload_n hx hb dX1_firstToGo_47 rfl (lv_at hl 2 rfl) ?_
    obtain ⟨g_7, hd⟩ := ix_some hd
    refine va_iald hx hb hK hP 3 0 rfl rfl g_7 dX1_firstToGo_48 ?_
    refine lv_icmp_ne (tgt := 70) hx hb dX1_firstToGo_49 (by decide) (fun c_8 => ?_) (fun c_8 => ?_)
    · replace hd := i_e hd c_8
      exact bX1_firstToGo_70 C0 hK hX hA k4 ih4 _ hd _ _ _ hP hD hS (lv_sub hl [1, 2, 3] rfl)
    · replace hd := i_t hd c_8
      refine lv_aload_n hx hb dX1_firstToGo_52 rfl (lv_at hl 1 rfl) ?_
      refine va_get (D := (dC, dI)) (ci := 1) (v := .ref h1) (C := RX1) (T := TX1) (N := 4) hx hb hT inlX1 hown hK hP 0 rfl rfl 0 (by decide) (hT _ wm_5_21) (fun _ h9 => h9) rfl dX1_firstToGo_53 ?_
      refine lv_iload_n hx hb dX1_firstToGo_56 rfl (lv_at hl 3 rfl) ?_
      obtain ⟨g_9, hd⟩ := ix_some hd
      refine va_lald hx hb hK hP 1 1 rfl rfl g_9 dX1_firstToGo_57 ?_
      refine lv_aload_n hx hb dX1_firstToGo_58 rfl (lv_at hl 1 rfl) ?_
      refine va_get (D := (dC, dI)) (ci := 1) (v := .ref h1) (C := RX1) (T := TX1) (N := 4) hx hb hT inlX1 hown hK hP 0 rfl rfl 0 (by decide) (hT _ wm_5_21) (fun _ h9 => h9) rfl dX1_firstToGo_59 ?_
      refine lv_iload_n hx hb dX1_firstToGo_62 rfl (lv_at hl 2 rfl) ?_
      obtain ⟨g_10, hd⟩ := ix_some hd
      refine va_lald hx hb hK hP 1 1 rfl rfl g_10 dX1_firstToGo_63 ?_
      refine lc_ge (tgt := 70) hx hb dX1_firstToGo_64 dX1_firstToGo_65 (by decide) (fun c_11 => ?_) (fun c_11 => ?_)
      · replace hd := i_t hd c_11
        exact bX1_firstToGo_70 C0 hK hX hA k4 ih4 _ hd _ _ _ hP hD hS (lv_sub hl [1, 2, 3] rfl)
      · replace hd := i_e hd c_11
        exact bX1_firstToGo_68 C0 hK hX hA k4 ih4 _ hd _ _ _ hP hD hS (lv_sub hl [1, 3] rfl)
def fX1_firstToGo_4 (n : Nat) (v_keys : Nat → Int64) (v_values : Nat → Int64) (v_ends : Nat → Int32) (v_size : Int32) (k4 : (Int32 × Int32) → Option (Int32)) (a : Int32 × Int32) : Option (Int32) := if v_size ≤ a.2 then (some a.1) else (ix a.2 8 (ix a.1 8 (if (v_ends a.1.toNatClampNeg) ≤ (v_ends a.2.toNatClampNeg) then (fX1_firstToGo_32 n v_keys v_values v_ends v_size k4 (a.1, a.2, (0 : Int32))) else (fX1_firstToGo_32 n v_keys v_values v_ends v_size k4 (a.1, a.2, (1 : Int32))))))
set_option maxHeartbeats 4000000 in
set_option maxRecDepth 100000 in
theorem bX1_firstToGo_4 {p : Program} {l : Launch} {e : Env} {s : State} {m : MethodId} {args : Array Value} {below : List Frame} {meth : Method} {c : Code} {A : Nat → Prop} {dC : Nat → ClassId} {dI : Nat → Nat → Nat} {cI cJ cZ : ClassId} {h0 h1 h2 h3 : Nat} {r : Int32} {n : Nat} {v_keys : Nat → Int64} {v_values : Nat → Int64} {v_ends : Nat → Int32} {v_size : Int32} (C0 : cx p s m args meth c cX1_firstToGo 4 RX1 (some .int)) (hK : va_K (dC, dI) vwCl (kT cI cJ cZ) s) (hX : xT s) (hA : ∀ q : Nat, s.heap.size ≤ q → A q) (k4 : (Int32 × Int32) → Option (Int32)) (ih4 : ∀ (a : Int32 × Int32), k4 a = some r → ∀ (H : Heap) (locs : List Loc) (ls : Array Slot), va_P (dC, dI) vwCl (vX1 cI cJ cZ h0 h1 h2 h3 v_keys v_values v_ends v_size) H → va_D A (vX1 cI cJ cZ h0 h1 h2 h3 v_keys v_values v_ends v_size) → va_S A s.heap H locs → lv_has ls 4 [(0, .ref h0), (1, .int a.1), (2, .int a.2)] → W p l e ({ frames := 0, cells := 0, slots := 0, locals := 0 } : Room) s m args below meth c H locs 0 0 (MQ below (qI (dC, dI) (kT cI cJ cZ) (vX1 cI cJ cZ h0 h1 h2 h3 v_keys v_values v_ends v_size) A r) args s 0 0 A) (F0 m 4 ls [])) : ∀ (a : Int32 × Int32), fX1_firstToGo_4 n v_keys v_values v_ends v_size k4 a = some r → ∀ (H : Heap) (locs : List Loc) (ls : Array Slot), va_P (dC, dI) vwCl (vX1 cI cJ cZ h0 h1 h2 h3 v_keys v_values v_ends v_size) H → va_D A (vX1 cI cJ cZ h0 h1 h2 h3 v_keys v_values v_ends v_size) → va_S A s.heap H locs → lv_has ls 4 [(0, .ref h0), (1, .int a.1), (2, .int a.2)] → W p l e ({ frames := 0, cells := 0, slots := 0, locals := 0 } : Room) s m args below meth c H locs 0 0 (MQ below (qI (dC, dI) (kT cI cJ cZ) (vX1 cI cJ cZ h0 h1 h2 h3 v_keys v_values v_ends v_size) A r) args s 0 0 A) (F0 m 4 ls []) := by
  obtain ⟨hx, hb, hml, hown, hT, hr, hlocks⟩ := id C0
  intro a hd H locs ls hP hD hS hl
  unfold fX1_firstToGo_4 at hd
  refine lv_iload_n hx hb dX1_firstToGo_4 rfl (lv_at hl 2 rfl) ?_
  refine lv_aload_n hx hb dX1_firstToGo_5 rfl (lv_at hl 0 rfl) ?_
  refine va_get (D := (dC, dI)) (ci := 1) (v := .int v_size) (C := RX1) (T := TX1) (N := 4) hx hb hT inlX1 hown hK hP 0 rfl rfl 3 (by decide) (hT _ wm_6_0) (fun _ h9 => h9) rfl dX1_firstToGo_6 ?_
  refine lv_icmp_ge (tgt := 76) hx hb dX1_firstToGo_9 (by decide) (fun c_1 => ?_) (fun c_1 => ?_)
  · replace hd := i_t hd c_1
    refine lv_iload_n hx hb dX1_firstToGo_76 rfl (lv_at hl 1 rfl) ?_
    obtain rfl := Option.some.inj hd
    exact my_iret C0 hK hP hD hS dX1_firstToGo_77
  · replace hd := i_e hd c_1
    refine lv_aload_n hx hb dX1_firstToGo_12 rfl (lv_at hl 0 rfl) ?_
    refine va_get (D := (dC, dI)) (ci := 1) (v := .ref h3) (C := RX1) (T := TX1) (N := 4) hx hb hT inlX1 hown hK hP 0 rfl rfl 2 (by decide) (hT _ wm_5_23) (fun _ h9 => h9) rfl dX1_firstToGo_13 ?_
    refine lv_iload_n hx hb dX1_firstToGo_16 rfl (lv_at hl 2 rfl) ?_
    obtain ⟨g_2, hd⟩ := ix_some hd
    refine va_iald hx hb hK hP 3 0 rfl rfl g_2 dX1_firstToGo_17 ?_
    refine lv_aload_n hx hb dX1_firstToGo_18 rfl (lv_at hl 0 rfl) ?_
    refine va_get (D := (dC, dI)) (ci := 1) (v := .ref h3) (C := RX1) (T := TX1) (N := 4) hx hb hT inlX1 hown hK hP 0 rfl rfl 2 (by decide) (hT _ wm_5_23) (fun _ h9 => h9) rfl dX1_firstToGo_19 ?_
    refine lv_iload_n hx hb dX1_firstToGo_22 rfl (lv_at hl 1 rfl) ?_
    obtain ⟨g_3, hd⟩ := ix_some hd
    refine va_iald hx hb hK hP 3 0 rfl rfl g_3 dX1_firstToGo_23 ?_
    refine lv_icmp_ge (tgt := 31) hx hb dX1_firstToGo_24 (by decide) (fun c_4 => ?_) (fun c_4 => ?_)
    · replace hd := i_t hd c_4
      refine lv_iconst (v := 0) hx hb dX1_firstToGo_31 (by decide) ?_
      exact bX1_firstToGo_32 C0 hK hX hA k4 ih4 _ hd _ _ _ hP hD hS (lv_sub hl [0, 1, 2] rfl)
    · replace hd := i_e hd c_4
      refine lv_iconst (v := 1) hx hb dX1_firstToGo_27 (by decide) ?_
      refine lv_goto (tgt := 32) hx hb dX1_firstToGo_28 (by decide) ?_
      exact bX1_firstToGo_32 C0 hK hX hA k4 ih4 _ hd _ _ _ hP hD hS (lv_sub hl [0, 1, 2] rfl)
set_option maxHeartbeats 4000000 in
set_option maxRecDepth 100000 in
theorem oX1_firstToGo_4 {p : Program} {l : Launch} {e : Env} {s : State} {m : MethodId} {args : Array Value} {below : List Frame} {meth : Method} {c : Code} {A : Nat → Prop} {dC : Nat → ClassId} {dI : Nat → Nat → Nat} {cI cJ cZ : ClassId} {h0 h1 h2 h3 : Nat} {r : Int32} {n : Nat} {v_keys : Nat → Int64} {v_values : Nat → Int64} {v_ends : Nat → Int32} {v_size : Int32} (C0 : cx p s m args meth c cX1_firstToGo 4 RX1 (some .int)) (hK : va_K (dC, dI) vwCl (kT cI cJ cZ) s) (hX : xT s) (hA : ∀ q : Nat, s.heap.size ≤ q → A q)  : ∀ nn : Nat, ∀ (a : Int32 × Int32), loopF (fX1_firstToGo_4 n v_keys v_values v_ends v_size ) nn a = some r → ∀ (H : Heap) (locs : List Loc) (ls : Array Slot), va_P (dC, dI) vwCl (vX1 cI cJ cZ h0 h1 h2 h3 v_keys v_values v_ends v_size) H → va_D A (vX1 cI cJ cZ h0 h1 h2 h3 v_keys v_values v_ends v_size) → va_S A s.heap H locs → lv_has ls 4 [(0, .ref h0), (1, .int a.1), (2, .int a.2)] → W p l e ({ frames := 0, cells := 0, slots := 0, locals := 0 } : Room) s m args below meth c H locs 0 0 (MQ below (qI (dC, dI) (kT cI cJ cZ) (vX1 cI cJ cZ h0 h1 h2 h3 v_keys v_values v_ends v_size) A r) args s 0 0 A) (F0 m 4 ls []) := by
  intro nn
  induction nn with
  | zero => intro a hd; cases hd
  | succ nn ih => intro a hd; exact bX1_firstToGo_4 C0 hK hX hA  _ ih a hd
def fX1_firstToGo (n : Nat) (v_keys : Nat → Int64) (v_values : Nat → Int64) (v_ends : Nat → Int32) (v_size : Int32)  : Option (Int32) := loopF (fX1_firstToGo_4 n v_keys v_values v_ends v_size ) n ((0 : Int32), (1 : Int32))
set_option maxHeartbeats 4000000 in
set_option maxRecDepth 100000 in
theorem mX1_firstToGo (l : Launch) (dC : Nat → ClassId) (dI : Nat → Nat → Nat) (cI cJ cZ : ClassId) (h0 h1 h2 h3 : Nat) (n : Nat) (v_keys : Nat → Int64) (v_values : Nat → Int64) (v_ends : Nat → Int32) (v_size : Int32)  {r : Int32} (hd : fX1_firstToGo n v_keys v_values v_ends v_size  = some r) (sz : Nat)  : Met l yX1_firstToGo (wS yX1_firstToGo cX1_firstToGo 4 (some .int)) { frames := 0, cells := 0, slots := 0, locals := 0 } (pC (dC, dI) (kT cI cJ cZ) xT (vX1 cI cJ cZ h0 h1 h2 h3 v_keys v_values v_ends v_size) sz [.ref h0]) (qI (dC, dI) (kT cI cJ cZ) (vX1 cI cJ cZ h0 h1 h2 h3 v_keys v_values v_ends v_size) (va_A (vX1 cI cJ cZ h0 h1 h2 h3 v_keys v_values v_ends v_size) sz) r) 0 0 (va_A (vX1 cI cJ cZ h0 h1 h2 h3 v_keys v_values v_ends v_size) sz) := by
  refine my_ent (fun A => qI (dC, dI) (kT cI cJ cZ) (vX1 cI cJ cZ h0 h1 h2 h3 v_keys v_values v_ends v_size) A r) (by decide) (Nat.le_of_ble_eq_true rfl) ?_
  intro p e s m below meth c A hAe hnm C0 hK hX hP hD hA hS ls hl
  obtain ⟨hx, hb, hml, hown, hT, hr, hlocks⟩ := id C0
  unfold fX1_firstToGo at hd
  have hl : lv_has ls 4 [(0, .ref h0)] := hl
  refine lv_iconst (v := 0) hx hb dX1_firstToGo_0 (by decide) ?_
  refine lv_istore_n (lv' := [(1, .int (0 : Int32)), (0, .ref h0)]) hx hb dX1_firstToGo_1 rfl hl (by decide) rfl (fun ls hl => ?_)
  refine lv_iconst (v := 1) hx hb dX1_firstToGo_2 (by decide) ?_
  refine lv_istore_n (lv' := [(2, .int (1 : Int32)), (1, .int (0 : Int32)), (0, .ref h0)]) hx hb dX1_firstToGo_3 rfl hl (by decide) rfl (fun ls hl => ?_)
  exact oX1_firstToGo_4 C0 hK hX hA  _ _ hd _ _ _ hP hD hS (lv_sub hl [2, 1, 0] rfl)
def fX1_placeFor (n : Nat) (v_keys : Nat → Int64) (v_values : Nat → Int64) (v_ends : Nat → Int32) (v_size : Int32) (p1 : Int64) : Option (Int32 × Int32) := (fX1_find n v_keys v_values v_ends v_size p1).bind (fun u_1 => if u_1 = (-1 : Int32) then (if v_size < (8 : Int32) then (some ((v_size + (1 : Int32)) - (1 : Int32), v_size + (1 : Int32))) else ((fX1_firstToGo n v_keys v_values v_ends v_size).bind (fun u_5 => some (u_5, v_size)))) else (some (u_1, v_size)))
set_option maxHeartbeats 4000000 in
set_option maxRecDepth 100000 in
theorem mX1_placeFor (l : Launch) (dC : Nat → ClassId) (dI : Nat → Nat → Nat) (cI cJ cZ : ClassId) (h0 h1 h2 h3 : Nat) (n : Nat) (v_keys : Nat → Int64) (v_values : Nat → Int64) (v_ends : Nat → Int32) (v_size : Int32) (p1 : Int64) {r : Int32 × Int32} (hd : fX1_placeFor n v_keys v_values v_ends v_size p1 = some r) (sz : Nat)  : Met l yX1_placeFor (wS yX1_placeFor cX1_placeFor 4 (some .int)) { frames := 1, cells := 0, slots := 0, locals := 23 } (pC (dC, dI) (kT cI cJ cZ) xT (vX1 cI cJ cZ h0 h1 h2 h3 v_keys v_values v_ends v_size) sz [.ref h0, .long p1]) (qI (dC, dI) (kT cI cJ cZ) (vX1 cI cJ cZ h0 h1 h2 h3 v_keys v_values v_ends r.2) (va_A (vX1 cI cJ cZ h0 h1 h2 h3 v_keys v_values v_ends v_size) sz) r.1) 0 0 (va_A (vX1 cI cJ cZ h0 h1 h2 h3 v_keys v_values v_ends v_size) sz) := by
  refine my_ent (fun A => qI (dC, dI) (kT cI cJ cZ) (vX1 cI cJ cZ h0 h1 h2 h3 v_keys v_values v_ends r.2) A r.1) (by decide) (Nat.le_of_ble_eq_true rfl) ?_
  intro p e s m below meth c A hAe hnm C0 hK hX hP hD hA hS ls hl
  obtain ⟨hx, hb, hml, hown, hT, hr, hlocks⟩ := id C0
  unfold fX1_placeFor at hd
  have hl : lv_has ls 4 [(0, .ref h0), (1, .long p1)] := hl
  refine lv_aload_n hx hb dX1_placeFor_0 rfl (lv_at hl 0 rfl) ?_
  refine lv_lload_n hx hb dX1_placeFor_1 rfl (lv_at hl 1 rfl) ?_
  obtain ⟨u_1, hc_2, hd⟩ := bd hd
  refine cv_i (W' := vX1 cI cJ cZ h0 h1 h2 h3 v_keys v_values v_ends v_size) (Wn := vX1 cI cJ cZ h0 h1 h2 h3 v_keys v_values v_ends v_size) (rest := []) C0 (mX1_find l dC dI cI cJ cZ h0 h1 h2 h3 n v_keys v_values v_ends v_size p1 hc_2 _) gv_X1_26 yd_X1_find ⟨rfl, rfl, Nat.le_of_ble_eq_true rfl, Nat.le_of_ble_eq_true rfl, Nat.zero_le _, Nat.zero_le _⟩ xT_b xT_w hK hP hD hS hA 0 4 rfl hl.1 rfl (Nat.le_of_ble_eq_true rfl) dX1_placeFor_2 1 0 rfl rfl rfl (fun H locs hP hD hS => ?_)
  refine lv_istore_n (lv' := [(3, .int u_1), (0, .ref h0), (1, .long p1)]) hx hb dX1_placeFor_5 rfl hl (by decide) rfl (fun ls hl => ?_)
  refine lv_iload_n hx hb dX1_placeFor_6 rfl (lv_at hl 0 rfl) ?_
  refine lv_iconst (v := (-1)) hx hb dX1_placeFor_7 (by decide) ?_
  refine lv_icmp_eq (tgt := 13) hx hb dX1_placeFor_8 (by decide) (fun c_3 => ?_) (fun c_3 => ?_)
  · replace hd := i_t hd c_3
    refine lv_aload_n hx hb dX1_placeFor_13 rfl (lv_at hl 1 rfl) ?_
    refine va_get (D := (dC, dI)) (ci := 1) (v := .int v_size) (C := RX1) (T := TX1) (N := 4) hx hb hT inlX1 hown hK hP 0 rfl rfl 3 (by decide) (hT _ wm_6_0) (fun _ h9 => h9) rfl dX1_placeFor_14 ?_
    refine lv_bipush (v := 8) hx hb dX1_placeFor_17 (by decide) ?_
    refine lv_icmp_lt (tgt := 27) hx hb dX1_placeFor_19 (by decide) (fun c_4 => ?_) (fun c_4 => ?_)
    · replace hd := i_t hd c_4
      refine lv_aload_n hx hb dX1_placeFor_27 rfl (lv_at hl 1 rfl) ?_
      refine lv_dup hx hb dX1_placeFor_28 rfl ?_
      refine va_get (D := (dC, dI)) (ci := 1) (v := .int v_size) (C := RX1) (T := TX1) (N := 4) hx hb hT inlX1 hown hK hP 0 rfl rfl 3 (by decide) (hT _ wm_6_0) (fun _ h9 => h9) rfl dX1_placeFor_29 ?_
      refine lv_iconst (v := 1) hx hb dX1_placeFor_32 (by decide) ?_
      refine lv_iadd hx hb dX1_placeFor_33 ?_
      refine va_put (D := (dC, dI)) (ci := 1) (v := .int (v_size + (1 : Int32))) (ty := .int) (C := RX1) (T := TX1) (N := 4) hx hb hT inlX1 tyX1 tyX1_ok nmX1 hown hK hP hD hS 0 rfl rfl 3 (by decide) (hT _ wm_6_0) (fun _ h9 => h9) rfl (tyX1_ok 3 (by decide)) rfl rfl (Nat.le_of_ble_eq_true rfl) dX1_placeFor_34 (fun H locs hP hD hS => ?_)
      have hP : va_P (dC, dI) vwCl (vX1 cI cJ cZ h0 h1 h2 h3 v_keys v_values v_ends (v_size + (1 : Int32))) H := hP
      have hD : va_D A (vX1 cI cJ cZ h0 h1 h2 h3 v_keys v_values v_ends (v_size + (1 : Int32))) := hD
      refine lv_aload_n hx hb dX1_placeFor_37 rfl (lv_at hl 1 rfl) ?_
      refine va_get (D := (dC, dI)) (ci := 1) (v := .int (v_size + (1 : Int32))) (C := RX1) (T := TX1) (N := 4) hx hb hT inlX1 hown hK hP 0 rfl rfl 3 (by decide) (hT _ wm_6_0) (fun _ h9 => h9) rfl dX1_placeFor_38 ?_
      refine lv_iconst (v := 1) hx hb dX1_placeFor_41 (by decide) ?_
      refine lv_isub hx hb dX1_placeFor_42 ?_
      obtain rfl := Option.some.inj hd
      exact my_iret C0 hK hP hD hS dX1_placeFor_43
    · replace hd := i_e hd c_4
      refine lv_aload_n hx hb dX1_placeFor_22 rfl (lv_at hl 1 rfl) ?_
      obtain ⟨u_5, hc_6, hd⟩ := bd hd
      refine cv_i (W' := vX1 cI cJ cZ h0 h1 h2 h3 v_keys v_values v_ends v_size) (Wn := vX1 cI cJ cZ h0 h1 h2 h3 v_keys v_values v_ends v_size) (rest := []) C0 (mX1_firstToGo l dC dI cI cJ cZ h0 h1 h2 h3 n v_keys v_values v_ends v_size  hc_6 _) gv_X1_33 yd_X1_firstToGo ⟨rfl, rfl, Nat.le_of_ble_eq_true rfl, Nat.le_of_ble_eq_true rfl, Nat.zero_le _, Nat.zero_le _⟩ xT_b xT_w hK hP hD hS hA 0 4 rfl hl.1 rfl (Nat.le_of_ble_eq_true rfl) dX1_placeFor_23 1 0 rfl rfl rfl (fun H locs hP hD hS => ?_)
      obtain rfl := Option.some.inj hd
      exact my_iret C0 hK hP hD hS dX1_placeFor_26
  · replace hd := i_e hd c_3
    refine lv_iload_n hx hb dX1_placeFor_11 rfl (lv_at hl 0 rfl) ?_
    obtain rfl := Option.some.inj hd
    exact my_iret C0 hK hP hD hS dX1_placeFor_12
def fX1_keep (n : Nat) (v_keys : Nat → Int64) (v_values : Nat → Int64) (v_ends : Nat → Int32) (v_size : Int32) (p1 : Int64) (p3 : Int64) (p5 : Int32) : Option ((Nat → Int64) × (Nat → Int64) × (Nat → Int32) × Int32) := (fX1_placeFor n v_keys v_values v_ends v_size p1).bind (fun u_1 => if u_1.1 < 0 then (some (v_keys, v_values, v_ends, u_1.2)) else (if (8 : Int32) ≤ u_1.1 then (some (v_keys, v_values, v_ends, u_1.2)) else (ix u_1.1 8 (ix u_1.1 8 (ix u_1.1 8 (some (vp_updL v_keys u_1.1.toNatClampNeg p1, vp_updL v_values u_1.1.toNatClampNeg p3, upd v_ends u_1.1.toNatClampNeg p5, u_1.2)))))))
set_option maxHeartbeats 4000000 in
set_option maxRecDepth 100000 in
theorem mX1_keep (l : Launch) (dC : Nat → ClassId) (dI : Nat → Nat → Nat) (cI cJ cZ : ClassId) (h0 h1 h2 h3 : Nat) (n : Nat) (v_keys : Nat → Int64) (v_values : Nat → Int64) (v_ends : Nat → Int32) (v_size : Int32) (p1 : Int64) (p3 : Int64) (p5 : Int32) {r : (Nat → Int64) × (Nat → Int64) × (Nat → Int32) × Int32} (hd : fX1_keep n v_keys v_values v_ends v_size p1 p3 p5 = some r) (sz : Nat)  : Met l yX1_keep (wS yX1_keep cX1_keep 7 none) { frames := 2, cells := 0, slots := 0, locals := 46 } (pC (dC, dI) (kT cI cJ cZ) xT (vX1 cI cJ cZ h0 h1 h2 h3 v_keys v_values v_ends v_size) sz [.ref h0, .long p1, .long p3, .int p5]) (qV (dC, dI) (kT cI cJ cZ) (vX1 cI cJ cZ h0 h1 h2 h3 r.1 r.2.1 r.2.2.1 r.2.2.2) (va_A (vX1 cI cJ cZ h0 h1 h2 h3 v_keys v_values v_ends v_size) sz)) 0 0 (va_A (vX1 cI cJ cZ h0 h1 h2 h3 v_keys v_values v_ends v_size) sz) := by
  refine my_ent (fun A => qV (dC, dI) (kT cI cJ cZ) (vX1 cI cJ cZ h0 h1 h2 h3 r.1 r.2.1 r.2.2.1 r.2.2.2) A) (by decide) (Nat.le_of_ble_eq_true rfl) ?_
  intro p e s m below meth c A hAe hnm C0 hK hX hP hD hA hS ls hl
  obtain ⟨hx, hb, hml, hown, hT, hr, hlocks⟩ := id C0
  unfold fX1_keep at hd
  have hl : lv_has ls 7 [(0, .ref h0), (1, .long p1), (3, .long p3), (5, .int p5)] := hl
  refine lv_aload_n hx hb dX1_keep_0 rfl (lv_at hl 0 rfl) ?_
  refine lv_lload_n hx hb dX1_keep_1 rfl (lv_at hl 1 rfl) ?_
  obtain ⟨u_1, hc_2, hd⟩ := bd hd
  refine cv_i (W' := vX1 cI cJ cZ h0 h1 h2 h3 v_keys v_values v_ends v_size) (Wn := vX1 cI cJ cZ h0 h1 h2 h3 v_keys v_values v_ends u_1.2) (rest := []) C0 (mX1_placeFor l dC dI cI cJ cZ h0 h1 h2 h3 n v_keys v_values v_ends v_size p1 hc_2 _) gv_X1_30 yd_X1_placeFor ⟨rfl, rfl, Nat.le_of_ble_eq_true rfl, Nat.le_of_ble_eq_true rfl, Nat.zero_le _, Nat.zero_le _⟩ xT_b xT_w hK hP hD hS hA 0 4 rfl hl.1 rfl (Nat.le_of_ble_eq_true rfl) dX1_keep_2 1 0 rfl rfl rfl (fun H locs hP hD hS => ?_)
  refine lv_istore (lv' := [(6, .int u_1.1), (0, .ref h0), (1, .long p1), (3, .long p3), (5, .int p5)]) hx hb dX1_keep_5 hl (by decide) rfl (fun ls hl => ?_)
  refine lv_iload hx hb dX1_keep_7 (lv_at hl 0 rfl) ?_
  refine lv_if_lt (tgt := 44) hx hb dX1_keep_9 (by decide) (fun c_3 => ?_) (fun c_3 => ?_)
  · replace hd := i_t hd c_3
    obtain rfl := Option.some.inj hd
    exact my_vret C0 hK hP hD hS dX1_keep_44
  · replace hd := i_e hd c_3
    refine lv_iload hx hb dX1_keep_12 (lv_at hl 0 rfl) ?_
    refine lv_bipush (v := 8) hx hb dX1_keep_14 (by decide) ?_
    refine lv_icmp_ge (tgt := 44) hx hb dX1_keep_16 (by decide) (fun c_4 => ?_) (fun c_4 => ?_)
    · replace hd := i_t hd c_4
      obtain rfl := Option.some.inj hd
      exact my_vret C0 hK hP hD hS dX1_keep_44
    · replace hd := i_e hd c_4
      refine lv_aload_n hx hb dX1_keep_19 rfl (lv_at hl 1 rfl) ?_
      refine va_get (D := (dC, dI)) (ci := 1) (v := .ref h1) (C := RX1) (T := TX1) (N := 4) hx hb hT inlX1 hown hK hP 0 rfl rfl 0 (by decide) (hT _ wm_5_21) (fun _ h9 => h9) rfl dX1_keep_20 ?_
      refine lv_iload hx hb dX1_keep_23 (lv_at hl 0 rfl) ?_
      refine lv_lload_n hx hb dX1_keep_25 rfl (lv_at hl 2 rfl) ?_
      obtain ⟨g_5, hd⟩ := ix_some hd
      refine va_last hx hb hK hP hD hS 1 1 rfl rfl g_5 dX1_keep_26 (fun H locs hP hD hS => ?_)
      have hP : va_P (dC, dI) vwCl (vX1 cI cJ cZ h0 h1 h2 h3 (vp_updL v_keys u_1.1.toNatClampNeg p1) v_values v_ends u_1.2) H := hP
      have hD : va_D A (vX1 cI cJ cZ h0 h1 h2 h3 (vp_updL v_keys u_1.1.toNatClampNeg p1) v_values v_ends u_1.2) := hD
      refine lv_aload_n hx hb dX1_keep_27 rfl (lv_at hl 1 rfl) ?_
      refine va_get (D := (dC, dI)) (ci := 1) (v := .ref h2) (C := RX1) (T := TX1) (N := 4) hx hb hT inlX1 hown hK hP 0 rfl rfl 1 (by decide) (hT _ wm_5_22) (fun _ h9 => h9) rfl dX1_keep_28 ?_
      refine lv_iload hx hb dX1_keep_31 (lv_at hl 0 rfl) ?_
      refine lv_lload_n hx hb dX1_keep_33 rfl (lv_at hl 3 rfl) ?_
      obtain ⟨g_6, hd⟩ := ix_some hd
      refine va_last hx hb hK hP hD hS 2 1 rfl rfl g_6 dX1_keep_34 (fun H locs hP hD hS => ?_)
      have hP : va_P (dC, dI) vwCl (vX1 cI cJ cZ h0 h1 h2 h3 (vp_updL v_keys u_1.1.toNatClampNeg p1) (vp_updL v_values u_1.1.toNatClampNeg p3) v_ends u_1.2) H := hP
      have hD : va_D A (vX1 cI cJ cZ h0 h1 h2 h3 (vp_updL v_keys u_1.1.toNatClampNeg p1) (vp_updL v_values u_1.1.toNatClampNeg p3) v_ends u_1.2) := hD
      refine lv_aload_n hx hb dX1_keep_35 rfl (lv_at hl 1 rfl) ?_
      refine va_get (D := (dC, dI)) (ci := 1) (v := .ref h3) (C := RX1) (T := TX1) (N := 4) hx hb hT inlX1 hown hK hP 0 rfl rfl 2 (by decide) (hT _ wm_5_23) (fun _ h9 => h9) rfl dX1_keep_36 ?_
      refine lv_iload hx hb dX1_keep_39 (lv_at hl 0 rfl) ?_
      refine lv_iload hx hb dX1_keep_41 (lv_at hl 4 rfl) ?_
      obtain ⟨g_7, hd⟩ := ix_some hd
      refine va_iast hx hb hK hP hD hS 3 0 rfl rfl g_7 dX1_keep_43 (fun H locs hP hD hS => ?_)
      have hP : va_P (dC, dI) vwCl (vX1 cI cJ cZ h0 h1 h2 h3 (vp_updL v_keys u_1.1.toNatClampNeg p1) (vp_updL v_values u_1.1.toNatClampNeg p3) (upd v_ends u_1.1.toNatClampNeg p5) u_1.2) H := hP
      have hD : va_D A (vX1 cI cJ cZ h0 h1 h2 h3 (vp_updL v_keys u_1.1.toNatClampNeg p1) (vp_updL v_values u_1.1.toNatClampNeg p3) (upd v_ends u_1.1.toNatClampNeg p5) u_1.2) := hD
      obtain rfl := Option.some.inj hd
      exact my_vret C0 hK hP hD hS dX1_keep_44
def fX1_forgetAll (v_keys : Nat → Int64) (v_values : Nat → Int64) (v_ends : Nat → Int32) (v_size : Int32)  : Option (Int32) := some (0 : Int32)
set_option maxHeartbeats 4000000 in
set_option maxRecDepth 100000 in
theorem mX1_forgetAll (l : Launch) (dC : Nat → ClassId) (dI : Nat → Nat → Nat) (cI cJ cZ : ClassId) (h0 h1 h2 h3 : Nat) (v_keys : Nat → Int64) (v_values : Nat → Int64) (v_ends : Nat → Int32) (v_size : Int32)  {r : Int32} (hd : fX1_forgetAll v_keys v_values v_ends v_size  = some r) (sz : Nat)  : Met l yX1_forgetAll (wS yX1_forgetAll cX1_forgetAll 1 none) { frames := 0, cells := 0, slots := 0, locals := 0 } (pC (dC, dI) (kT cI cJ cZ) xT (vX1 cI cJ cZ h0 h1 h2 h3 v_keys v_values v_ends v_size) sz [.ref h0]) (qV (dC, dI) (kT cI cJ cZ) (vX1 cI cJ cZ h0 h1 h2 h3 v_keys v_values v_ends r) (va_A (vX1 cI cJ cZ h0 h1 h2 h3 v_keys v_values v_ends v_size) sz)) 0 0 (va_A (vX1 cI cJ cZ h0 h1 h2 h3 v_keys v_values v_ends v_size) sz) := by
  refine my_ent (fun A => qV (dC, dI) (kT cI cJ cZ) (vX1 cI cJ cZ h0 h1 h2 h3 v_keys v_values v_ends r) A) (by decide) (Nat.le_of_ble_eq_true rfl) ?_
  intro p e s m below meth c A hAe hnm C0 hK hX hP hD hA hS ls hl
  obtain ⟨hx, hb, hml, hown, hT, hr, hlocks⟩ := id C0
  unfold fX1_forgetAll at hd
  have hl : lv_has ls 1 [(0, .ref h0)] := hl
  refine lv_aload_n hx hb dX1_forgetAll_0 rfl (lv_at hl 0 rfl) ?_
  refine lv_iconst (v := 0) hx hb dX1_forgetAll_1 (by decide) ?_
  refine va_put (D := (dC, dI)) (ci := 1) (v := .int (0 : Int32)) (ty := .int) (C := RX1) (T := TX1) (N := 4) hx hb hT inlX1 tyX1 tyX1_ok nmX1 hown hK hP hD hS 0 rfl rfl 3 (by decide) (hT _ wm_6_0) (fun _ h9 => h9) rfl (tyX1_ok 3 (by decide)) rfl rfl (Nat.le_of_ble_eq_true rfl) dX1_forgetAll_2 (fun H locs hP hD hS => ?_)
  have hP : va_P (dC, dI) vwCl (vX1 cI cJ cZ h0 h1 h2 h3 v_keys v_values v_ends (0 : Int32)) H := hP
  have hD : va_D A (vX1 cI cJ cZ h0 h1 h2 h3 v_keys v_values v_ends (0 : Int32)) := hD
  obtain rfl := Option.some.inj hd
  exact my_vret C0 hK hP hD hS dX1_forgetAll_5
def fX2_has (v_rows : Nat → Int32) (v_causes : Nat → Int32) (v_values : Nat → Int64) (v_size : Int32) (p1 : Int32) : Option (Int32) := if p1 < 0 then (some (0 : Int32)) else (if v_size ≤ p1 then (some (0 : Int32)) else (some (1 : Int32)))
set_option maxHeartbeats 4000000 in
set_option maxRecDepth 100000 in
theorem mX2_has (l : Launch) (dC : Nat → ClassId) (dI : Nat → Nat → Nat) (cI cJ cZ : ClassId) (h0 h1 h2 h3 : Nat) (v_rows : Nat → Int32) (v_causes : Nat → Int32) (v_values : Nat → Int64) (v_size : Int32) (p1 : Int32) {r : Int32} (hd : fX2_has v_rows v_causes v_values v_size p1 = some r) (sz : Nat)  : Met l yX2_has (wS yX2_has cX2_has 2 (some .boolean)) { frames := 0, cells := 0, slots := 0, locals := 0 } (pC (dC, dI) (kT cI cJ cZ) xT (vX2 cI cJ cZ h0 h1 h2 h3 v_rows v_causes v_values v_size) sz [.ref h0, .int p1]) (qI (dC, dI) (kT cI cJ cZ) (vX2 cI cJ cZ h0 h1 h2 h3 v_rows v_causes v_values v_size) (va_A (vX2 cI cJ cZ h0 h1 h2 h3 v_rows v_causes v_values v_size) sz) r) 0 0 (va_A (vX2 cI cJ cZ h0 h1 h2 h3 v_rows v_causes v_values v_size) sz) := by
  refine my_ent (fun A => qI (dC, dI) (kT cI cJ cZ) (vX2 cI cJ cZ h0 h1 h2 h3 v_rows v_causes v_values v_size) A r) (by decide) (Nat.le_of_ble_eq_true rfl) ?_
  intro p e s m below meth c A hAe hnm C0 hK hX hP hD hA hS ls hl
  obtain ⟨hx, hb, hml, hown, hT, hr, hlocks⟩ := id C0
  unfold fX2_has at hd
  have hl : lv_has ls 2 [(0, .ref h0), (1, .int p1)] := hl
  refine lv_iload_n hx hb dX2_has_0 rfl (lv_at hl 1 rfl) ?_
  refine lv_if_lt (tgt := 16) hx hb dX2_has_1 (by decide) (fun c_1 => ?_) (fun c_1 => ?_)
  · replace hd := i_t hd c_1
    refine lv_iconst (v := 0) hx hb dX2_has_16 (by decide) ?_
    obtain rfl := Option.some.inj hd
    exact my_zret C0 hK hP hD hS (Or.inl rfl) dX2_has_17
  · replace hd := i_e hd c_1
    refine lv_iload_n hx hb dX2_has_4 rfl (lv_at hl 1 rfl) ?_
    refine lv_aload_n hx hb dX2_has_5 rfl (lv_at hl 0 rfl) ?_
    refine va_get (D := (dC, dI)) (ci := 2) (v := .int v_size) (C := RX2) (T := TX2) (N := 4) hx hb hT inlX2 hown hK hP 0 rfl rfl 3 (by decide) (hT _ wm_5_11) (fun _ h9 => h9) rfl dX2_has_6 ?_
    refine lv_icmp_ge (tgt := 16) hx hb dX2_has_9 (by decide) (fun c_2 => ?_) (fun c_2 => ?_)
    · replace hd := i_t hd c_2
      refine lv_iconst (v := 0) hx hb dX2_has_16 (by decide) ?_
      obtain rfl := Option.some.inj hd
      exact my_zret C0 hK hP hD hS (Or.inl rfl) dX2_has_17
    · replace hd := i_e hd c_2
      refine lv_iconst (v := 1) hx hb dX2_has_12 (by decide) ?_
      refine lv_goto (tgt := 17) hx hb dX2_has_13 (by decide) ?_
      obtain rfl := Option.some.inj hd
      exact my_zret C0 hK hP hD hS (Or.inr rfl) dX2_has_17
def fX2_rowAt (v_rows : Nat → Int32) (v_causes : Nat → Int32) (v_values : Nat → Int64) (v_size : Int32) (p1 : Int32) : Option (Int32) := (fX2_has v_rows v_causes v_values v_size p1).bind (fun u_1 => if u_1 = 0 then (some (-1 : Int32)) else (ix p1 100 (some (v_rows p1.toNatClampNeg))))
set_option maxHeartbeats 4000000 in
set_option maxRecDepth 100000 in
theorem mX2_rowAt (l : Launch) (dC : Nat → ClassId) (dI : Nat → Nat → Nat) (cI cJ cZ : ClassId) (h0 h1 h2 h3 : Nat) (v_rows : Nat → Int32) (v_causes : Nat → Int32) (v_values : Nat → Int64) (v_size : Int32) (p1 : Int32) {r : Int32} (hd : fX2_rowAt v_rows v_causes v_values v_size p1 = some r) (sz : Nat)  : Met l yX2_rowAt (wS yX2_rowAt cX2_rowAt 2 (some .int)) { frames := 1, cells := 0, slots := 0, locals := 21 } (pC (dC, dI) (kT cI cJ cZ) xT (vX2 cI cJ cZ h0 h1 h2 h3 v_rows v_causes v_values v_size) sz [.ref h0, .int p1]) (qI (dC, dI) (kT cI cJ cZ) (vX2 cI cJ cZ h0 h1 h2 h3 v_rows v_causes v_values v_size) (va_A (vX2 cI cJ cZ h0 h1 h2 h3 v_rows v_causes v_values v_size) sz) r) 0 0 (va_A (vX2 cI cJ cZ h0 h1 h2 h3 v_rows v_causes v_values v_size) sz) := by
  refine my_ent (fun A => qI (dC, dI) (kT cI cJ cZ) (vX2 cI cJ cZ h0 h1 h2 h3 v_rows v_causes v_values v_size) A r) (by decide) (Nat.le_of_ble_eq_true rfl) ?_
  intro p e s m below meth c A hAe hnm C0 hK hX hP hD hA hS ls hl
  obtain ⟨hx, hb, hml, hown, hT, hr, hlocks⟩ := id C0
  unfold fX2_rowAt at hd
  have hl : lv_has ls 2 [(0, .ref h0), (1, .int p1)] := hl
  refine lv_aload_n hx hb dX2_rowAt_0 rfl (lv_at hl 0 rfl) ?_
  refine lv_iload_n hx hb dX2_rowAt_1 rfl (lv_at hl 1 rfl) ?_
  obtain ⟨u_1, hc_2, hd⟩ := bd hd
  refine cv_i (W' := vX2 cI cJ cZ h0 h1 h2 h3 v_rows v_causes v_values v_size) (Wn := vX2 cI cJ cZ h0 h1 h2 h3 v_rows v_causes v_values v_size) (rest := []) C0 (mX2_has l dC dI cI cJ cZ h0 h1 h2 h3 v_rows v_causes v_values v_size p1 hc_2 _) gv_X2_26 yd_X2_has ⟨rfl, rfl, Nat.le_of_ble_eq_true rfl, Nat.le_of_ble_eq_true rfl, Nat.zero_le _, Nat.zero_le _⟩ xT_b xT_w hK hP hD hS hA 0 4 rfl hl.1 rfl (Nat.le_of_ble_eq_true rfl) dX2_rowAt_2 2 0 rfl rfl rfl (fun H locs hP hD hS => ?_)
  refine lv_if_eq (tgt := 17) hx hb dX2_rowAt_5 (by decide) (fun c_3 => ?_) (fun c_3 => ?_)
  · replace hd := i_t hd c_3
    refine lv_iconst (v := (-1)) hx hb dX2_rowAt_17 (by decide) ?_
    obtain rfl := Option.some.inj hd
    exact my_iret C0 hK hP hD hS dX2_rowAt_18
  · replace hd := i_e hd c_3
    refine lv_aload_n hx hb dX2_rowAt_8 rfl (lv_at hl 0 rfl) ?_
    refine va_get (D := (dC, dI)) (ci := 2) (v := .ref h1) (C := RX2) (T := TX2) (N := 4) hx hb hT inlX2 hown hK hP 0 rfl rfl 0 (by decide) (hT _ wm_5_8) (fun _ h9 => h9) rfl dX2_rowAt_9 ?_
    refine lv_iload_n hx hb dX2_rowAt_12 rfl (lv_at hl 1 rfl) ?_
    obtain ⟨g_4, hd⟩ := ix_some hd
    refine va_iald hx hb hK hP 1 0 rfl rfl g_4 dX2_rowAt_13 ?_
    refine lv_goto (tgt := 18) hx hb dX2_rowAt_14 (by decide) ?_
    obtain rfl := Option.some.inj hd
    exact my_iret C0 hK hP hD hS dX2_rowAt_18
def fX2_causeAt (v_rows : Nat → Int32) (v_causes : Nat → Int32) (v_values : Nat → Int64) (v_size : Int32) (p1 : Int32) : Option (Int32) := (fX2_has v_rows v_causes v_values v_size p1).bind (fun u_1 => if u_1 = 0 then (some (0 : Int32)) else (ix p1 100 (some (v_causes p1.toNatClampNeg))))
set_option maxHeartbeats 4000000 in
set_option maxRecDepth 100000 in
theorem mX2_causeAt (l : Launch) (dC : Nat → ClassId) (dI : Nat → Nat → Nat) (cI cJ cZ : ClassId) (h0 h1 h2 h3 : Nat) (v_rows : Nat → Int32) (v_causes : Nat → Int32) (v_values : Nat → Int64) (v_size : Int32) (p1 : Int32) {r : Int32} (hd : fX2_causeAt v_rows v_causes v_values v_size p1 = some r) (sz : Nat)  : Met l yX2_causeAt (wS yX2_causeAt cX2_causeAt 2 (some .int)) { frames := 1, cells := 0, slots := 0, locals := 21 } (pC (dC, dI) (kT cI cJ cZ) xT (vX2 cI cJ cZ h0 h1 h2 h3 v_rows v_causes v_values v_size) sz [.ref h0, .int p1]) (qI (dC, dI) (kT cI cJ cZ) (vX2 cI cJ cZ h0 h1 h2 h3 v_rows v_causes v_values v_size) (va_A (vX2 cI cJ cZ h0 h1 h2 h3 v_rows v_causes v_values v_size) sz) r) 0 0 (va_A (vX2 cI cJ cZ h0 h1 h2 h3 v_rows v_causes v_values v_size) sz) := by
  refine my_ent (fun A => qI (dC, dI) (kT cI cJ cZ) (vX2 cI cJ cZ h0 h1 h2 h3 v_rows v_causes v_values v_size) A r) (by decide) (Nat.le_of_ble_eq_true rfl) ?_
  intro p e s m below meth c A hAe hnm C0 hK hX hP hD hA hS ls hl
  obtain ⟨hx, hb, hml, hown, hT, hr, hlocks⟩ := id C0
  unfold fX2_causeAt at hd
  have hl : lv_has ls 2 [(0, .ref h0), (1, .int p1)] := hl
  refine lv_aload_n hx hb dX2_causeAt_0 rfl (lv_at hl 0 rfl) ?_
  refine lv_iload_n hx hb dX2_causeAt_1 rfl (lv_at hl 1 rfl) ?_
  obtain ⟨u_1, hc_2, hd⟩ := bd hd
  refine cv_i (W' := vX2 cI cJ cZ h0 h1 h2 h3 v_rows v_causes v_values v_size) (Wn := vX2 cI cJ cZ h0 h1 h2 h3 v_rows v_causes v_values v_size) (rest := []) C0 (mX2_has l dC dI cI cJ cZ h0 h1 h2 h3 v_rows v_causes v_values v_size p1 hc_2 _) gv_X2_26 yd_X2_has ⟨rfl, rfl, Nat.le_of_ble_eq_true rfl, Nat.le_of_ble_eq_true rfl, Nat.zero_le _, Nat.zero_le _⟩ xT_b xT_w hK hP hD hS hA 0 4 rfl hl.1 rfl (Nat.le_of_ble_eq_true rfl) dX2_causeAt_2 2 0 rfl rfl rfl (fun H locs hP hD hS => ?_)
  refine lv_if_eq (tgt := 17) hx hb dX2_causeAt_5 (by decide) (fun c_3 => ?_) (fun c_3 => ?_)
  · replace hd := i_t hd c_3
    refine lv_iconst (v := 0) hx hb dX2_causeAt_17 (by decide) ?_
    obtain rfl := Option.some.inj hd
    exact my_iret C0 hK hP hD hS dX2_causeAt_18
  · replace hd := i_e hd c_3
    refine lv_aload_n hx hb dX2_causeAt_8 rfl (lv_at hl 0 rfl) ?_
    refine va_get (D := (dC, dI)) (ci := 2) (v := .ref h2) (C := RX2) (T := TX2) (N := 4) hx hb hT inlX2 hown hK hP 0 rfl rfl 1 (by decide) (hT _ wm_5_9) (fun _ h9 => h9) rfl dX2_causeAt_9 ?_
    refine lv_iload_n hx hb dX2_causeAt_12 rfl (lv_at hl 1 rfl) ?_
    obtain ⟨g_4, hd⟩ := ix_some hd
    refine va_iald hx hb hK hP 2 0 rfl rfl g_4 dX2_causeAt_13 ?_
    refine lv_goto (tgt := 18) hx hb dX2_causeAt_14 (by decide) ?_
    obtain rfl := Option.some.inj hd
    exact my_iret C0 hK hP hD hS dX2_causeAt_18
def fX2_valueAt (v_rows : Nat → Int32) (v_causes : Nat → Int32) (v_values : Nat → Int64) (v_size : Int32) (p1 : Int32) : Option (Int64) := (fX2_has v_rows v_causes v_values v_size p1).bind (fun u_1 => if u_1 = 0 then (some (0 : Int64)) else (ix p1 100 (some (v_values p1.toNatClampNeg))))
set_option maxHeartbeats 4000000 in
set_option maxRecDepth 100000 in
theorem mX2_valueAt (l : Launch) (dC : Nat → ClassId) (dI : Nat → Nat → Nat) (cI cJ cZ : ClassId) (h0 h1 h2 h3 : Nat) (v_rows : Nat → Int32) (v_causes : Nat → Int32) (v_values : Nat → Int64) (v_size : Int32) (p1 : Int32) {r : Int64} (hd : fX2_valueAt v_rows v_causes v_values v_size p1 = some r) (sz : Nat)  : Met l yX2_valueAt (wS yX2_valueAt cX2_valueAt 2 (some .long)) { frames := 1, cells := 0, slots := 0, locals := 21 } (pC (dC, dI) (kT cI cJ cZ) xT (vX2 cI cJ cZ h0 h1 h2 h3 v_rows v_causes v_values v_size) sz [.ref h0, .int p1]) (qL (dC, dI) (kT cI cJ cZ) (vX2 cI cJ cZ h0 h1 h2 h3 v_rows v_causes v_values v_size) (va_A (vX2 cI cJ cZ h0 h1 h2 h3 v_rows v_causes v_values v_size) sz) r) 0 0 (va_A (vX2 cI cJ cZ h0 h1 h2 h3 v_rows v_causes v_values v_size) sz) := by
  refine my_ent (fun A => qL (dC, dI) (kT cI cJ cZ) (vX2 cI cJ cZ h0 h1 h2 h3 v_rows v_causes v_values v_size) A r) (by decide) (Nat.le_of_ble_eq_true rfl) ?_
  intro p e s m below meth c A hAe hnm C0 hK hX hP hD hA hS ls hl
  obtain ⟨hx, hb, hml, hown, hT, hr, hlocks⟩ := id C0
  unfold fX2_valueAt at hd
  have hl : lv_has ls 2 [(0, .ref h0), (1, .int p1)] := hl
  refine lv_aload_n hx hb dX2_valueAt_0 rfl (lv_at hl 0 rfl) ?_
  refine lv_iload_n hx hb dX2_valueAt_1 rfl (lv_at hl 1 rfl) ?_
  obtain ⟨u_1, hc_2, hd⟩ := bd hd
  refine cv_i (W' := vX2 cI cJ cZ h0 h1 h2 h3 v_rows v_causes v_values v_size) (Wn := vX2 cI cJ cZ h0 h1 h2 h3 v_rows v_causes v_values v_size) (rest := []) C0 (mX2_has l dC dI cI cJ cZ h0 h1 h2 h3 v_rows v_causes v_values v_size p1 hc_2 _) gv_X2_26 yd_X2_has ⟨rfl, rfl, Nat.le_of_ble_eq_true rfl, Nat.le_of_ble_eq_true rfl, Nat.zero_le _, Nat.zero_le _⟩ xT_b xT_w hK hP hD hS hA 0 4 rfl hl.1 rfl (Nat.le_of_ble_eq_true rfl) dX2_valueAt_2 2 0 rfl rfl rfl (fun H locs hP hD hS => ?_)
  refine lv_if_eq (tgt := 17) hx hb dX2_valueAt_5 (by decide) (fun c_3 => ?_) (fun c_3 => ?_)
  · replace hd := i_t hd c_3
    refine lv_lconst (v := 0) hx hb dX2_valueAt_17 (by decide) ?_
    obtain rfl := Option.some.inj hd
    exact my_lret C0 hK hP hD hS dX2_valueAt_18
  · replace hd := i_e hd c_3
    refine lv_aload_n hx hb dX2_valueAt_8 rfl (lv_at hl 0 rfl) ?_
    refine va_get (D := (dC, dI)) (ci := 2) (v := .ref h3) (C := RX2) (T := TX2) (N := 4) hx hb hT inlX2 hown hK hP 0 rfl rfl 2 (by decide) (hT _ wm_5_10) (fun _ h9 => h9) rfl dX2_valueAt_9 ?_
    refine lv_iload_n hx hb dX2_valueAt_12 rfl (lv_at hl 1 rfl) ?_
    obtain ⟨g_4, hd⟩ := ix_some hd
    refine va_lald hx hb hK hP 3 1 rfl rfl g_4 dX2_valueAt_13 ?_
    refine lv_goto (tgt := 18) hx hb dX2_valueAt_14 (by decide) ?_
    obtain rfl := Option.some.inj hd
    exact my_lret C0 hK hP hD hS dX2_valueAt_18
def fX2_setOut (v_rows : Nat → Int32) (v_causes : Nat → Int32) (v_values : Nat → Int64) (v_size : Int32) (p1 : Int32) (p2 : Int32) (p3 : Int64) : Option ((Nat → Int32) × (Nat → Int32) × (Nat → Int64) × Int32) := if v_size < (100 : Int32) then (ix v_size 100 (ix v_size 100 (ix v_size 100 (some (upd v_rows v_size.toNatClampNeg p1, upd v_causes v_size.toNatClampNeg p2, vp_updL v_values v_size.toNatClampNeg p3, v_size + (1 : Int32)))))) else (some (v_rows, v_causes, v_values, v_size))
set_option maxHeartbeats 4000000 in
set_option maxRecDepth 100000 in
theorem mX2_setOut (l : Launch) (dC : Nat → ClassId) (dI : Nat → Nat → Nat) (cI cJ cZ : ClassId) (h0 h1 h2 h3 : Nat) (v_rows : Nat → Int32) (v_causes : Nat → Int32) (v_values : Nat → Int64) (v_size : Int32) (p1 : Int32) (p2 : Int32) (p3 : Int64) {r : (Nat → Int32) × (Nat → Int32) × (Nat → Int64) × Int32} (hd : fX2_setOut v_rows v_causes v_values v_size p1 p2 p3 = some r) (sz : Nat)  : Met l yX2_setOut (wS yX2_setOut cX2_setOut 5 none) { frames := 0, cells := 0, slots := 0, locals := 0 } (pC (dC, dI) (kT cI cJ cZ) xT (vX2 cI cJ cZ h0 h1 h2 h3 v_rows v_causes v_values v_size) sz [.ref h0, .int p1, .int p2, .long p3]) (qV (dC, dI) (kT cI cJ cZ) (vX2 cI cJ cZ h0 h1 h2 h3 r.1 r.2.1 r.2.2.1 r.2.2.2) (va_A (vX2 cI cJ cZ h0 h1 h2 h3 v_rows v_causes v_values v_size) sz)) 0 0 (va_A (vX2 cI cJ cZ h0 h1 h2 h3 v_rows v_causes v_values v_size) sz) := by
  refine my_ent (fun A => qV (dC, dI) (kT cI cJ cZ) (vX2 cI cJ cZ h0 h1 h2 h3 r.1 r.2.1 r.2.2.1 r.2.2.2) A) (by decide) (Nat.le_of_ble_eq_true rfl) ?_
  intro p e s m below meth c A hAe hnm C0 hK hX hP hD hA hS ls hl
  obtain ⟨hx, hb, hml, hown, hT, hr, hlocks⟩ := id C0
  unfold fX2_setOut at hd
  have hl : lv_has ls 5 [(0, .ref h0), (1, .int p1), (2, .int p2), (3, .long p3)] := hl
  refine lv_aload_n hx hb dX2_setOut_0 rfl (lv_at hl 0 rfl) ?_
  refine va_get (D := (dC, dI)) (ci := 2) (v := .int v_size) (C := RX2) (T := TX2) (N := 4) hx hb hT inlX2 hown hK hP 0 rfl rfl 3 (by decide) (hT _ wm_5_11) (fun _ h9 => h9) rfl dX2_setOut_1 ?_
  refine lv_bipush (v := 100) hx hb dX2_setOut_4 (by decide) ?_
  refine lv_icmp_lt (tgt := 10) hx hb dX2_setOut_6 (by decide) (fun c_1 => ?_) (fun c_1 => ?_)
  · replace hd := i_t hd c_1
    refine lv_aload_n hx hb dX2_setOut_10 rfl (lv_at hl 0 rfl) ?_
    refine va_get (D := (dC, dI)) (ci := 2) (v := .ref h1) (C := RX2) (T := TX2) (N := 4) hx hb hT inlX2 hown hK hP 0 rfl rfl 0 (by decide) (hT _ wm_5_8) (fun _ h9 => h9) rfl dX2_setOut_11 ?_
    refine lv_aload_n hx hb dX2_setOut_14 rfl (lv_at hl 0 rfl) ?_
    refine va_get (D := (dC, dI)) (ci := 2) (v := .int v_size) (C := RX2) (T := TX2) (N := 4) hx hb hT inlX2 hown hK hP 0 rfl rfl 3 (by decide) (hT _ wm_5_11) (fun _ h9 => h9) rfl dX2_setOut_15 ?_
    refine lv_iload_n hx hb dX2_setOut_18 rfl (lv_at hl 1 rfl) ?_
    obtain ⟨g_2, hd⟩ := ix_some hd
    refine va_iast hx hb hK hP hD hS 1 0 rfl rfl g_2 dX2_setOut_19 (fun H locs hP hD hS => ?_)
    have hP : va_P (dC, dI) vwCl (vX2 cI cJ cZ h0 h1 h2 h3 (upd v_rows v_size.toNatClampNeg p1) v_causes v_values v_size) H := hP
    have hD : va_D A (vX2 cI cJ cZ h0 h1 h2 h3 (upd v_rows v_size.toNatClampNeg p1) v_causes v_values v_size) := hD
    refine lv_aload_n hx hb dX2_setOut_20 rfl (lv_at hl 0 rfl) ?_
    refine va_get (D := (dC, dI)) (ci := 2) (v := .ref h2) (C := RX2) (T := TX2) (N := 4) hx hb hT inlX2 hown hK hP 0 rfl rfl 1 (by decide) (hT _ wm_5_9) (fun _ h9 => h9) rfl dX2_setOut_21 ?_
    refine lv_aload_n hx hb dX2_setOut_24 rfl (lv_at hl 0 rfl) ?_
    refine va_get (D := (dC, dI)) (ci := 2) (v := .int v_size) (C := RX2) (T := TX2) (N := 4) hx hb hT inlX2 hown hK hP 0 rfl rfl 3 (by decide) (hT _ wm_5_11) (fun _ h9 => h9) rfl dX2_setOut_25 ?_
    refine lv_iload_n hx hb dX2_setOut_28 rfl (lv_at hl 2 rfl) ?_
    obtain ⟨g_3, hd⟩ := ix_some hd
    refine va_iast hx hb hK hP hD hS 2 0 rfl rfl g_3 dX2_setOut_29 (fun H locs hP hD hS => ?_)
    have hP : va_P (dC, dI) vwCl (vX2 cI cJ cZ h0 h1 h2 h3 (upd v_rows v_size.toNatClampNeg p1) (upd v_causes v_size.toNatClampNeg p2) v_values v_size) H := hP
    have hD : va_D A (vX2 cI cJ cZ h0 h1 h2 h3 (upd v_rows v_size.toNatClampNeg p1) (upd v_causes v_size.toNatClampNeg p2) v_values v_size) := hD
    refine lv_aload_n hx hb dX2_setOut_30 rfl (lv_at hl 0 rfl) ?_
    refine va_get (D := (dC, dI)) (ci := 2) (v := .ref h3) (C := RX2) (T := TX2) (N := 4) hx hb hT inlX2 hown hK hP 0 rfl rfl 2 (by decide) (hT _ wm_5_10) (fun _ h9 => h9) rfl dX2_setOut_31 ?_
    refine lv_aload_n hx hb dX2_setOut_34 rfl (lv_at hl 0 rfl) ?_
    refine va_get (D := (dC, dI)) (ci := 2) (v := .int v_size) (C := RX2) (T := TX2) (N := 4) hx hb hT inlX2 hown hK hP 0 rfl rfl 3 (by decide) (hT _ wm_5_11) (fun _ h9 => h9) rfl dX2_setOut_35 ?_
    refine lv_lload_n hx hb dX2_setOut_38 rfl (lv_at hl 3 rfl) ?_
    obtain ⟨g_4, hd⟩ := ix_some hd
    refine va_last hx hb hK hP hD hS 3 1 rfl rfl g_4 dX2_setOut_39 (fun H locs hP hD hS => ?_)
    have hP : va_P (dC, dI) vwCl (vX2 cI cJ cZ h0 h1 h2 h3 (upd v_rows v_size.toNatClampNeg p1) (upd v_causes v_size.toNatClampNeg p2) (vp_updL v_values v_size.toNatClampNeg p3) v_size) H := hP
    have hD : va_D A (vX2 cI cJ cZ h0 h1 h2 h3 (upd v_rows v_size.toNatClampNeg p1) (upd v_causes v_size.toNatClampNeg p2) (vp_updL v_values v_size.toNatClampNeg p3) v_size) := hD
    refine lv_aload_n hx hb dX2_setOut_40 rfl (lv_at hl 0 rfl) ?_
    refine lv_dup hx hb dX2_setOut_41 rfl ?_
    refine va_get (D := (dC, dI)) (ci := 2) (v := .int v_size) (C := RX2) (T := TX2) (N := 4) hx hb hT inlX2 hown hK hP 0 rfl rfl 3 (by decide) (hT _ wm_5_11) (fun _ h9 => h9) rfl dX2_setOut_42 ?_
    refine lv_iconst (v := 1) hx hb dX2_setOut_45 (by decide) ?_
    refine lv_iadd hx hb dX2_setOut_46 ?_
    refine va_put (D := (dC, dI)) (ci := 2) (v := .int (v_size + (1 : Int32))) (ty := .int) (C := RX2) (T := TX2) (N := 4) hx hb hT inlX2 tyX2 tyX2_ok nmX2 hown hK hP hD hS 0 rfl rfl 3 (by decide) (hT _ wm_5_11) (fun _ h9 => h9) rfl (tyX2_ok 3 (by decide)) rfl rfl (Nat.le_of_ble_eq_true rfl) dX2_setOut_47 (fun H locs hP hD hS => ?_)
    have hP : va_P (dC, dI) vwCl (vX2 cI cJ cZ h0 h1 h2 h3 (upd v_rows v_size.toNatClampNeg p1) (upd v_causes v_size.toNatClampNeg p2) (vp_updL v_values v_size.toNatClampNeg p3) (v_size + (1 : Int32))) H := hP
    have hD : va_D A (vX2 cI cJ cZ h0 h1 h2 h3 (upd v_rows v_size.toNatClampNeg p1) (upd v_causes v_size.toNatClampNeg p2) (vp_updL v_values v_size.toNatClampNeg p3) (v_size + (1 : Int32))) := hD
    obtain rfl := Option.some.inj hd
    exact my_vret C0 hK hP hD hS dX2_setOut_50
  · replace hd := i_e hd c_1
    obtain rfl := Option.some.inj hd
    exact my_vret C0 hK hP hD hS dX2_setOut_9
def fX2_removeAt (v_rows : Nat → Int32) (v_causes : Nat → Int32) (v_values : Nat → Int64) (v_size : Int32) (p1 : Int32) : Option ((Nat → Int32) × (Nat → Int32) × (Nat → Int64) × Int32) := (fX2_has v_rows v_causes v_values v_size p1).bind (fun u_1 => if u_1 = 0 then (some (v_rows, v_causes, v_values, v_size)) else (cpg (p1 + (1 : Int32)) p1 ((v_size - p1) - (1 : Int32)) 100 100 (cpg (p1 + (1 : Int32)) p1 ((v_size - p1) - (1 : Int32)) 100 100 (cpg (p1 + (1 : Int32)) p1 ((v_size - p1) - (1 : Int32)) 100 100 (some (va_cpy v_rows v_rows (p1 + (1 : Int32)).toNatClampNeg p1.toNatClampNeg ((v_size - p1) - (1 : Int32)).toNatClampNeg, va_cpy v_causes v_causes (p1 + (1 : Int32)).toNatClampNeg p1.toNatClampNeg ((v_size - p1) - (1 : Int32)).toNatClampNeg, va_cpy v_values v_values (p1 + (1 : Int32)).toNatClampNeg p1.toNatClampNeg ((v_size - p1) - (1 : Int32)).toNatClampNeg, v_size - (1 : Int32)))))))
set_option maxHeartbeats 4000000 in
set_option maxRecDepth 100000 in
theorem mX2_removeAt (l : Launch) (dC : Nat → ClassId) (dI : Nat → Nat → Nat) (cI cJ cZ : ClassId) (h0 h1 h2 h3 : Nat) (v_rows : Nat → Int32) (v_causes : Nat → Int32) (v_values : Nat → Int64) (v_size : Int32) (p1 : Int32) {r : (Nat → Int32) × (Nat → Int32) × (Nat → Int64) × Int32} (hd : fX2_removeAt v_rows v_causes v_values v_size p1 = some r) (sz : Nat)  : Met l yX2_removeAt (wS yX2_removeAt cX2_removeAt 3 none) { frames := 1, cells := 0, slots := 0, locals := 21 } (pC (dC, dI) (kT cI cJ cZ) xT (vX2 cI cJ cZ h0 h1 h2 h3 v_rows v_causes v_values v_size) sz [.ref h0, .int p1]) (qV (dC, dI) (kT cI cJ cZ) (vX2 cI cJ cZ h0 h1 h2 h3 r.1 r.2.1 r.2.2.1 r.2.2.2) (va_A (vX2 cI cJ cZ h0 h1 h2 h3 v_rows v_causes v_values v_size) sz)) 0 0 (va_A (vX2 cI cJ cZ h0 h1 h2 h3 v_rows v_causes v_values v_size) sz) := by
  refine my_ent (fun A => qV (dC, dI) (kT cI cJ cZ) (vX2 cI cJ cZ h0 h1 h2 h3 r.1 r.2.1 r.2.2.1 r.2.2.2) A) (by decide) (Nat.le_of_ble_eq_true rfl) ?_
  intro p e s m below meth c A hAe hnm C0 hK hX hP hD hA hS ls hl
  obtain ⟨hx, hb, hml, hown, hT, hr, hlocks⟩ := id C0
  unfold fX2_removeAt at hd
  have hl : lv_has ls 3 [(0, .ref h0), (1, .int p1)] := hl
  refine lv_aload_n hx hb dX2_removeAt_0 rfl (lv_at hl 0 rfl) ?_
  refine lv_iload_n hx hb dX2_removeAt_1 rfl (lv_at hl 1 rfl) ?_
  obtain ⟨u_1, hc_2, hd⟩ := bd hd
  refine cv_i (W' := vX2 cI cJ cZ h0 h1 h2 h3 v_rows v_causes v_values v_size) (Wn := vX2 cI cJ cZ h0 h1 h2 h3 v_rows v_causes v_values v_size) (rest := []) C0 (mX2_has l dC dI cI cJ cZ h0 h1 h2 h3 v_rows v_causes v_values v_size p1 hc_2 _) gv_X2_26 yd_X2_has ⟨rfl, rfl, Nat.le_of_ble_eq_true rfl, Nat.le_of_ble_eq_true rfl, Nat.zero_le _, Nat.zero_le _⟩ xT_b xT_w hK hP hD hS hA 0 4 rfl hl.1 rfl (Nat.le_of_ble_eq_true rfl) dX2_removeAt_2 2 0 rfl rfl rfl (fun H locs hP hD hS => ?_)
  refine lv_if_ne (tgt := 9) hx hb dX2_removeAt_5 (by decide) (fun c_3 => ?_) (fun c_3 => ?_)
  · replace hd := i_e hd c_3
    refine lv_aload_n hx hb dX2_removeAt_9 rfl (lv_at hl 0 rfl) ?_
    refine va_get (D := (dC, dI)) (ci := 2) (v := .int v_size) (C := RX2) (T := TX2) (N := 4) hx hb hT inlX2 hown hK hP 0 rfl rfl 3 (by decide) (hT _ wm_5_11) (fun _ h9 => h9) rfl dX2_removeAt_10 ?_
    refine lv_iload_n hx hb dX2_removeAt_13 rfl (lv_at hl 1 rfl) ?_
    refine lv_isub hx hb dX2_removeAt_14 ?_
    refine lv_iconst (v := 1) hx hb dX2_removeAt_15 (by decide) ?_
    refine lv_isub hx hb dX2_removeAt_16 ?_
    refine lv_istore_n (lv' := [(2, .int ((v_size - p1) - (1 : Int32))), (0, .ref h0), (1, .int p1)]) hx hb dX2_removeAt_17 rfl hl (by decide) rfl (fun ls hl => ?_)
    refine lv_aload_n hx hb dX2_removeAt_18 rfl (lv_at hl 1 rfl) ?_
    refine va_get (D := (dC, dI)) (ci := 2) (v := .ref h1) (C := RX2) (T := TX2) (N := 4) hx hb hT inlX2 hown hK hP 0 rfl rfl 0 (by decide) (hT _ wm_5_8) (fun _ h9 => h9) rfl dX2_removeAt_19 ?_
    refine lv_iload_n hx hb dX2_removeAt_22 rfl (lv_at hl 2 rfl) ?_
    refine lv_iconst (v := 1) hx hb dX2_removeAt_23 (by decide) ?_
    refine lv_iadd hx hb dX2_removeAt_24 ?_
    refine lv_aload_n hx hb dX2_removeAt_25 rfl (lv_at hl 1 rfl) ?_
    refine va_get (D := (dC, dI)) (ci := 2) (v := .ref h1) (C := RX2) (T := TX2) (N := 4) hx hb hT inlX2 hown hK hP 0 rfl rfl 0 (by decide) (hT _ wm_5_8) (fun _ h9 => h9) rfl dX2_removeAt_26 ?_
    refine lv_iload_n hx hb dX2_removeAt_29 rfl (lv_at hl 2 rfl) ?_
    refine lv_iload_n hx hb dX2_removeAt_30 rfl (lv_at hl 0 rfl) ?_
    obtain ⟨g_4, hd⟩ := cpg_some hd
    refine va_copyi hx hb (hml.trans hl.1.symm) hown (hT _ wm_17_17) (hT _ wm_10_8) (hT _ wm_10_9) (hT _ wm_10_10) hK hP hD hS 1 1 0 0 rfl rfl rfl rfl rfl g_4.1 g_4.2.1 g_4.2.2.1 g_4.2.2.2.1 g_4.2.2.2.2 (fun _ _ => rfl) (Nat.le_of_ble_eq_true rfl) (Nat.le_of_ble_eq_true rfl) dX2_removeAt_31 (fun H locs hP hD hS => ?_)
    have hP : va_P (dC, dI) vwCl (vX2 cI cJ cZ h0 h1 h2 h3 (va_cpy v_rows v_rows (p1 + (1 : Int32)).toNatClampNeg p1.toNatClampNeg ((v_size - p1) - (1 : Int32)).toNatClampNeg) v_causes v_values v_size) H := hP
    have hD : va_D A (vX2 cI cJ cZ h0 h1 h2 h3 (va_cpy v_rows v_rows (p1 + (1 : Int32)).toNatClampNeg p1.toNatClampNeg ((v_size - p1) - (1 : Int32)).toNatClampNeg) v_causes v_values v_size) := hD
    refine lv_aload_n hx hb dX2_removeAt_34 rfl (lv_at hl 1 rfl) ?_
    refine va_get (D := (dC, dI)) (ci := 2) (v := .ref h2) (C := RX2) (T := TX2) (N := 4) hx hb hT inlX2 hown hK hP 0 rfl rfl 1 (by decide) (hT _ wm_5_9) (fun _ h9 => h9) rfl dX2_removeAt_35 ?_
    refine lv_iload_n hx hb dX2_removeAt_38 rfl (lv_at hl 2 rfl) ?_
    refine lv_iconst (v := 1) hx hb dX2_removeAt_39 (by decide) ?_
    refine lv_iadd hx hb dX2_removeAt_40 ?_
    refine lv_aload_n hx hb dX2_removeAt_41 rfl (lv_at hl 1 rfl) ?_
    refine va_get (D := (dC, dI)) (ci := 2) (v := .ref h2) (C := RX2) (T := TX2) (N := 4) hx hb hT inlX2 hown hK hP 0 rfl rfl 1 (by decide) (hT _ wm_5_9) (fun _ h9 => h9) rfl dX2_removeAt_42 ?_
    refine lv_iload_n hx hb dX2_removeAt_45 rfl (lv_at hl 2 rfl) ?_
    refine lv_iload_n hx hb dX2_removeAt_46 rfl (lv_at hl 0 rfl) ?_
    obtain ⟨g_5, hd⟩ := cpg_some hd
    refine va_copyi hx hb (hml.trans hl.1.symm) hown (hT _ wm_17_17) (hT _ wm_10_8) (hT _ wm_10_9) (hT _ wm_10_10) hK hP hD hS 2 2 0 0 rfl rfl rfl rfl rfl g_5.1 g_5.2.1 g_5.2.2.1 g_5.2.2.2.1 g_5.2.2.2.2 (fun _ _ => rfl) (Nat.le_of_ble_eq_true rfl) (Nat.le_of_ble_eq_true rfl) dX2_removeAt_47 (fun H locs hP hD hS => ?_)
    have hP : va_P (dC, dI) vwCl (vX2 cI cJ cZ h0 h1 h2 h3 (va_cpy v_rows v_rows (p1 + (1 : Int32)).toNatClampNeg p1.toNatClampNeg ((v_size - p1) - (1 : Int32)).toNatClampNeg) (va_cpy v_causes v_causes (p1 + (1 : Int32)).toNatClampNeg p1.toNatClampNeg ((v_size - p1) - (1 : Int32)).toNatClampNeg) v_values v_size) H := hP
    have hD : va_D A (vX2 cI cJ cZ h0 h1 h2 h3 (va_cpy v_rows v_rows (p1 + (1 : Int32)).toNatClampNeg p1.toNatClampNeg ((v_size - p1) - (1 : Int32)).toNatClampNeg) (va_cpy v_causes v_causes (p1 + (1 : Int32)).toNatClampNeg p1.toNatClampNeg ((v_size - p1) - (1 : Int32)).toNatClampNeg) v_values v_size) := hD
    refine lv_aload_n hx hb dX2_removeAt_50 rfl (lv_at hl 1 rfl) ?_
    refine va_get (D := (dC, dI)) (ci := 2) (v := .ref h3) (C := RX2) (T := TX2) (N := 4) hx hb hT inlX2 hown hK hP 0 rfl rfl 2 (by decide) (hT _ wm_5_10) (fun _ h9 => h9) rfl dX2_removeAt_51 ?_
    refine lv_iload_n hx hb dX2_removeAt_54 rfl (lv_at hl 2 rfl) ?_
    refine lv_iconst (v := 1) hx hb dX2_removeAt_55 (by decide) ?_
    refine lv_iadd hx hb dX2_removeAt_56 ?_
    refine lv_aload_n hx hb dX2_removeAt_57 rfl (lv_at hl 1 rfl) ?_
    refine va_get (D := (dC, dI)) (ci := 2) (v := .ref h3) (C := RX2) (T := TX2) (N := 4) hx hb hT inlX2 hown hK hP 0 rfl rfl 2 (by decide) (hT _ wm_5_10) (fun _ h9 => h9) rfl dX2_removeAt_58 ?_
    refine lv_iload_n hx hb dX2_removeAt_61 rfl (lv_at hl 2 rfl) ?_
    refine lv_iload_n hx hb dX2_removeAt_62 rfl (lv_at hl 0 rfl) ?_
    obtain ⟨g_6, hd⟩ := cpg_some hd
    refine va_copyl hx hb (hml.trans hl.1.symm) hown (hT _ wm_17_17) (hT _ wm_10_8) (hT _ wm_10_9) (hT _ wm_10_10) hK hP hD hS 3 3 1 1 rfl rfl rfl rfl rfl g_6.1 g_6.2.1 g_6.2.2.1 g_6.2.2.2.1 g_6.2.2.2.2 (fun _ _ => rfl) (Nat.le_of_ble_eq_true rfl) (Nat.le_of_ble_eq_true rfl) dX2_removeAt_63 (fun H locs hP hD hS => ?_)
    have hP : va_P (dC, dI) vwCl (vX2 cI cJ cZ h0 h1 h2 h3 (va_cpy v_rows v_rows (p1 + (1 : Int32)).toNatClampNeg p1.toNatClampNeg ((v_size - p1) - (1 : Int32)).toNatClampNeg) (va_cpy v_causes v_causes (p1 + (1 : Int32)).toNatClampNeg p1.toNatClampNeg ((v_size - p1) - (1 : Int32)).toNatClampNeg) (va_cpy v_values v_values (p1 + (1 : Int32)).toNatClampNeg p1.toNatClampNeg ((v_size - p1) - (1 : Int32)).toNatClampNeg) v_size) H := hP
    have hD : va_D A (vX2 cI cJ cZ h0 h1 h2 h3 (va_cpy v_rows v_rows (p1 + (1 : Int32)).toNatClampNeg p1.toNatClampNeg ((v_size - p1) - (1 : Int32)).toNatClampNeg) (va_cpy v_causes v_causes (p1 + (1 : Int32)).toNatClampNeg p1.toNatClampNeg ((v_size - p1) - (1 : Int32)).toNatClampNeg) (va_cpy v_values v_values (p1 + (1 : Int32)).toNatClampNeg p1.toNatClampNeg ((v_size - p1) - (1 : Int32)).toNatClampNeg) v_size) := hD
    refine lv_aload_n hx hb dX2_removeAt_66 rfl (lv_at hl 1 rfl) ?_
    refine lv_dup hx hb dX2_removeAt_67 rfl ?_
    refine va_get (D := (dC, dI)) (ci := 2) (v := .int v_size) (C := RX2) (T := TX2) (N := 4) hx hb hT inlX2 hown hK hP 0 rfl rfl 3 (by decide) (hT _ wm_5_11) (fun _ h9 => h9) rfl dX2_removeAt_68 ?_
    refine lv_iconst (v := 1) hx hb dX2_removeAt_71 (by decide) ?_
    refine lv_isub hx hb dX2_removeAt_72 ?_
    refine va_put (D := (dC, dI)) (ci := 2) (v := .int (v_size - (1 : Int32))) (ty := .int) (C := RX2) (T := TX2) (N := 4) hx hb hT inlX2 tyX2 tyX2_ok nmX2 hown hK hP hD hS 0 rfl rfl 3 (by decide) (hT _ wm_5_11) (fun _ h9 => h9) rfl (tyX2_ok 3 (by decide)) rfl rfl (Nat.le_of_ble_eq_true rfl) dX2_removeAt_73 (fun H locs hP hD hS => ?_)
    have hP : va_P (dC, dI) vwCl (vX2 cI cJ cZ h0 h1 h2 h3 (va_cpy v_rows v_rows (p1 + (1 : Int32)).toNatClampNeg p1.toNatClampNeg ((v_size - p1) - (1 : Int32)).toNatClampNeg) (va_cpy v_causes v_causes (p1 + (1 : Int32)).toNatClampNeg p1.toNatClampNeg ((v_size - p1) - (1 : Int32)).toNatClampNeg) (va_cpy v_values v_values (p1 + (1 : Int32)).toNatClampNeg p1.toNatClampNeg ((v_size - p1) - (1 : Int32)).toNatClampNeg) (v_size - (1 : Int32))) H := hP
    have hD : va_D A (vX2 cI cJ cZ h0 h1 h2 h3 (va_cpy v_rows v_rows (p1 + (1 : Int32)).toNatClampNeg p1.toNatClampNeg ((v_size - p1) - (1 : Int32)).toNatClampNeg) (va_cpy v_causes v_causes (p1 + (1 : Int32)).toNatClampNeg p1.toNatClampNeg ((v_size - p1) - (1 : Int32)).toNatClampNeg) (va_cpy v_values v_values (p1 + (1 : Int32)).toNatClampNeg p1.toNatClampNeg ((v_size - p1) - (1 : Int32)).toNatClampNeg) (v_size - (1 : Int32))) := hD
    obtain rfl := Option.some.inj hd
    exact my_vret C0 hK hP hD hS dX2_removeAt_76
  · replace hd := i_t hd c_3
    obtain rfl := Option.some.inj hd
    exact my_vret C0 hK hP hD hS dX2_removeAt_8
def fX3_write (v_items : Nat → Int32) (v_ticks : Nat → Int32) (p1 : Int32) (p2 : Int32) (p3 : Int32) : Option ((Nat → Int32) × (Nat → Int32)) := if p1 < 0 then (some (v_items, v_ticks)) else (if (300 : Int32) ≤ p1 then (some (v_items, v_ticks)) else (ix p1 300 (ix p1 300 (some (upd v_items p1.toNatClampNeg p2, upd v_ticks p1.toNatClampNeg p3)))))
set_option maxHeartbeats 4000000 in
set_option maxRecDepth 100000 in
theorem mX3_write (l : Launch) (dC : Nat → ClassId) (dI : Nat → Nat → Nat) (cI cJ cZ : ClassId) (h0 h1 h2 : Nat) (v_items : Nat → Int32) (v_ticks : Nat → Int32) (p1 : Int32) (p2 : Int32) (p3 : Int32) {r : (Nat → Int32) × (Nat → Int32)} (hd : fX3_write v_items v_ticks p1 p2 p3 = some r) (sz : Nat)  : Met l yX3_write (wS yX3_write cX3_write 4 none) { frames := 0, cells := 0, slots := 0, locals := 0 } (pC (dC, dI) (kT cI cJ cZ) xT (vX3 cI cJ cZ h0 h1 h2 v_items v_ticks) sz [.ref h0, .int p1, .int p2, .int p3]) (qV (dC, dI) (kT cI cJ cZ) (vX3 cI cJ cZ h0 h1 h2 r.1 r.2) (va_A (vX3 cI cJ cZ h0 h1 h2 v_items v_ticks) sz)) 0 0 (va_A (vX3 cI cJ cZ h0 h1 h2 v_items v_ticks) sz) := by
  refine my_ent (fun A => qV (dC, dI) (kT cI cJ cZ) (vX3 cI cJ cZ h0 h1 h2 r.1 r.2) A) (by decide) (Nat.le_of_ble_eq_true rfl) ?_
  intro p e s m below meth c A hAe hnm C0 hK hX hP hD hA hS ls hl
  obtain ⟨hx, hb, hml, hown, hT, hr, hlocks⟩ := id C0
  unfold fX3_write at hd
  have hl : lv_has ls 4 [(0, .ref h0), (1, .int p1), (2, .int p2), (3, .int p3)] := hl
  refine lv_iload_n hx hb dX3_write_0 rfl (lv_at hl 1 rfl) ?_
  refine lv_if_lt (tgt := 25) hx hb dX3_write_1 (by decide) (fun c_1 => ?_) (fun c_1 => ?_)
  · replace hd := i_t hd c_1
    obtain rfl := Option.some.inj hd
    exact my_vret C0 hK hP hD hS dX3_write_25
  · replace hd := i_e hd c_1
    refine lv_iload_n hx hb dX3_write_4 rfl (lv_at hl 1 rfl) ?_
    refine lv_sipush (v := 300) hx hb dX3_write_5 (by decide) ?_
    refine lv_icmp_ge (tgt := 25) hx hb dX3_write_8 (by decide) (fun c_2 => ?_) (fun c_2 => ?_)
    · replace hd := i_t hd c_2
      obtain rfl := Option.some.inj hd
      exact my_vret C0 hK hP hD hS dX3_write_25
    · replace hd := i_e hd c_2
      refine lv_aload_n hx hb dX3_write_11 rfl (lv_at hl 0 rfl) ?_
      refine va_get (D := (dC, dI)) (ci := 3) (v := .ref h1) (C := RX3) (T := TX3) (N := 2) hx hb hT inlX3 hown hK hP 0 rfl rfl 0 (by decide) (hT _ wm_4_22) (fun _ h9 => h9) rfl dX3_write_12 ?_
      refine lv_iload_n hx hb dX3_write_15 rfl (lv_at hl 1 rfl) ?_
      refine lv_iload_n hx hb dX3_write_16 rfl (lv_at hl 2 rfl) ?_
      obtain ⟨g_3, hd⟩ := ix_some hd
      refine va_iast hx hb hK hP hD hS 1 0 rfl rfl g_3 dX3_write_17 (fun H locs hP hD hS => ?_)
      have hP : va_P (dC, dI) vwCl (vX3 cI cJ cZ h0 h1 h2 (upd v_items p1.toNatClampNeg p2) v_ticks) H := hP
      have hD : va_D A (vX3 cI cJ cZ h0 h1 h2 (upd v_items p1.toNatClampNeg p2) v_ticks) := hD
      refine lv_aload_n hx hb dX3_write_18 rfl (lv_at hl 0 rfl) ?_
      refine va_get (D := (dC, dI)) (ci := 3) (v := .ref h2) (C := RX3) (T := TX3) (N := 2) hx hb hT inlX3 hown hK hP 0 rfl rfl 1 (by decide) (hT _ wm_4_23) (fun _ h9 => h9) rfl dX3_write_19 ?_
      refine lv_iload_n hx hb dX3_write_22 rfl (lv_at hl 1 rfl) ?_
      refine lv_iload_n hx hb dX3_write_23 rfl (lv_at hl 3 rfl) ?_
      obtain ⟨g_4, hd⟩ := ix_some hd
      refine va_iast hx hb hK hP hD hS 2 0 rfl rfl g_4 dX3_write_24 (fun H locs hP hD hS => ?_)
      have hP : va_P (dC, dI) vwCl (vX3 cI cJ cZ h0 h1 h2 (upd v_items p1.toNatClampNeg p2) (upd v_ticks p1.toNatClampNeg p3)) H := hP
      have hD : va_D A (vX3 cI cJ cZ h0 h1 h2 (upd v_items p1.toNatClampNeg p2) (upd v_ticks p1.toNatClampNeg p3)) := hD
      obtain rfl := Option.some.inj hd
      exact my_vret C0 hK hP hD hS dX3_write_25
def fX3_itemAt (v_items : Nat → Int32) (v_ticks : Nat → Int32) (p1 : Int32) : Option (Int32) := if p1 < 0 then (some (-1 : Int32)) else (if (300 : Int32) ≤ p1 then (some (-1 : Int32)) else (ix p1 300 (some (v_items p1.toNatClampNeg))))
set_option maxHeartbeats 4000000 in
set_option maxRecDepth 100000 in
theorem mX3_itemAt (l : Launch) (dC : Nat → ClassId) (dI : Nat → Nat → Nat) (cI cJ cZ : ClassId) (h0 h1 h2 : Nat) (v_items : Nat → Int32) (v_ticks : Nat → Int32) (p1 : Int32) {r : Int32} (hd : fX3_itemAt v_items v_ticks p1 = some r) (sz : Nat)  : Met l yX3_itemAt (wS yX3_itemAt cX3_itemAt 2 (some .int)) { frames := 0, cells := 0, slots := 0, locals := 0 } (pC (dC, dI) (kT cI cJ cZ) xT (vX3 cI cJ cZ h0 h1 h2 v_items v_ticks) sz [.ref h0, .int p1]) (qI (dC, dI) (kT cI cJ cZ) (vX3 cI cJ cZ h0 h1 h2 v_items v_ticks) (va_A (vX3 cI cJ cZ h0 h1 h2 v_items v_ticks) sz) r) 0 0 (va_A (vX3 cI cJ cZ h0 h1 h2 v_items v_ticks) sz) := by
  refine my_ent (fun A => qI (dC, dI) (kT cI cJ cZ) (vX3 cI cJ cZ h0 h1 h2 v_items v_ticks) A r) (by decide) (Nat.le_of_ble_eq_true rfl) ?_
  intro p e s m below meth c A hAe hnm C0 hK hX hP hD hA hS ls hl
  obtain ⟨hx, hb, hml, hown, hT, hr, hlocks⟩ := id C0
  unfold fX3_itemAt at hd
  have hl : lv_has ls 2 [(0, .ref h0), (1, .int p1)] := hl
  refine lv_iload_n hx hb dX3_itemAt_0 rfl (lv_at hl 1 rfl) ?_
  refine lv_if_lt (tgt := 20) hx hb dX3_itemAt_1 (by decide) (fun c_1 => ?_) (fun c_1 => ?_)
  · replace hd := i_t hd c_1
    refine lv_iconst (v := (-1)) hx hb dX3_itemAt_20 (by decide) ?_
    obtain rfl := Option.some.inj hd
    exact my_iret C0 hK hP hD hS dX3_itemAt_21
  · replace hd := i_e hd c_1
    refine lv_iload_n hx hb dX3_itemAt_4 rfl (lv_at hl 1 rfl) ?_
    refine lv_sipush (v := 300) hx hb dX3_itemAt_5 (by decide) ?_
    refine lv_icmp_ge (tgt := 20) hx hb dX3_itemAt_8 (by decide) (fun c_2 => ?_) (fun c_2 => ?_)
    · replace hd := i_t hd c_2
      refine lv_iconst (v := (-1)) hx hb dX3_itemAt_20 (by decide) ?_
      obtain rfl := Option.some.inj hd
      exact my_iret C0 hK hP hD hS dX3_itemAt_21
    · replace hd := i_e hd c_2
      refine lv_aload_n hx hb dX3_itemAt_11 rfl (lv_at hl 0 rfl) ?_
      refine va_get (D := (dC, dI)) (ci := 3) (v := .ref h1) (C := RX3) (T := TX3) (N := 2) hx hb hT inlX3 hown hK hP 0 rfl rfl 0 (by decide) (hT _ wm_4_22) (fun _ h9 => h9) rfl dX3_itemAt_12 ?_
      refine lv_iload_n hx hb dX3_itemAt_15 rfl (lv_at hl 1 rfl) ?_
      obtain ⟨g_3, hd⟩ := ix_some hd
      refine va_iald hx hb hK hP 1 0 rfl rfl g_3 dX3_itemAt_16 ?_
      refine lv_goto (tgt := 21) hx hb dX3_itemAt_17 (by decide) ?_
      obtain rfl := Option.some.inj hd
      exact my_iret C0 hK hP hD hS dX3_itemAt_21
def fX3_tickAt (v_items : Nat → Int32) (v_ticks : Nat → Int32) (p1 : Int32) : Option (Int32) := if p1 < 0 then (some (-1 : Int32)) else (if (300 : Int32) ≤ p1 then (some (-1 : Int32)) else (ix p1 300 (some (v_ticks p1.toNatClampNeg))))
set_option maxHeartbeats 4000000 in
set_option maxRecDepth 100000 in
theorem mX3_tickAt (l : Launch) (dC : Nat → ClassId) (dI : Nat → Nat → Nat) (cI cJ cZ : ClassId) (h0 h1 h2 : Nat) (v_items : Nat → Int32) (v_ticks : Nat → Int32) (p1 : Int32) {r : Int32} (hd : fX3_tickAt v_items v_ticks p1 = some r) (sz : Nat)  : Met l yX3_tickAt (wS yX3_tickAt cX3_tickAt 2 (some .int)) { frames := 0, cells := 0, slots := 0, locals := 0 } (pC (dC, dI) (kT cI cJ cZ) xT (vX3 cI cJ cZ h0 h1 h2 v_items v_ticks) sz [.ref h0, .int p1]) (qI (dC, dI) (kT cI cJ cZ) (vX3 cI cJ cZ h0 h1 h2 v_items v_ticks) (va_A (vX3 cI cJ cZ h0 h1 h2 v_items v_ticks) sz) r) 0 0 (va_A (vX3 cI cJ cZ h0 h1 h2 v_items v_ticks) sz) := by
  refine my_ent (fun A => qI (dC, dI) (kT cI cJ cZ) (vX3 cI cJ cZ h0 h1 h2 v_items v_ticks) A r) (by decide) (Nat.le_of_ble_eq_true rfl) ?_
  intro p e s m below meth c A hAe hnm C0 hK hX hP hD hA hS ls hl
  obtain ⟨hx, hb, hml, hown, hT, hr, hlocks⟩ := id C0
  unfold fX3_tickAt at hd
  have hl : lv_has ls 2 [(0, .ref h0), (1, .int p1)] := hl
  refine lv_iload_n hx hb dX3_tickAt_0 rfl (lv_at hl 1 rfl) ?_
  refine lv_if_lt (tgt := 20) hx hb dX3_tickAt_1 (by decide) (fun c_1 => ?_) (fun c_1 => ?_)
  · replace hd := i_t hd c_1
    refine lv_iconst (v := (-1)) hx hb dX3_tickAt_20 (by decide) ?_
    obtain rfl := Option.some.inj hd
    exact my_iret C0 hK hP hD hS dX3_tickAt_21
  · replace hd := i_e hd c_1
    refine lv_iload_n hx hb dX3_tickAt_4 rfl (lv_at hl 1 rfl) ?_
    refine lv_sipush (v := 300) hx hb dX3_tickAt_5 (by decide) ?_
    refine lv_icmp_ge (tgt := 20) hx hb dX3_tickAt_8 (by decide) (fun c_2 => ?_) (fun c_2 => ?_)
    · replace hd := i_t hd c_2
      refine lv_iconst (v := (-1)) hx hb dX3_tickAt_20 (by decide) ?_
      obtain rfl := Option.some.inj hd
      exact my_iret C0 hK hP hD hS dX3_tickAt_21
    · replace hd := i_e hd c_2
      refine lv_aload_n hx hb dX3_tickAt_11 rfl (lv_at hl 0 rfl) ?_
      refine va_get (D := (dC, dI)) (ci := 3) (v := .ref h2) (C := RX3) (T := TX3) (N := 2) hx hb hT inlX3 hown hK hP 0 rfl rfl 1 (by decide) (hT _ wm_4_23) (fun _ h9 => h9) rfl dX3_tickAt_12 ?_
      refine lv_iload_n hx hb dX3_tickAt_15 rfl (lv_at hl 1 rfl) ?_
      obtain ⟨g_3, hd⟩ := ix_some hd
      refine va_iald hx hb hK hP 2 0 rfl rfl g_3 dX3_tickAt_16 ?_
      refine lv_goto (tgt := 21) hx hb dX3_tickAt_17 (by decide) ?_
      obtain rfl := Option.some.inj hd
      exact my_iret C0 hK hP hD hS dX3_tickAt_21
