abbrev wX0 (cI cJ cZ : ClassId) (ad : Nat → Nat) : va_W := vX0 cI cJ cZ (ad 0) (ad 1) (ad 2) (ad 3) (ad 4) (fun _ => 0) (fun _ => 0) (fun _ => 0) (fun _ => 0)
set_option maxHeartbeats 4000000 in
set_option maxRecDepth 100000 in
theorem mX0_init (l : Launch) (dC : Nat → ClassId) (dI : Nat → Nat → Nat) (cI cJ cZ : ClassId) (h0 : Nat)  (sz : Nat) : Met l yX0_init (wS yX0_init cX0_init 1 none) ({ frames := 1, cells := 4, slots := 1200, locals := 12 }) (pC (dC, dI) (kT cI cJ cZ) xT [(h0, .inr (0, [.null, .null, .null, .null]))] sz [.ref h0]) (qN (dC, dI) (kT cI cJ cZ) h0 (wX0 cI cJ cZ) (va_A [(h0, .inr (0, [.null, .null, .null, .null]))] sz)) 4 1200 (va_A [(h0, .inr (0, [.null, .null, .null, .null]))] sz) := by
  refine my_ent2 (fun A => qN (dC, dI) (kT cI cJ cZ) h0 (wX0 cI cJ cZ) A) (by decide) (Nat.le_of_ble_eq_true rfl) ?_
  intro p e s m below meth c A hszE hAe hnm C0 hK hX hP hD hA hS ls hl
  obtain ⟨hx, hb, hml, hown, hT, hr, hlocks⟩ := id C0
  have hl : lv_has ls 1 [(0, .ref h0)] := hl
  refine lv_aload_n hx hb dX0_init_0 rfl (lv_at hl 0 rfl) ?_
  refine W.objInit hx hb hown (hT _ wm_4_0) (hT _ wm_1_15) (hT _ wm_1_16) rfl (by rw [hml]; exact hl.1) rfl dX0_init_1 (Nat.le_of_ble_eq_true rfl) (Nat.le_of_ble_eq_true rfl) ?_
  refine W.eq (g2 := F0 m 4 ls []) rfl ?_
  refine lv_aload_n hx hb dX0_init_4 rfl (lv_at hl 0 rfl) ?_
  refine lv_sipush (v := 300) hx hb dX0_init_5 (by decide) ?_
  refine nw_J C0 hK hP hD hS hA 300 (by decide) rfl (Nat.le_of_ble_eq_true rfl) (Nat.le_of_ble_eq_true rfl) (Nat.le_of_ble_eq_true rfl) dX0_init_8 (fun q1 H hP hD hS => ?_)
  have hP : va_P (dC, dI) vwCl ([(h0, .inr (0, [.null, .null, .null, .null])), (q1, .inl (cJ, 300, .inr (.inl (fun _ => 0))))]) H := hP
  have hD : va_D A ([(h0, .inr (0, [.null, .null, .null, .null])), (q1, .inl (cJ, 300, .inr (.inl (fun _ => 0))))]) := hD
  refine W.widen (k := 1) (n := 300) (by decide) (by decide) ?_
  refine va_putF (D := (dC, dI)) (ci := 0) (v := .ref q1) (ty := tyX0 0) (C := RX0) (T := TX0) (N := 4) hx hb hT inlX0 tyX0 tyX0_ok nmX0 hown hK hP hD hS 0 rfl rfl 0 (by decide) (hT _ wm_4_2) (fun _ h9 => h9) rfl hnm.symm rfl (tyX0_ok 0 (by decide)) rfl rfl (Nat.le_of_ble_eq_true rfl) dX0_init_10 (fun H locs hP hD hS => ?_)
  have hP : va_P (dC, dI) vwCl ([(h0, .inr (0, [.ref q1, .null, .null, .null])), (q1, .inl (cJ, 300, .inr (.inl (fun _ => 0))))]) H := hP
  have hD : va_D A ([(h0, .inr (0, [.ref q1, .null, .null, .null])), (q1, .inl (cJ, 300, .inr (.inl (fun _ => 0))))]) := hD
  refine W.eq (g2 := F0 m 13 ls []) rfl ?_
  refine lv_aload_n hx hb dX0_init_13 rfl (lv_at hl 0 rfl) ?_
  refine lv_sipush (v := 300) hx hb dX0_init_14 (by decide) ?_
  refine nw_J C0 hK hP hD hS hA 300 (by decide) rfl (Nat.le_of_ble_eq_true rfl) (Nat.le_of_ble_eq_true rfl) (Nat.le_of_ble_eq_true rfl) dX0_init_17 (fun q2 H hP hD hS => ?_)
  have hP : va_P (dC, dI) vwCl ([(h0, .inr (0, [.ref q1, .null, .null, .null])), (q1, .inl (cJ, 300, .inr (.inl (fun _ => 0)))), (q2, .inl (cJ, 300, .inr (.inl (fun _ => 0))))]) H := hP
  have hD : va_D A ([(h0, .inr (0, [.ref q1, .null, .null, .null])), (q1, .inl (cJ, 300, .inr (.inl (fun _ => 0)))), (q2, .inl (cJ, 300, .inr (.inl (fun _ => 0))))]) := hD
  refine W.widen (k := 2) (n := 600) (by decide) (by decide) ?_
  refine va_putF (D := (dC, dI)) (ci := 0) (v := .ref q2) (ty := tyX0 1) (C := RX0) (T := TX0) (N := 4) hx hb hT inlX0 tyX0 tyX0_ok nmX0 hown hK hP hD hS 0 rfl rfl 1 (by decide) (hT _ wm_4_3) (fun _ h9 => h9) rfl hnm.symm rfl (tyX0_ok 1 (by decide)) rfl rfl (Nat.le_of_ble_eq_true rfl) dX0_init_19 (fun H locs hP hD hS => ?_)
  have hP : va_P (dC, dI) vwCl ([(h0, .inr (0, [.ref q1, .ref q2, .null, .null])), (q1, .inl (cJ, 300, .inr (.inl (fun _ => 0)))), (q2, .inl (cJ, 300, .inr (.inl (fun _ => 0))))]) H := hP
  have hD : va_D A ([(h0, .inr (0, [.ref q1, .ref q2, .null, .null])), (q1, .inl (cJ, 300, .inr (.inl (fun _ => 0)))), (q2, .inl (cJ, 300, .inr (.inl (fun _ => 0))))]) := hD
  refine W.eq (g2 := F0 m 22 ls []) rfl ?_
  refine lv_aload_n hx hb dX0_init_22 rfl (lv_at hl 0 rfl) ?_
  refine lv_sipush (v := 300) hx hb dX0_init_23 (by decide) ?_
  refine nw_Z C0 hK hP hD hS hA 300 (by decide) rfl (Nat.le_of_ble_eq_true rfl) (Nat.le_of_ble_eq_true rfl) (Nat.le_of_ble_eq_true rfl) dX0_init_26 (fun q3 H hP hD hS => ?_)
  have hP : va_P (dC, dI) vwCl ([(h0, .inr (0, [.ref q1, .ref q2, .null, .null])), (q1, .inl (cJ, 300, .inr (.inl (fun _ => 0)))), (q2, .inl (cJ, 300, .inr (.inl (fun _ => 0)))), (q3, .inl (cZ, 300, .inl (fun _ => 0)))]) H := hP
  have hD : va_D A ([(h0, .inr (0, [.ref q1, .ref q2, .null, .null])), (q1, .inl (cJ, 300, .inr (.inl (fun _ => 0)))), (q2, .inl (cJ, 300, .inr (.inl (fun _ => 0)))), (q3, .inl (cZ, 300, .inl (fun _ => 0)))]) := hD
  refine W.widen (k := 3) (n := 900) (by decide) (by decide) ?_
  refine va_putF (D := (dC, dI)) (ci := 0) (v := .ref q3) (ty := tyX0 2) (C := RX0) (T := TX0) (N := 4) hx hb hT inlX0 tyX0 tyX0_ok nmX0 hown hK hP hD hS 0 rfl rfl 2 (by decide) (hT _ wm_4_5) (fun _ h9 => h9) rfl hnm.symm rfl (tyX0_ok 2 (by decide)) rfl rfl (Nat.le_of_ble_eq_true rfl) dX0_init_28 (fun H locs hP hD hS => ?_)
  have hP : va_P (dC, dI) vwCl ([(h0, .inr (0, [.ref q1, .ref q2, .ref q3, .null])), (q1, .inl (cJ, 300, .inr (.inl (fun _ => 0)))), (q2, .inl (cJ, 300, .inr (.inl (fun _ => 0)))), (q3, .inl (cZ, 300, .inl (fun _ => 0)))]) H := hP
  have hD : va_D A ([(h0, .inr (0, [.ref q1, .ref q2, .ref q3, .null])), (q1, .inl (cJ, 300, .inr (.inl (fun _ => 0)))), (q2, .inl (cJ, 300, .inr (.inl (fun _ => 0)))), (q3, .inl (cZ, 300, .inl (fun _ => 0)))]) := hD
  refine W.eq (g2 := F0 m 31 ls []) rfl ?_
  refine lv_aload_n hx hb dX0_init_31 rfl (lv_at hl 0 rfl) ?_
  refine lv_sipush (v := 300) hx hb dX0_init_32 (by decide) ?_
  refine nw_I C0 hK hP hD hS hA 300 (by decide) rfl (Nat.le_of_ble_eq_true rfl) (Nat.le_of_ble_eq_true rfl) (Nat.le_of_ble_eq_true rfl) dX0_init_35 (fun q4 H hP hD hS => ?_)
  have hP : va_P (dC, dI) vwCl ([(h0, .inr (0, [.ref q1, .ref q2, .ref q3, .null])), (q1, .inl (cJ, 300, .inr (.inl (fun _ => 0)))), (q2, .inl (cJ, 300, .inr (.inl (fun _ => 0)))), (q3, .inl (cZ, 300, .inl (fun _ => 0))), (q4, .inl (cI, 300, .inl (fun _ => 0)))]) H := hP
  have hD : va_D A ([(h0, .inr (0, [.ref q1, .ref q2, .ref q3, .null])), (q1, .inl (cJ, 300, .inr (.inl (fun _ => 0)))), (q2, .inl (cJ, 300, .inr (.inl (fun _ => 0)))), (q3, .inl (cZ, 300, .inl (fun _ => 0))), (q4, .inl (cI, 300, .inl (fun _ => 0)))]) := hD
  refine W.widen (k := 4) (n := 1200) (by decide) (by decide) ?_
  refine va_putF (D := (dC, dI)) (ci := 0) (v := .ref q4) (ty := tyX0 3) (C := RX0) (T := TX0) (N := 4) hx hb hT inlX0 tyX0 tyX0_ok nmX0 hown hK hP hD hS 0 rfl rfl 3 (by decide) (hT _ wm_4_7) (fun _ h9 => h9) rfl hnm.symm rfl (tyX0_ok 3 (by decide)) rfl rfl (Nat.le_of_ble_eq_true rfl) dX0_init_37 (fun H locs hP hD hS => ?_)
  have hP : va_P (dC, dI) vwCl ([(h0, .inr (0, [.ref q1, .ref q2, .ref q3, .ref q4])), (q1, .inl (cJ, 300, .inr (.inl (fun _ => 0)))), (q2, .inl (cJ, 300, .inr (.inl (fun _ => 0)))), (q3, .inl (cZ, 300, .inl (fun _ => 0))), (q4, .inl (cI, 300, .inl (fun _ => 0)))]) H := hP
  have hD : va_D A ([(h0, .inr (0, [.ref q1, .ref q2, .ref q3, .ref q4])), (q1, .inl (cJ, 300, .inr (.inl (fun _ => 0)))), (q2, .inl (cJ, 300, .inr (.inl (fun _ => 0)))), (q3, .inl (cZ, 300, .inl (fun _ => 0))), (q4, .inl (cI, 300, .inl (fun _ => 0)))]) := hD
  refine W.eq (g2 := F0 m 40 ls []) rfl ?_
  exact my_nret (Wf := wX0 cI cJ cZ) (fun k => ([h0, q1, q2, q3, q4] : List Nat).getD k 0) rfl C0 hK hP hD hS dX0_init_40
abbrev wX1 (cI cJ cZ : ClassId) (ad : Nat → Nat) : va_W := vX1 cI cJ cZ (ad 0) (ad 1) (ad 2) (ad 3) (fun _ => 0) (fun _ => 0) (fun _ => 0) 0
set_option maxHeartbeats 4000000 in
set_option maxRecDepth 100000 in
theorem mX1_init (l : Launch) (dC : Nat → ClassId) (dI : Nat → Nat → Nat) (cI cJ cZ : ClassId) (h0 : Nat)  (sz : Nat) : Met l yX1_init (wS yX1_init cX1_init 1 none) ({ frames := 1, cells := 3, slots := 24, locals := 12 }) (pC (dC, dI) (kT cI cJ cZ) xT [(h0, .inr (1, [.null, .null, .null, .int 0]))] sz [.ref h0]) (qN (dC, dI) (kT cI cJ cZ) h0 (wX1 cI cJ cZ) (va_A [(h0, .inr (1, [.null, .null, .null, .int 0]))] sz)) 3 24 (va_A [(h0, .inr (1, [.null, .null, .null, .int 0]))] sz) := by
  refine my_ent2 (fun A => qN (dC, dI) (kT cI cJ cZ) h0 (wX1 cI cJ cZ) A) (by decide) (Nat.le_of_ble_eq_true rfl) ?_
  intro p e s m below meth c A hszE hAe hnm C0 hK hX hP hD hA hS ls hl
  obtain ⟨hx, hb, hml, hown, hT, hr, hlocks⟩ := id C0
  have hl : lv_has ls 1 [(0, .ref h0)] := hl
  refine lv_aload_n hx hb dX1_init_0 rfl (lv_at hl 0 rfl) ?_
  refine W.objInit hx hb hown (hT _ wm_5_20) (hT _ wm_1_15) (hT _ wm_1_16) rfl (by rw [hml]; exact hl.1) rfl dX1_init_1 (Nat.le_of_ble_eq_true rfl) (Nat.le_of_ble_eq_true rfl) ?_
  refine W.eq (g2 := F0 m 4 ls []) rfl ?_
  refine lv_aload_n hx hb dX1_init_4 rfl (lv_at hl 0 rfl) ?_
  refine lv_bipush (v := 8) hx hb dX1_init_5 (by decide) ?_
  refine nw_J C0 hK hP hD hS hA 8 (by decide) rfl (Nat.le_of_ble_eq_true rfl) (Nat.le_of_ble_eq_true rfl) (Nat.le_of_ble_eq_true rfl) dX1_init_7 (fun q1 H hP hD hS => ?_)
  have hP : va_P (dC, dI) vwCl ([(h0, .inr (1, [.null, .null, .null, .int 0])), (q1, .inl (cJ, 8, .inr (.inl (fun _ => 0))))]) H := hP
  have hD : va_D A ([(h0, .inr (1, [.null, .null, .null, .int 0])), (q1, .inl (cJ, 8, .inr (.inl (fun _ => 0))))]) := hD
  refine W.widen (k := 1) (n := 8) (by decide) (by decide) ?_
  refine va_putF (D := (dC, dI)) (ci := 1) (v := .ref q1) (ty := tyX1 0) (C := RX1) (T := TX1) (N := 4) hx hb hT inlX1 tyX1 tyX1_ok nmX1 hown hK hP hD hS 0 rfl rfl 0 (by decide) (hT _ wm_5_21) (fun _ h9 => h9) rfl hnm.symm rfl (tyX1_ok 0 (by decide)) rfl rfl (Nat.le_of_ble_eq_true rfl) dX1_init_9 (fun H locs hP hD hS => ?_)
  have hP : va_P (dC, dI) vwCl ([(h0, .inr (1, [.ref q1, .null, .null, .int 0])), (q1, .inl (cJ, 8, .inr (.inl (fun _ => 0))))]) H := hP
  have hD : va_D A ([(h0, .inr (1, [.ref q1, .null, .null, .int 0])), (q1, .inl (cJ, 8, .inr (.inl (fun _ => 0))))]) := hD
  refine W.eq (g2 := F0 m 12 ls []) rfl ?_
  refine lv_aload_n hx hb dX1_init_12 rfl (lv_at hl 0 rfl) ?_
  refine lv_bipush (v := 8) hx hb dX1_init_13 (by decide) ?_
  refine nw_J C0 hK hP hD hS hA 8 (by decide) rfl (Nat.le_of_ble_eq_true rfl) (Nat.le_of_ble_eq_true rfl) (Nat.le_of_ble_eq_true rfl) dX1_init_15 (fun q2 H hP hD hS => ?_)
  have hP : va_P (dC, dI) vwCl ([(h0, .inr (1, [.ref q1, .null, .null, .int 0])), (q1, .inl (cJ, 8, .inr (.inl (fun _ => 0)))), (q2, .inl (cJ, 8, .inr (.inl (fun _ => 0))))]) H := hP
  have hD : va_D A ([(h0, .inr (1, [.ref q1, .null, .null, .int 0])), (q1, .inl (cJ, 8, .inr (.inl (fun _ => 0)))), (q2, .inl (cJ, 8, .inr (.inl (fun _ => 0))))]) := hD
  refine W.widen (k := 2) (n := 16) (by decide) (by decide) ?_
  refine va_putF (D := (dC, dI)) (ci := 1) (v := .ref q2) (ty := tyX1 1) (C := RX1) (T := TX1) (N := 4) hx hb hT inlX1 tyX1 tyX1_ok nmX1 hown hK hP hD hS 0 rfl rfl 1 (by decide) (hT _ wm_5_22) (fun _ h9 => h9) rfl hnm.symm rfl (tyX1_ok 1 (by decide)) rfl rfl (Nat.le_of_ble_eq_true rfl) dX1_init_17 (fun H locs hP hD hS => ?_)
  have hP : va_P (dC, dI) vwCl ([(h0, .inr (1, [.ref q1, .ref q2, .null, .int 0])), (q1, .inl (cJ, 8, .inr (.inl (fun _ => 0)))), (q2, .inl (cJ, 8, .inr (.inl (fun _ => 0))))]) H := hP
  have hD : va_D A ([(h0, .inr (1, [.ref q1, .ref q2, .null, .int 0])), (q1, .inl (cJ, 8, .inr (.inl (fun _ => 0)))), (q2, .inl (cJ, 8, .inr (.inl (fun _ => 0))))]) := hD
  refine W.eq (g2 := F0 m 20 ls []) rfl ?_
  refine lv_aload_n hx hb dX1_init_20 rfl (lv_at hl 0 rfl) ?_
  refine lv_bipush (v := 8) hx hb dX1_init_21 (by decide) ?_
  refine nw_I C0 hK hP hD hS hA 8 (by decide) rfl (Nat.le_of_ble_eq_true rfl) (Nat.le_of_ble_eq_true rfl) (Nat.le_of_ble_eq_true rfl) dX1_init_23 (fun q3 H hP hD hS => ?_)
  have hP : va_P (dC, dI) vwCl ([(h0, .inr (1, [.ref q1, .ref q2, .null, .int 0])), (q1, .inl (cJ, 8, .inr (.inl (fun _ => 0)))), (q2, .inl (cJ, 8, .inr (.inl (fun _ => 0)))), (q3, .inl (cI, 8, .inl (fun _ => 0)))]) H := hP
  have hD : va_D A ([(h0, .inr (1, [.ref q1, .ref q2, .null, .int 0])), (q1, .inl (cJ, 8, .inr (.inl (fun _ => 0)))), (q2, .inl (cJ, 8, .inr (.inl (fun _ => 0)))), (q3, .inl (cI, 8, .inl (fun _ => 0)))]) := hD
  refine W.widen (k := 3) (n := 24) (by decide) (by decide) ?_
  refine va_putF (D := (dC, dI)) (ci := 1) (v := .ref q3) (ty := tyX1 2) (C := RX1) (T := TX1) (N := 4) hx hb hT inlX1 tyX1 tyX1_ok nmX1 hown hK hP hD hS 0 rfl rfl 2 (by decide) (hT _ wm_5_23) (fun _ h9 => h9) rfl hnm.symm rfl (tyX1_ok 2 (by decide)) rfl rfl (Nat.le_of_ble_eq_true rfl) dX1_init_25 (fun H locs hP hD hS => ?_)
  have hP : va_P (dC, dI) vwCl ([(h0, .inr (1, [.ref q1, .ref q2, .ref q3, .int 0])), (q1, .inl (cJ, 8, .inr (.inl (fun _ => 0)))), (q2, .inl (cJ, 8, .inr (.inl (fun _ => 0)))), (q3, .inl (cI, 8, .inl (fun _ => 0)))]) H := hP
  have hD : va_D A ([(h0, .inr (1, [.ref q1, .ref q2, .ref q3, .int 0])), (q1, .inl (cJ, 8, .inr (.inl (fun _ => 0)))), (q2, .inl (cJ, 8, .inr (.inl (fun _ => 0)))), (q3, .inl (cI, 8, .inl (fun _ => 0)))]) := hD
  refine W.eq (g2 := F0 m 28 ls []) rfl ?_
  refine lv_aload_n hx hb dX1_init_28 rfl (lv_at hl 0 rfl) ?_
  refine lv_iconst (v := 0) hx hb dX1_init_29 (by decide) ?_
  refine va_put (D := (dC, dI)) (ci := 1) (v := .int 0) (ty := tyX1 3) (C := RX1) (T := TX1) (N := 4) hx hb hT inlX1 tyX1 tyX1_ok nmX1 hown hK hP hD hS 0 rfl rfl 3 (by decide) (hT _ wm_6_0) (fun _ h9 => h9) rfl (tyX1_ok 3 (by decide)) rfl rfl (Nat.le_of_ble_eq_true rfl) dX1_init_30 (fun H locs hP hD hS => ?_)
  have hP : va_P (dC, dI) vwCl ([(h0, .inr (1, [.ref q1, .ref q2, .ref q3, .int 0])), (q1, .inl (cJ, 8, .inr (.inl (fun _ => 0)))), (q2, .inl (cJ, 8, .inr (.inl (fun _ => 0)))), (q3, .inl (cI, 8, .inl (fun _ => 0)))]) H := hP
  have hD : va_D A ([(h0, .inr (1, [.ref q1, .ref q2, .ref q3, .int 0])), (q1, .inl (cJ, 8, .inr (.inl (fun _ => 0)))), (q2, .inl (cJ, 8, .inr (.inl (fun _ => 0)))), (q3, .inl (cI, 8, .inl (fun _ => 0)))]) := hD
  refine W.eq (g2 := F0 m 33 ls []) rfl ?_
  exact my_nret (Wf := wX1 cI cJ cZ) (fun k => ([h0, q1, q2, q3] : List Nat).getD k 0) rfl C0 hK hP hD hS dX1_init_33
abbrev wX2 (cI cJ cZ : ClassId) (ad : Nat → Nat) : va_W := vX2 cI cJ cZ (ad 0) (ad 1) (ad 2) (ad 3) (fun _ => 0) (fun _ => 0) (fun _ => 0) 0
set_option maxHeartbeats 4000000 in
set_option maxRecDepth 100000 in
theorem mX2_init (l : Launch) (dC : Nat → ClassId) (dI : Nat → Nat → Nat) (cI cJ cZ : ClassId) (h0 : Nat)  (sz : Nat) : Met l yX2_init (wS yX2_init cX2_init 1 none) ({ frames := 1, cells := 3, slots := 300, locals := 12 }) (pC (dC, dI) (kT cI cJ cZ) xT [(h0, .inr (2, [.null, .null, .null, .int 0]))] sz [.ref h0]) (qN (dC, dI) (kT cI cJ cZ) h0 (wX2 cI cJ cZ) (va_A [(h0, .inr (2, [.null, .null, .null, .int 0]))] sz)) 3 300 (va_A [(h0, .inr (2, [.null, .null, .null, .int 0]))] sz) := by
  refine my_ent2 (fun A => qN (dC, dI) (kT cI cJ cZ) h0 (wX2 cI cJ cZ) A) (by decide) (Nat.le_of_ble_eq_true rfl) ?_
  intro p e s m below meth c A hszE hAe hnm C0 hK hX hP hD hA hS ls hl
  obtain ⟨hx, hb, hml, hown, hT, hr, hlocks⟩ := id C0
  have hl : lv_has ls 1 [(0, .ref h0)] := hl
  refine lv_aload_n hx hb dX2_init_0 rfl (lv_at hl 0 rfl) ?_
  refine W.objInit hx hb hown (hT _ wm_5_7) (hT _ wm_1_15) (hT _ wm_1_16) rfl (by rw [hml]; exact hl.1) rfl dX2_init_1 (Nat.le_of_ble_eq_true rfl) (Nat.le_of_ble_eq_true rfl) ?_
  refine W.eq (g2 := F0 m 4 ls []) rfl ?_
  refine lv_aload_n hx hb dX2_init_4 rfl (lv_at hl 0 rfl) ?_
  refine lv_bipush (v := 100) hx hb dX2_init_5 (by decide) ?_
  refine nw_I C0 hK hP hD hS hA 100 (by decide) rfl (Nat.le_of_ble_eq_true rfl) (Nat.le_of_ble_eq_true rfl) (Nat.le_of_ble_eq_true rfl) dX2_init_7 (fun q1 H hP hD hS => ?_)
  have hP : va_P (dC, dI) vwCl ([(h0, .inr (2, [.null, .null, .null, .int 0])), (q1, .inl (cI, 100, .inl (fun _ => 0)))]) H := hP
  have hD : va_D A ([(h0, .inr (2, [.null, .null, .null, .int 0])), (q1, .inl (cI, 100, .inl (fun _ => 0)))]) := hD
  refine W.widen (k := 1) (n := 100) (by decide) (by decide) ?_
  refine va_putF (D := (dC, dI)) (ci := 2) (v := .ref q1) (ty := tyX2 0) (C := RX2) (T := TX2) (N := 4) hx hb hT inlX2 tyX2 tyX2_ok nmX2 hown hK hP hD hS 0 rfl rfl 0 (by decide) (hT _ wm_5_8) (fun _ h9 => h9) rfl hnm.symm rfl (tyX2_ok 0 (by decide)) rfl rfl (Nat.le_of_ble_eq_true rfl) dX2_init_9 (fun H locs hP hD hS => ?_)
  have hP : va_P (dC, dI) vwCl ([(h0, .inr (2, [.ref q1, .null, .null, .int 0])), (q1, .inl (cI, 100, .inl (fun _ => 0)))]) H := hP
  have hD : va_D A ([(h0, .inr (2, [.ref q1, .null, .null, .int 0])), (q1, .inl (cI, 100, .inl (fun _ => 0)))]) := hD
  refine W.eq (g2 := F0 m 12 ls []) rfl ?_
  refine lv_aload_n hx hb dX2_init_12 rfl (lv_at hl 0 rfl) ?_
  refine lv_bipush (v := 100) hx hb dX2_init_13 (by decide) ?_
  refine nw_I C0 hK hP hD hS hA 100 (by decide) rfl (Nat.le_of_ble_eq_true rfl) (Nat.le_of_ble_eq_true rfl) (Nat.le_of_ble_eq_true rfl) dX2_init_15 (fun q2 H hP hD hS => ?_)
  have hP : va_P (dC, dI) vwCl ([(h0, .inr (2, [.ref q1, .null, .null, .int 0])), (q1, .inl (cI, 100, .inl (fun _ => 0))), (q2, .inl (cI, 100, .inl (fun _ => 0)))]) H := hP
  have hD : va_D A ([(h0, .inr (2, [.ref q1, .null, .null, .int 0])), (q1, .inl (cI, 100, .inl (fun _ => 0))), (q2, .inl (cI, 100, .inl (fun _ => 0)))]) := hD
  refine W.widen (k := 2) (n := 200) (by decide) (by decide) ?_
  refine va_putF (D := (dC, dI)) (ci := 2) (v := .ref q2) (ty := tyX2 1) (C := RX2) (T := TX2) (N := 4) hx hb hT inlX2 tyX2 tyX2_ok nmX2 hown hK hP hD hS 0 rfl rfl 1 (by decide) (hT _ wm_5_9) (fun _ h9 => h9) rfl hnm.symm rfl (tyX2_ok 1 (by decide)) rfl rfl (Nat.le_of_ble_eq_true rfl) dX2_init_17 (fun H locs hP hD hS => ?_)
  have hP : va_P (dC, dI) vwCl ([(h0, .inr (2, [.ref q1, .ref q2, .null, .int 0])), (q1, .inl (cI, 100, .inl (fun _ => 0))), (q2, .inl (cI, 100, .inl (fun _ => 0)))]) H := hP
  have hD : va_D A ([(h0, .inr (2, [.ref q1, .ref q2, .null, .int 0])), (q1, .inl (cI, 100, .inl (fun _ => 0))), (q2, .inl (cI, 100, .inl (fun _ => 0)))]) := hD
  refine W.eq (g2 := F0 m 20 ls []) rfl ?_
  refine lv_aload_n hx hb dX2_init_20 rfl (lv_at hl 0 rfl) ?_
  refine lv_bipush (v := 100) hx hb dX2_init_21 (by decide) ?_
  refine nw_J C0 hK hP hD hS hA 100 (by decide) rfl (Nat.le_of_ble_eq_true rfl) (Nat.le_of_ble_eq_true rfl) (Nat.le_of_ble_eq_true rfl) dX2_init_23 (fun q3 H hP hD hS => ?_)
  have hP : va_P (dC, dI) vwCl ([(h0, .inr (2, [.ref q1, .ref q2, .null, .int 0])), (q1, .inl (cI, 100, .inl (fun _ => 0))), (q2, .inl (cI, 100, .inl (fun _ => 0))), (q3, .inl (cJ, 100, .inr (.inl (fun _ => 0))))]) H := hP
  have hD : va_D A ([(h0, .inr (2, [.ref q1, .ref q2, .null, .int 0])), (q1, .inl (cI, 100, .inl (fun _ => 0))), (q2, .inl (cI, 100, .inl (fun _ => 0))), (q3, .inl (cJ, 100, .inr (.inl (fun _ => 0))))]) := hD
  refine W.widen (k := 3) (n := 300) (by decide) (by decide) ?_
  refine va_putF (D := (dC, dI)) (ci := 2) (v := .ref q3) (ty := tyX2 2) (C := RX2) (T := TX2) (N := 4) hx hb hT inlX2 tyX2 tyX2_ok nmX2 hown hK hP hD hS 0 rfl rfl 2 (by decide) (hT _ wm_5_10) (fun _ h9 => h9) rfl hnm.symm rfl (tyX2_ok 2 (by decide)) rfl rfl (Nat.le_of_ble_eq_true rfl) dX2_init_25 (fun H locs hP hD hS => ?_)
  have hP : va_P (dC, dI) vwCl ([(h0, .inr (2, [.ref q1, .ref q2, .ref q3, .int 0])), (q1, .inl (cI, 100, .inl (fun _ => 0))), (q2, .inl (cI, 100, .inl (fun _ => 0))), (q3, .inl (cJ, 100, .inr (.inl (fun _ => 0))))]) H := hP
  have hD : va_D A ([(h0, .inr (2, [.ref q1, .ref q2, .ref q3, .int 0])), (q1, .inl (cI, 100, .inl (fun _ => 0))), (q2, .inl (cI, 100, .inl (fun _ => 0))), (q3, .inl (cJ, 100, .inr (.inl (fun _ => 0))))]) := hD
  refine W.eq (g2 := F0 m 28 ls []) rfl ?_
  refine lv_aload_n hx hb dX2_init_28 rfl (lv_at hl 0 rfl) ?_
  refine lv_iconst (v := 0) hx hb dX2_init_29 (by decide) ?_
  refine va_put (D := (dC, dI)) (ci := 2) (v := .int 0) (ty := tyX2 3) (C := RX2) (T := TX2) (N := 4) hx hb hT inlX2 tyX2 tyX2_ok nmX2 hown hK hP hD hS 0 rfl rfl 3 (by decide) (hT _ wm_5_11) (fun _ h9 => h9) rfl (tyX2_ok 3 (by decide)) rfl rfl (Nat.le_of_ble_eq_true rfl) dX2_init_30 (fun H locs hP hD hS => ?_)
  have hP : va_P (dC, dI) vwCl ([(h0, .inr (2, [.ref q1, .ref q2, .ref q3, .int 0])), (q1, .inl (cI, 100, .inl (fun _ => 0))), (q2, .inl (cI, 100, .inl (fun _ => 0))), (q3, .inl (cJ, 100, .inr (.inl (fun _ => 0))))]) H := hP
  have hD : va_D A ([(h0, .inr (2, [.ref q1, .ref q2, .ref q3, .int 0])), (q1, .inl (cI, 100, .inl (fun _ => 0))), (q2, .inl (cI, 100, .inl (fun _ => 0))), (q3, .inl (cJ, 100, .inr (.inl (fun _ => 0))))]) := hD
  refine W.eq (g2 := F0 m 33 ls []) rfl ?_
  exact my_nret (Wf := wX2 cI cJ cZ) (fun k => ([h0, q1, q2, q3] : List Nat).getD k 0) rfl C0 hK hP hD hS dX2_init_33
abbrev wX3 (cI cJ cZ : ClassId) (ad : Nat → Nat) : va_W := vX3 cI cJ cZ (ad 0) (ad 1) (ad 2) (fun _ => 0) (fun _ => 0)
set_option maxHeartbeats 4000000 in
set_option maxRecDepth 100000 in
theorem mX3_init (l : Launch) (dC : Nat → ClassId) (dI : Nat → Nat → Nat) (cI cJ cZ : ClassId) (h0 : Nat)  (sz : Nat) : Met l yX3_init (wS yX3_init cX3_init 1 none) ({ frames := 1, cells := 2, slots := 600, locals := 12 }) (pC (dC, dI) (kT cI cJ cZ) xT [(h0, .inr (3, [.null, .null]))] sz [.ref h0]) (qN (dC, dI) (kT cI cJ cZ) h0 (wX3 cI cJ cZ) (va_A [(h0, .inr (3, [.null, .null]))] sz)) 2 600 (va_A [(h0, .inr (3, [.null, .null]))] sz) := by
  refine my_ent2 (fun A => qN (dC, dI) (kT cI cJ cZ) h0 (wX3 cI cJ cZ) A) (by decide) (Nat.le_of_ble_eq_true rfl) ?_
  intro p e s m below meth c A hszE hAe hnm C0 hK hX hP hD hA hS ls hl
  obtain ⟨hx, hb, hml, hown, hT, hr, hlocks⟩ := id C0
  have hl : lv_has ls 1 [(0, .ref h0)] := hl
  refine lv_aload_n hx hb dX3_init_0 rfl (lv_at hl 0 rfl) ?_
  refine W.objInit hx hb hown (hT _ wm_4_21) (hT _ wm_1_15) (hT _ wm_1_16) rfl (by rw [hml]; exact hl.1) rfl dX3_init_1 (Nat.le_of_ble_eq_true rfl) (Nat.le_of_ble_eq_true rfl) ?_
  refine W.eq (g2 := F0 m 4 ls []) rfl ?_
  refine lv_aload_n hx hb dX3_init_4 rfl (lv_at hl 0 rfl) ?_
  refine lv_sipush (v := 300) hx hb dX3_init_5 (by decide) ?_
  refine nw_I C0 hK hP hD hS hA 300 (by decide) rfl (Nat.le_of_ble_eq_true rfl) (Nat.le_of_ble_eq_true rfl) (Nat.le_of_ble_eq_true rfl) dX3_init_8 (fun q1 H hP hD hS => ?_)
  have hP : va_P (dC, dI) vwCl ([(h0, .inr (3, [.null, .null])), (q1, .inl (cI, 300, .inl (fun _ => 0)))]) H := hP
  have hD : va_D A ([(h0, .inr (3, [.null, .null])), (q1, .inl (cI, 300, .inl (fun _ => 0)))]) := hD
  refine W.widen (k := 1) (n := 300) (by decide) (by decide) ?_
  refine va_putF (D := (dC, dI)) (ci := 3) (v := .ref q1) (ty := tyX3 0) (C := RX3) (T := TX3) (N := 2) hx hb hT inlX3 tyX3 tyX3_ok nmX3 hown hK hP hD hS 0 rfl rfl 0 (by decide) (hT _ wm_4_22) (fun _ h9 => h9) rfl hnm.symm rfl (tyX3_ok 0 (by decide)) rfl rfl (Nat.le_of_ble_eq_true rfl) dX3_init_10 (fun H locs hP hD hS => ?_)
  have hP : va_P (dC, dI) vwCl ([(h0, .inr (3, [.ref q1, .null])), (q1, .inl (cI, 300, .inl (fun _ => 0)))]) H := hP
  have hD : va_D A ([(h0, .inr (3, [.ref q1, .null])), (q1, .inl (cI, 300, .inl (fun _ => 0)))]) := hD
  refine W.eq (g2 := F0 m 13 ls []) rfl ?_
  refine lv_aload_n hx hb dX3_init_13 rfl (lv_at hl 0 rfl) ?_
  refine lv_sipush (v := 300) hx hb dX3_init_14 (by decide) ?_
  refine nw_I C0 hK hP hD hS hA 300 (by decide) rfl (Nat.le_of_ble_eq_true rfl) (Nat.le_of_ble_eq_true rfl) (Nat.le_of_ble_eq_true rfl) dX3_init_17 (fun q2 H hP hD hS => ?_)
  have hP : va_P (dC, dI) vwCl ([(h0, .inr (3, [.ref q1, .null])), (q1, .inl (cI, 300, .inl (fun _ => 0))), (q2, .inl (cI, 300, .inl (fun _ => 0)))]) H := hP
  have hD : va_D A ([(h0, .inr (3, [.ref q1, .null])), (q1, .inl (cI, 300, .inl (fun _ => 0))), (q2, .inl (cI, 300, .inl (fun _ => 0)))]) := hD
  refine W.widen (k := 2) (n := 600) (by decide) (by decide) ?_
  refine va_putF (D := (dC, dI)) (ci := 3) (v := .ref q2) (ty := tyX3 1) (C := RX3) (T := TX3) (N := 2) hx hb hT inlX3 tyX3 tyX3_ok nmX3 hown hK hP hD hS 0 rfl rfl 1 (by decide) (hT _ wm_4_23) (fun _ h9 => h9) rfl hnm.symm rfl (tyX3_ok 1 (by decide)) rfl rfl (Nat.le_of_ble_eq_true rfl) dX3_init_19 (fun H locs hP hD hS => ?_)
  have hP : va_P (dC, dI) vwCl ([(h0, .inr (3, [.ref q1, .ref q2])), (q1, .inl (cI, 300, .inl (fun _ => 0))), (q2, .inl (cI, 300, .inl (fun _ => 0)))]) H := hP
  have hD : va_D A ([(h0, .inr (3, [.ref q1, .ref q2])), (q1, .inl (cI, 300, .inl (fun _ => 0))), (q2, .inl (cI, 300, .inl (fun _ => 0)))]) := hD
  refine W.eq (g2 := F0 m 22 ls []) rfl ?_
  exact my_nret (Wf := wX3 cI cJ cZ) (fun k => ([h0, q1, q2] : List Nat).getD k 0) rfl C0 hK hP hD hS dX3_init_22
abbrev wX4 (cI cJ cZ : ClassId) (ad : Nat → Nat) : va_W := vX4 cI cJ cZ (ad 0) (ad 1) (ad 2) (ad 3) (ad 4) (fun _ => 0) (fun _ => 0) (fun _ => 0) (fun _ => 0) 0 0 0 0
set_option maxHeartbeats 4000000 in
set_option maxRecDepth 100000 in
theorem mX4_init (l : Launch) (dC : Nat → ClassId) (dI : Nat → Nat → Nat) (cI cJ cZ : ClassId) (h0 : Nat)  (sz : Nat) : Met l yX4_init (wS yX4_init cX4_init 1 none) ({ frames := 1, cells := 4, slots := 1200, locals := 12 }) (pC (dC, dI) (kT cI cJ cZ) xT [(h0, .inr (4, [.null, .null, .null, .null, .int 0, .int 0, .int 0, .int 0]))] sz [.ref h0]) (qN (dC, dI) (kT cI cJ cZ) h0 (wX4 cI cJ cZ) (va_A [(h0, .inr (4, [.null, .null, .null, .null, .int 0, .int 0, .int 0, .int 0]))] sz)) 4 1200 (va_A [(h0, .inr (4, [.null, .null, .null, .null, .int 0, .int 0, .int 0, .int 0]))] sz) := by
  refine my_ent2 (fun A => qN (dC, dI) (kT cI cJ cZ) h0 (wX4 cI cJ cZ) A) (by decide) (Nat.le_of_ble_eq_true rfl) ?_
  intro p e s m below meth c A hszE hAe hnm C0 hK hX hP hD hA hS ls hl
  obtain ⟨hx, hb, hml, hown, hT, hr, hlocks⟩ := id C0
  have hl : lv_has ls 1 [(0, .ref h0)] := hl
  refine lv_aload_n hx hb dX4_init_0 rfl (lv_at hl 0 rfl) ?_
  refine W.objInit hx hb hown (hT _ wm_4_10) (hT _ wm_1_15) (hT _ wm_1_16) rfl (by rw [hml]; exact hl.1) rfl dX4_init_1 (Nat.le_of_ble_eq_true rfl) (Nat.le_of_ble_eq_true rfl) ?_
  refine W.eq (g2 := F0 m 4 ls []) rfl ?_
  refine lv_aload_n hx hb dX4_init_4 rfl (lv_at hl 0 rfl) ?_
  refine lv_sipush (v := 300) hx hb dX4_init_5 (by decide) ?_
  refine nw_I C0 hK hP hD hS hA 300 (by decide) rfl (Nat.le_of_ble_eq_true rfl) (Nat.le_of_ble_eq_true rfl) (Nat.le_of_ble_eq_true rfl) dX4_init_8 (fun q1 H hP hD hS => ?_)
  have hP : va_P (dC, dI) vwCl ([(h0, .inr (4, [.null, .null, .null, .null, .int 0, .int 0, .int 0, .int 0])), (q1, .inl (cI, 300, .inl (fun _ => 0)))]) H := hP
  have hD : va_D A ([(h0, .inr (4, [.null, .null, .null, .null, .int 0, .int 0, .int 0, .int 0])), (q1, .inl (cI, 300, .inl (fun _ => 0)))]) := hD
  refine W.widen (k := 1) (n := 300) (by decide) (by decide) ?_
  refine va_putF (D := (dC, dI)) (ci := 4) (v := .ref q1) (ty := tyX4 0) (C := RX4) (T := TX4) (N := 8) hx hb hT inlX4 tyX4 tyX4_ok nmX4 hown hK hP hD hS 0 rfl rfl 0 (by decide) (hT _ wm_4_11) (fun _ h9 => h9) rfl hnm.symm rfl (tyX4_ok 0 (by decide)) rfl rfl (Nat.le_of_ble_eq_true rfl) dX4_init_10 (fun H locs hP hD hS => ?_)
  have hP : va_P (dC, dI) vwCl ([(h0, .inr (4, [.ref q1, .null, .null, .null, .int 0, .int 0, .int 0, .int 0])), (q1, .inl (cI, 300, .inl (fun _ => 0)))]) H := hP
  have hD : va_D A ([(h0, .inr (4, [.ref q1, .null, .null, .null, .int 0, .int 0, .int 0, .int 0])), (q1, .inl (cI, 300, .inl (fun _ => 0)))]) := hD
  refine W.eq (g2 := F0 m 13 ls []) rfl ?_
  refine lv_aload_n hx hb dX4_init_13 rfl (lv_at hl 0 rfl) ?_
  refine lv_sipush (v := 300) hx hb dX4_init_14 (by decide) ?_
  refine nw_I C0 hK hP hD hS hA 300 (by decide) rfl (Nat.le_of_ble_eq_true rfl) (Nat.le_of_ble_eq_true rfl) (Nat.le_of_ble_eq_true rfl) dX4_init_17 (fun q2 H hP hD hS => ?_)
  have hP : va_P (dC, dI) vwCl ([(h0, .inr (4, [.ref q1, .null, .null, .null, .int 0, .int 0, .int 0, .int 0])), (q1, .inl (cI, 300, .inl (fun _ => 0))), (q2, .inl (cI, 300, .inl (fun _ => 0)))]) H := hP
  have hD : va_D A ([(h0, .inr (4, [.ref q1, .null, .null, .null, .int 0, .int 0, .int 0, .int 0])), (q1, .inl (cI, 300, .inl (fun _ => 0))), (q2, .inl (cI, 300, .inl (fun _ => 0)))]) := hD
  refine W.widen (k := 2) (n := 600) (by decide) (by decide) ?_
  refine va_putF (D := (dC, dI)) (ci := 4) (v := .ref q2) (ty := tyX4 1) (C := RX4) (T := TX4) (N := 8) hx hb hT inlX4 tyX4 tyX4_ok nmX4 hown hK hP hD hS 0 rfl rfl 1 (by decide) (hT _ wm_4_12) (fun _ h9 => h9) rfl hnm.symm rfl (tyX4_ok 1 (by decide)) rfl rfl (Nat.le_of_ble_eq_true rfl) dX4_init_19 (fun H locs hP hD hS => ?_)
  have hP : va_P (dC, dI) vwCl ([(h0, .inr (4, [.ref q1, .ref q2, .null, .null, .int 0, .int 0, .int 0, .int 0])), (q1, .inl (cI, 300, .inl (fun _ => 0))), (q2, .inl (cI, 300, .inl (fun _ => 0)))]) H := hP
  have hD : va_D A ([(h0, .inr (4, [.ref q1, .ref q2, .null, .null, .int 0, .int 0, .int 0, .int 0])), (q1, .inl (cI, 300, .inl (fun _ => 0))), (q2, .inl (cI, 300, .inl (fun _ => 0)))]) := hD
  refine W.eq (g2 := F0 m 22 ls []) rfl ?_
  refine lv_aload_n hx hb dX4_init_22 rfl (lv_at hl 0 rfl) ?_
  refine lv_sipush (v := 300) hx hb dX4_init_23 (by decide) ?_
  refine nw_I C0 hK hP hD hS hA 300 (by decide) rfl (Nat.le_of_ble_eq_true rfl) (Nat.le_of_ble_eq_true rfl) (Nat.le_of_ble_eq_true rfl) dX4_init_26 (fun q3 H hP hD hS => ?_)
  have hP : va_P (dC, dI) vwCl ([(h0, .inr (4, [.ref q1, .ref q2, .null, .null, .int 0, .int 0, .int 0, .int 0])), (q1, .inl (cI, 300, .inl (fun _ => 0))), (q2, .inl (cI, 300, .inl (fun _ => 0))), (q3, .inl (cI, 300, .inl (fun _ => 0)))]) H := hP
  have hD : va_D A ([(h0, .inr (4, [.ref q1, .ref q2, .null, .null, .int 0, .int 0, .int 0, .int 0])), (q1, .inl (cI, 300, .inl (fun _ => 0))), (q2, .inl (cI, 300, .inl (fun _ => 0))), (q3, .inl (cI, 300, .inl (fun _ => 0)))]) := hD
  refine W.widen (k := 3) (n := 900) (by decide) (by decide) ?_
  refine va_putF (D := (dC, dI)) (ci := 4) (v := .ref q3) (ty := tyX4 2) (C := RX4) (T := TX4) (N := 8) hx hb hT inlX4 tyX4 tyX4_ok nmX4 hown hK hP hD hS 0 rfl rfl 2 (by decide) (hT _ wm_4_13) (fun _ h9 => h9) rfl hnm.symm rfl (tyX4_ok 2 (by decide)) rfl rfl (Nat.le_of_ble_eq_true rfl) dX4_init_28 (fun H locs hP hD hS => ?_)
  have hP : va_P (dC, dI) vwCl ([(h0, .inr (4, [.ref q1, .ref q2, .ref q3, .null, .int 0, .int 0, .int 0, .int 0])), (q1, .inl (cI, 300, .inl (fun _ => 0))), (q2, .inl (cI, 300, .inl (fun _ => 0))), (q3, .inl (cI, 300, .inl (fun _ => 0)))]) H := hP
  have hD : va_D A ([(h0, .inr (4, [.ref q1, .ref q2, .ref q3, .null, .int 0, .int 0, .int 0, .int 0])), (q1, .inl (cI, 300, .inl (fun _ => 0))), (q2, .inl (cI, 300, .inl (fun _ => 0))), (q3, .inl (cI, 300, .inl (fun _ => 0)))]) := hD
  refine W.eq (g2 := F0 m 31 ls []) rfl ?_
  refine lv_aload_n hx hb dX4_init_31 rfl (lv_at hl 0 rfl) ?_
  refine lv_sipush (v := 300) hx hb dX4_init_32 (by decide) ?_
  refine nw_J C0 hK hP hD hS hA 300 (by decide) rfl (Nat.le_of_ble_eq_true rfl) (Nat.le_of_ble_eq_true rfl) (Nat.le_of_ble_eq_true rfl) dX4_init_35 (fun q4 H hP hD hS => ?_)
  have hP : va_P (dC, dI) vwCl ([(h0, .inr (4, [.ref q1, .ref q2, .ref q3, .null, .int 0, .int 0, .int 0, .int 0])), (q1, .inl (cI, 300, .inl (fun _ => 0))), (q2, .inl (cI, 300, .inl (fun _ => 0))), (q3, .inl (cI, 300, .inl (fun _ => 0))), (q4, .inl (cJ, 300, .inr (.inl (fun _ => 0))))]) H := hP
  have hD : va_D A ([(h0, .inr (4, [.ref q1, .ref q2, .ref q3, .null, .int 0, .int 0, .int 0, .int 0])), (q1, .inl (cI, 300, .inl (fun _ => 0))), (q2, .inl (cI, 300, .inl (fun _ => 0))), (q3, .inl (cI, 300, .inl (fun _ => 0))), (q4, .inl (cJ, 300, .inr (.inl (fun _ => 0))))]) := hD
  refine W.widen (k := 4) (n := 1200) (by decide) (by decide) ?_
  refine va_putF (D := (dC, dI)) (ci := 4) (v := .ref q4) (ty := tyX4 3) (C := RX4) (T := TX4) (N := 8) hx hb hT inlX4 tyX4 tyX4_ok nmX4 hown hK hP hD hS 0 rfl rfl 3 (by decide) (hT _ wm_4_14) (fun _ h9 => h9) rfl hnm.symm rfl (tyX4_ok 3 (by decide)) rfl rfl (Nat.le_of_ble_eq_true rfl) dX4_init_37 (fun H locs hP hD hS => ?_)
  have hP : va_P (dC, dI) vwCl ([(h0, .inr (4, [.ref q1, .ref q2, .ref q3, .ref q4, .int 0, .int 0, .int 0, .int 0])), (q1, .inl (cI, 300, .inl (fun _ => 0))), (q2, .inl (cI, 300, .inl (fun _ => 0))), (q3, .inl (cI, 300, .inl (fun _ => 0))), (q4, .inl (cJ, 300, .inr (.inl (fun _ => 0))))]) H := hP
  have hD : va_D A ([(h0, .inr (4, [.ref q1, .ref q2, .ref q3, .ref q4, .int 0, .int 0, .int 0, .int 0])), (q1, .inl (cI, 300, .inl (fun _ => 0))), (q2, .inl (cI, 300, .inl (fun _ => 0))), (q3, .inl (cI, 300, .inl (fun _ => 0))), (q4, .inl (cJ, 300, .inr (.inl (fun _ => 0))))]) := hD
  refine W.eq (g2 := F0 m 40 ls []) rfl ?_
  refine lv_aload_n hx hb dX4_init_40 rfl (lv_at hl 0 rfl) ?_
  refine lv_iconst (v := 0) hx hb dX4_init_41 (by decide) ?_
  refine va_put (D := (dC, dI)) (ci := 4) (v := .int 0) (ty := tyX4 4) (C := RX4) (T := TX4) (N := 8) hx hb hT inlX4 tyX4 tyX4_ok nmX4 hown hK hP hD hS 0 rfl rfl 4 (by decide) (hT _ wm_4_15) (fun _ h9 => h9) rfl (tyX4_ok 4 (by decide)) rfl rfl (Nat.le_of_ble_eq_true rfl) dX4_init_42 (fun H locs hP hD hS => ?_)
  have hP : va_P (dC, dI) vwCl ([(h0, .inr (4, [.ref q1, .ref q2, .ref q3, .ref q4, .int 0, .int 0, .int 0, .int 0])), (q1, .inl (cI, 300, .inl (fun _ => 0))), (q2, .inl (cI, 300, .inl (fun _ => 0))), (q3, .inl (cI, 300, .inl (fun _ => 0))), (q4, .inl (cJ, 300, .inr (.inl (fun _ => 0))))]) H := hP
  have hD : va_D A ([(h0, .inr (4, [.ref q1, .ref q2, .ref q3, .ref q4, .int 0, .int 0, .int 0, .int 0])), (q1, .inl (cI, 300, .inl (fun _ => 0))), (q2, .inl (cI, 300, .inl (fun _ => 0))), (q3, .inl (cI, 300, .inl (fun _ => 0))), (q4, .inl (cJ, 300, .inr (.inl (fun _ => 0))))]) := hD
  refine W.eq (g2 := F0 m 45 ls []) rfl ?_
  refine lv_aload_n hx hb dX4_init_45 rfl (lv_at hl 0 rfl) ?_
  refine lv_iconst (v := 0) hx hb dX4_init_46 (by decide) ?_
  refine va_put (D := (dC, dI)) (ci := 4) (v := .int 0) (ty := tyX4 5) (C := RX4) (T := TX4) (N := 8) hx hb hT inlX4 tyX4 tyX4_ok nmX4 hown hK hP hD hS 0 rfl rfl 5 (by decide) (hT _ wm_4_16) (fun _ h9 => h9) rfl (tyX4_ok 5 (by decide)) rfl rfl (Nat.le_of_ble_eq_true rfl) dX4_init_47 (fun H locs hP hD hS => ?_)
  have hP : va_P (dC, dI) vwCl ([(h0, .inr (4, [.ref q1, .ref q2, .ref q3, .ref q4, .int 0, .int 0, .int 0, .int 0])), (q1, .inl (cI, 300, .inl (fun _ => 0))), (q2, .inl (cI, 300, .inl (fun _ => 0))), (q3, .inl (cI, 300, .inl (fun _ => 0))), (q4, .inl (cJ, 300, .inr (.inl (fun _ => 0))))]) H := hP
  have hD : va_D A ([(h0, .inr (4, [.ref q1, .ref q2, .ref q3, .ref q4, .int 0, .int 0, .int 0, .int 0])), (q1, .inl (cI, 300, .inl (fun _ => 0))), (q2, .inl (cI, 300, .inl (fun _ => 0))), (q3, .inl (cI, 300, .inl (fun _ => 0))), (q4, .inl (cJ, 300, .inr (.inl (fun _ => 0))))]) := hD
  refine W.eq (g2 := F0 m 50 ls []) rfl ?_
  refine lv_aload_n hx hb dX4_init_50 rfl (lv_at hl 0 rfl) ?_
  refine lv_iconst (v := 0) hx hb dX4_init_51 (by decide) ?_
  refine va_put (D := (dC, dI)) (ci := 4) (v := .int 0) (ty := tyX4 6) (C := RX4) (T := TX4) (N := 8) hx hb hT inlX4 tyX4 tyX4_ok nmX4 hown hK hP hD hS 0 rfl rfl 6 (by decide) (hT _ wm_4_17) (fun _ h9 => h9) rfl (tyX4_ok 6 (by decide)) rfl rfl (Nat.le_of_ble_eq_true rfl) dX4_init_52 (fun H locs hP hD hS => ?_)
  have hP : va_P (dC, dI) vwCl ([(h0, .inr (4, [.ref q1, .ref q2, .ref q3, .ref q4, .int 0, .int 0, .int 0, .int 0])), (q1, .inl (cI, 300, .inl (fun _ => 0))), (q2, .inl (cI, 300, .inl (fun _ => 0))), (q3, .inl (cI, 300, .inl (fun _ => 0))), (q4, .inl (cJ, 300, .inr (.inl (fun _ => 0))))]) H := hP
  have hD : va_D A ([(h0, .inr (4, [.ref q1, .ref q2, .ref q3, .ref q4, .int 0, .int 0, .int 0, .int 0])), (q1, .inl (cI, 300, .inl (fun _ => 0))), (q2, .inl (cI, 300, .inl (fun _ => 0))), (q3, .inl (cI, 300, .inl (fun _ => 0))), (q4, .inl (cJ, 300, .inr (.inl (fun _ => 0))))]) := hD
  refine W.eq (g2 := F0 m 55 ls []) rfl ?_
  refine lv_aload_n hx hb dX4_init_55 rfl (lv_at hl 0 rfl) ?_
  refine lv_iconst (v := 0) hx hb dX4_init_56 (by decide) ?_
  refine va_put (D := (dC, dI)) (ci := 4) (v := .int 0) (ty := tyX4 7) (C := RX4) (T := TX4) (N := 8) hx hb hT inlX4 tyX4 tyX4_ok nmX4 hown hK hP hD hS 0 rfl rfl 7 (by decide) (hT _ wm_4_18) (fun _ h9 => h9) rfl (tyX4_ok 7 (by decide)) rfl rfl (Nat.le_of_ble_eq_true rfl) dX4_init_57 (fun H locs hP hD hS => ?_)
  have hP : va_P (dC, dI) vwCl ([(h0, .inr (4, [.ref q1, .ref q2, .ref q3, .ref q4, .int 0, .int 0, .int 0, .int 0])), (q1, .inl (cI, 300, .inl (fun _ => 0))), (q2, .inl (cI, 300, .inl (fun _ => 0))), (q3, .inl (cI, 300, .inl (fun _ => 0))), (q4, .inl (cJ, 300, .inr (.inl (fun _ => 0))))]) H := hP
  have hD : va_D A ([(h0, .inr (4, [.ref q1, .ref q2, .ref q3, .ref q4, .int 0, .int 0, .int 0, .int 0])), (q1, .inl (cI, 300, .inl (fun _ => 0))), (q2, .inl (cI, 300, .inl (fun _ => 0))), (q3, .inl (cI, 300, .inl (fun _ => 0))), (q4, .inl (cJ, 300, .inr (.inl (fun _ => 0))))]) := hD
  refine W.eq (g2 := F0 m 60 ls []) rfl ?_
  exact my_nret (Wf := wX4 cI cJ cZ) (fun k => ([h0, q1, q2, q3, q4] : List Nat).getD k 0) rfl C0 hK hP hD hS dX4_init_60
abbrev wX5 (cI cJ cZ : ClassId) (ad : Nat → Nat) : va_W := vX5 cI cJ cZ (ad 0) (ad 1) (fun _ => 0) 0
set_option maxHeartbeats 4000000 in
set_option maxRecDepth 100000 in
theorem mX5_init (l : Launch) (dC : Nat → ClassId) (dI : Nat → Nat → Nat) (cI cJ cZ : ClassId) (h0 : Nat)  (sz : Nat) : Met l yX5_init (wS yX5_init cX5_init 1 none) ({ frames := 1, cells := 1, slots := 16, locals := 12 }) (pC (dC, dI) (kT cI cJ cZ) xT [(h0, .inr (5, [.null, .int 0]))] sz [.ref h0]) (qN (dC, dI) (kT cI cJ cZ) h0 (wX5 cI cJ cZ) (va_A [(h0, .inr (5, [.null, .int 0]))] sz)) 1 16 (va_A [(h0, .inr (5, [.null, .int 0]))] sz) := by
  refine my_ent2 (fun A => qN (dC, dI) (kT cI cJ cZ) h0 (wX5 cI cJ cZ) A) (by decide) (Nat.le_of_ble_eq_true rfl) ?_
  intro p e s m below meth c A hszE hAe hnm C0 hK hX hP hD hA hS ls hl
  obtain ⟨hx, hb, hml, hown, hT, hr, hlocks⟩ := id C0
  have hl : lv_has ls 1 [(0, .ref h0)] := hl
  refine lv_aload_n hx hb dX5_init_0 rfl (lv_at hl 0 rfl) ?_
  refine W.objInit hx hb hown (hT _ wm_5_2) (hT _ wm_1_15) (hT _ wm_1_16) rfl (by rw [hml]; exact hl.1) rfl dX5_init_1 (Nat.le_of_ble_eq_true rfl) (Nat.le_of_ble_eq_true rfl) ?_
  refine W.eq (g2 := F0 m 4 ls []) rfl ?_
  refine lv_aload_n hx hb dX5_init_4 rfl (lv_at hl 0 rfl) ?_
  refine lv_bipush (v := 16) hx hb dX5_init_5 (by decide) ?_
  refine nw_I C0 hK hP hD hS hA 16 (by decide) rfl (Nat.le_of_ble_eq_true rfl) (Nat.le_of_ble_eq_true rfl) (Nat.le_of_ble_eq_true rfl) dX5_init_7 (fun q1 H hP hD hS => ?_)
  have hP : va_P (dC, dI) vwCl ([(h0, .inr (5, [.null, .int 0])), (q1, .inl (cI, 16, .inl (fun _ => 0)))]) H := hP
  have hD : va_D A ([(h0, .inr (5, [.null, .int 0])), (q1, .inl (cI, 16, .inl (fun _ => 0)))]) := hD
  refine W.widen (k := 1) (n := 16) (by decide) (by decide) ?_
  refine va_putF (D := (dC, dI)) (ci := 5) (v := .ref q1) (ty := tyX5 0) (C := RX5) (T := TX5) (N := 2) hx hb hT inlX5 tyX5 tyX5_ok nmX5 hown hK hP hD hS 0 rfl rfl 0 (by decide) (hT _ wm_5_3) (fun _ h9 => h9) rfl hnm.symm rfl (tyX5_ok 0 (by decide)) rfl rfl (Nat.le_of_ble_eq_true rfl) dX5_init_9 (fun H locs hP hD hS => ?_)
  have hP : va_P (dC, dI) vwCl ([(h0, .inr (5, [.ref q1, .int 0])), (q1, .inl (cI, 16, .inl (fun _ => 0)))]) H := hP
  have hD : va_D A ([(h0, .inr (5, [.ref q1, .int 0])), (q1, .inl (cI, 16, .inl (fun _ => 0)))]) := hD
  refine W.eq (g2 := F0 m 12 ls []) rfl ?_
  refine lv_aload_n hx hb dX5_init_12 rfl (lv_at hl 0 rfl) ?_
  refine lv_iconst (v := 0) hx hb dX5_init_13 (by decide) ?_
  refine va_put (D := (dC, dI)) (ci := 5) (v := .int 0) (ty := tyX5 1) (C := RX5) (T := TX5) (N := 2) hx hb hT inlX5 tyX5 tyX5_ok nmX5 hown hK hP hD hS 0 rfl rfl 1 (by decide) (hT _ wm_5_4) (fun _ h9 => h9) rfl (tyX5_ok 1 (by decide)) rfl rfl (Nat.le_of_ble_eq_true rfl) dX5_init_14 (fun H locs hP hD hS => ?_)
  have hP : va_P (dC, dI) vwCl ([(h0, .inr (5, [.ref q1, .int 0])), (q1, .inl (cI, 16, .inl (fun _ => 0)))]) H := hP
  have hD : va_D A ([(h0, .inr (5, [.ref q1, .int 0])), (q1, .inl (cI, 16, .inl (fun _ => 0)))]) := hD
  refine W.eq (g2 := F0 m 17 ls []) rfl ?_
  exact my_nret (Wf := wX5 cI cJ cZ) (fun k => ([h0, q1] : List Nat).getD k 0) rfl C0 hK hP hD hS dX5_init_17
abbrev wX6 (cI cJ cZ : ClassId) (ad : Nat → Nat) : va_W := vX6 cI cJ cZ (ad 0) (ad 1) (ad 2) (ad 3) (fun _ => 0) (fun _ => 0) (fun _ => 0)
set_option maxHeartbeats 4000000 in
set_option maxRecDepth 100000 in
theorem mX6_init (l : Launch) (dC : Nat → ClassId) (dI : Nat → Nat → Nat) (cI cJ cZ : ClassId) (h0 : Nat)  (sz : Nat) : Met l yX6_init (wS yX6_init cX6_init 1 none) ({ frames := 1, cells := 3, slots := 900, locals := 12 }) (pC (dC, dI) (kT cI cJ cZ) xT [(h0, .inr (6, [.null, .null, .null]))] sz [.ref h0]) (qN (dC, dI) (kT cI cJ cZ) h0 (wX6 cI cJ cZ) (va_A [(h0, .inr (6, [.null, .null, .null]))] sz)) 3 900 (va_A [(h0, .inr (6, [.null, .null, .null]))] sz) := by
  refine my_ent2 (fun A => qN (dC, dI) (kT cI cJ cZ) h0 (wX6 cI cJ cZ) A) (by decide) (Nat.le_of_ble_eq_true rfl) ?_
  intro p e s m below meth c A hszE hAe hnm C0 hK hX hP hD hA hS ls hl
  obtain ⟨hx, hb, hml, hown, hT, hr, hlocks⟩ := id C0
  have hl : lv_has ls 1 [(0, .ref h0)] := hl
  refine lv_aload_n hx hb dX6_init_0 rfl (lv_at hl 0 rfl) ?_
  refine W.objInit hx hb hown (hT _ wm_5_14) (hT _ wm_1_15) (hT _ wm_1_16) rfl (by rw [hml]; exact hl.1) rfl dX6_init_1 (Nat.le_of_ble_eq_true rfl) (Nat.le_of_ble_eq_true rfl) ?_
  refine W.eq (g2 := F0 m 4 ls []) rfl ?_
  refine lv_aload_n hx hb dX6_init_4 rfl (lv_at hl 0 rfl) ?_
  refine lv_sipush (v := 300) hx hb dX6_init_5 (by decide) ?_
  refine nw_J C0 hK hP hD hS hA 300 (by decide) rfl (Nat.le_of_ble_eq_true rfl) (Nat.le_of_ble_eq_true rfl) (Nat.le_of_ble_eq_true rfl) dX6_init_8 (fun q1 H hP hD hS => ?_)
  have hP : va_P (dC, dI) vwCl ([(h0, .inr (6, [.null, .null, .null])), (q1, .inl (cJ, 300, .inr (.inl (fun _ => 0))))]) H := hP
  have hD : va_D A ([(h0, .inr (6, [.null, .null, .null])), (q1, .inl (cJ, 300, .inr (.inl (fun _ => 0))))]) := hD
  refine W.widen (k := 1) (n := 300) (by decide) (by decide) ?_
  refine va_putF (D := (dC, dI)) (ci := 6) (v := .ref q1) (ty := tyX6 0) (C := RX6) (T := TX6) (N := 3) hx hb hT inlX6 tyX6 tyX6_ok nmX6 hown hK hP hD hS 0 rfl rfl 0 (by decide) (hT _ wm_5_15) (fun _ h9 => h9) rfl hnm.symm rfl (tyX6_ok 0 (by decide)) rfl rfl (Nat.le_of_ble_eq_true rfl) dX6_init_10 (fun H locs hP hD hS => ?_)
  have hP : va_P (dC, dI) vwCl ([(h0, .inr (6, [.ref q1, .null, .null])), (q1, .inl (cJ, 300, .inr (.inl (fun _ => 0))))]) H := hP
  have hD : va_D A ([(h0, .inr (6, [.ref q1, .null, .null])), (q1, .inl (cJ, 300, .inr (.inl (fun _ => 0))))]) := hD
  refine W.eq (g2 := F0 m 13 ls []) rfl ?_
  refine lv_aload_n hx hb dX6_init_13 rfl (lv_at hl 0 rfl) ?_
  refine lv_sipush (v := 300) hx hb dX6_init_14 (by decide) ?_
  refine nw_I C0 hK hP hD hS hA 300 (by decide) rfl (Nat.le_of_ble_eq_true rfl) (Nat.le_of_ble_eq_true rfl) (Nat.le_of_ble_eq_true rfl) dX6_init_17 (fun q2 H hP hD hS => ?_)
  have hP : va_P (dC, dI) vwCl ([(h0, .inr (6, [.ref q1, .null, .null])), (q1, .inl (cJ, 300, .inr (.inl (fun _ => 0)))), (q2, .inl (cI, 300, .inl (fun _ => 0)))]) H := hP
  have hD : va_D A ([(h0, .inr (6, [.ref q1, .null, .null])), (q1, .inl (cJ, 300, .inr (.inl (fun _ => 0)))), (q2, .inl (cI, 300, .inl (fun _ => 0)))]) := hD
  refine W.widen (k := 2) (n := 600) (by decide) (by decide) ?_
  refine va_putF (D := (dC, dI)) (ci := 6) (v := .ref q2) (ty := tyX6 1) (C := RX6) (T := TX6) (N := 3) hx hb hT inlX6 tyX6 tyX6_ok nmX6 hown hK hP hD hS 0 rfl rfl 1 (by decide) (hT _ wm_5_16) (fun _ h9 => h9) rfl hnm.symm rfl (tyX6_ok 1 (by decide)) rfl rfl (Nat.le_of_ble_eq_true rfl) dX6_init_19 (fun H locs hP hD hS => ?_)
  have hP : va_P (dC, dI) vwCl ([(h0, .inr (6, [.ref q1, .ref q2, .null])), (q1, .inl (cJ, 300, .inr (.inl (fun _ => 0)))), (q2, .inl (cI, 300, .inl (fun _ => 0)))]) H := hP
  have hD : va_D A ([(h0, .inr (6, [.ref q1, .ref q2, .null])), (q1, .inl (cJ, 300, .inr (.inl (fun _ => 0)))), (q2, .inl (cI, 300, .inl (fun _ => 0)))]) := hD
  refine W.eq (g2 := F0 m 22 ls []) rfl ?_
  refine lv_aload_n hx hb dX6_init_22 rfl (lv_at hl 0 rfl) ?_
  refine lv_sipush (v := 300) hx hb dX6_init_23 (by decide) ?_
  refine nw_J C0 hK hP hD hS hA 300 (by decide) rfl (Nat.le_of_ble_eq_true rfl) (Nat.le_of_ble_eq_true rfl) (Nat.le_of_ble_eq_true rfl) dX6_init_26 (fun q3 H hP hD hS => ?_)
  have hP : va_P (dC, dI) vwCl ([(h0, .inr (6, [.ref q1, .ref q2, .null])), (q1, .inl (cJ, 300, .inr (.inl (fun _ => 0)))), (q2, .inl (cI, 300, .inl (fun _ => 0))), (q3, .inl (cJ, 300, .inr (.inl (fun _ => 0))))]) H := hP
  have hD : va_D A ([(h0, .inr (6, [.ref q1, .ref q2, .null])), (q1, .inl (cJ, 300, .inr (.inl (fun _ => 0)))), (q2, .inl (cI, 300, .inl (fun _ => 0))), (q3, .inl (cJ, 300, .inr (.inl (fun _ => 0))))]) := hD
  refine W.widen (k := 3) (n := 900) (by decide) (by decide) ?_
  refine va_putF (D := (dC, dI)) (ci := 6) (v := .ref q3) (ty := tyX6 2) (C := RX6) (T := TX6) (N := 3) hx hb hT inlX6 tyX6 tyX6_ok nmX6 hown hK hP hD hS 0 rfl rfl 2 (by decide) (hT _ wm_5_17) (fun _ h9 => h9) rfl hnm.symm rfl (tyX6_ok 2 (by decide)) rfl rfl (Nat.le_of_ble_eq_true rfl) dX6_init_28 (fun H locs hP hD hS => ?_)
  have hP : va_P (dC, dI) vwCl ([(h0, .inr (6, [.ref q1, .ref q2, .ref q3])), (q1, .inl (cJ, 300, .inr (.inl (fun _ => 0)))), (q2, .inl (cI, 300, .inl (fun _ => 0))), (q3, .inl (cJ, 300, .inr (.inl (fun _ => 0))))]) H := hP
  have hD : va_D A ([(h0, .inr (6, [.ref q1, .ref q2, .ref q3])), (q1, .inl (cJ, 300, .inr (.inl (fun _ => 0)))), (q2, .inl (cI, 300, .inl (fun _ => 0))), (q3, .inl (cJ, 300, .inr (.inl (fun _ => 0))))]) := hD
  refine W.eq (g2 := F0 m 31 ls []) rfl ?_
  exact my_nret (Wf := wX6 cI cJ cZ) (fun k => ([h0, q1, q2, q3] : List Nat).getD k 0) rfl C0 hK hP hD hS dX6_init_31
