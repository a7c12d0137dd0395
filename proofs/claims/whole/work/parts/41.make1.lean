def rm_X5_init : Room := { frames := 1, cells := 2, slots := 1012, locals := 12 }
set_option maxHeartbeats 4000000 in
set_option maxRecDepth 100000 in
theorem e_X5_init (G : GP) (l : Launch) (X : va_W) (b : Nat) : ME G l yX5_init wsX5_init rm_X5_init [.ref b] (X ++ [(b, .inr (5, [.null, .int 0, .null, .int 0, .int 0, .int 0, .int 0, .int 0, .int 0, .int 0, .int 0, .int 0]))]) (fun W1 => ∃ q0 q1 : Nat, W1 = X ++ [(b, .inr (5, [.ref q0, .int 0, .ref q1, .int 0, .int 0, .int 0, .int 0, .int 0, .int 0, .int 0, .int 0, .int (-1)])), (q0, .inl (G.2.1 0, 1000, .inl (fun _ => 0))), (q1, .inl (G.2.1 1, 12, .inl (fun _ => 0)))]) none 2 1012 := by
  refine ME.mk (cc := cX5_init) (maxL := 1) (ret := none) (by decide) rfl (Nat.le_of_ble_eq_true rfl) ?_
  intro p e s m below meth c A ls ⟨hx, hb, hr, hml, hown, hlocks, hin, hts⟩ hw hG hO hA hl
  have hl : lv_has ls 1 [(0, .ref b)] := hl
  have hin5 : ∀ w ∈ u_ws RX5 TX5 12, w ∈ wsX5_init := by decide +kernel
  refine lv_aload_n hx hb dX5_init_0 rfl (lv_at hl 0 rfl) ?_
  refine W.objInit hx hb hown (hts (.methodLink RX5 3 objectInit) (List.mem_of_getElem? (i := 1) rfl)) (hts (.instanceMethod objectInit) (List.mem_of_getElem? (i := 2) rfl)) (hts (.code objectInit ⟨#[0xb1]⟩ 1 none) (List.mem_of_getElem? (i := 3) rfl)) rfl (by rw [hml]; exact hl.1) rfl dX5_init_1 (Nat.le_of_ble_eq_true rfl) (Nat.le_of_ble_eq_true rfl) ?_
  refine W.eq (g2 := F0 m 4 ls []) rfl ?_
  refine lv_aload_n hx hb dX5_init_4 rfl (lv_at hl 0 rfl) ?_
  refine lv_sipush (v := 1000) hx hb dX5_init_5 (by decide) ?_
  refine n_arr (atype := .byte) (ty := .byte) (k := 0) (a0 := (1000, .inl (fun _ => 0))) hx hb (hts (.arrayClass .byte) (List.mem_of_getElem? (i := 4) rfl)) rfl hG hA hw rfl nmB (df_B 1000) (by decide) (by decide +kernel) (by decide +kernel) (by decide +kernel) (by decide +kernel) dX5_init_8 (fun q0 H hw => ?_)
  replace hw : Wd G A s H [] (X ++ [(b, .inr (5, [.null, .int 0, .null, .int 0, .int 0, .int 0, .int 0, .int 0, .int 0, .int 0, .int 0, .int 0])), (q0, .inl (G.2.1 0, 1000, .inl (fun _ => 0)))]) := by rw [List.append_assoc] at hw; exact hw
  refine va_putF (D := G.1) (ci := 5) (v := .ref q0) (ty := tyX5 0) (C := RX5) (T := TX5) (N := 12) hx hb hts hin5 tyX5 tyX5_ok nmX5 hown hG.1 hw.1 hw.2.1 hw.2.2 (X.length + 0) (app_at rfl) rfl 0 (by decide) (hts (.fieldLink RX5 9 "DutyDesk$Reader" "tape" "[B") (List.mem_of_getElem? (i := 5) rfl)) (fun _ h9 => h9) rfl hin rfl (by decide +kernel) rfl rfl (Nat.le_of_ble_eq_true rfl) dX5_init_10 (fun H locs hP hD hS => ?_)
  replace hw : Wd G A s H locs (X ++ [(b, .inr (5, [.ref q0, .int 0, .null, .int 0, .int 0, .int 0, .int 0, .int 0, .int 0, .int 0, .int 0, .int 0])), (q0, .inl (G.2.1 0, 1000, .inl (fun _ => 0)))]) := by rw [app_set] at hP hD; exact ⟨hP, hD, hS⟩
  refine lv_aload_n hx hb dX5_init_13 rfl (lv_at hl 0 rfl) ?_
  refine lv_bipush (v := 12) hx hb dX5_init_14 (by decide) ?_
  refine n_arr (atype := .int) (ty := .int) (k := 1) (a0 := (12, .inl (fun _ => 0))) hx hb (hts (.arrayClass .int) (List.mem_of_getElem? (i := 6) rfl)) rfl hG hA hw rfl nmI (df_I 12) (by decide) (by decide +kernel) (by decide +kernel) (by decide +kernel) (by decide +kernel) dX5_init_16 (fun q1 H hw => ?_)
  replace hw : Wd G A s H locs (X ++ [(b, .inr (5, [.ref q0, .int 0, .null, .int 0, .int 0, .int 0, .int 0, .int 0, .int 0, .int 0, .int 0, .int 0])), (q0, .inl (G.2.1 0, 1000, .inl (fun _ => 0))), (q1, .inl (G.2.1 1, 12, .inl (fun _ => 0)))]) := by rw [List.append_assoc] at hw; exact hw
  refine va_putF (D := G.1) (ci := 5) (v := .ref q1) (ty := tyX5 2) (C := RX5) (T := TX5) (N := 12) hx hb hts hin5 tyX5 tyX5_ok nmX5 hown hG.1 hw.1 hw.2.1 hw.2.2 (X.length + 0) (app_at rfl) rfl 2 (by decide) (hts (.fieldLink RX5 15 "DutyDesk$Reader" "text" "[I") (List.mem_of_getElem? (i := 7) rfl)) (fun _ h9 => h9) rfl hin rfl (by decide +kernel) rfl rfl (Nat.le_of_ble_eq_true rfl) dX5_init_18 (fun H locs hP hD hS => ?_)
  replace hw : Wd G A s H locs (X ++ [(b, .inr (5, [.ref q0, .int 0, .ref q1, .int 0, .int 0, .int 0, .int 0, .int 0, .int 0, .int 0, .int 0, .int 0])), (q0, .inl (G.2.1 0, 1000, .inl (fun _ => 0))), (q1, .inl (G.2.1 1, 12, .inl (fun _ => 0)))]) := by rw [app_set] at hP hD; exact ⟨hP, hD, hS⟩
  refine lv_aload_n hx hb dX5_init_21 rfl (lv_at hl 0 rfl) ?_
  refine lv_iconst (v := (-1)) hx hb dX5_init_22 (by decide) ?_
  refine va_put (D := G.1) (ci := 5) (v := .int (-1)) (ty := tyX5 11) (C := RX5) (T := TX5) (N := 12) hx hb hts hin5 tyX5 tyX5_ok nmX5 hown hG.1 hw.1 hw.2.1 hw.2.2 (X.length + 0) (app_at rfl) rfl 11 (by decide) (hts (.fieldLink RX5 19 "DutyDesk$Reader" "faultPlace" "I") (List.mem_of_getElem? (i := 8) rfl)) (fun _ h9 => h9) rfl (by decide +kernel) rfl rfl (Nat.le_of_ble_eq_true rfl) dX5_init_23 (fun H locs hP hD hS => ?_)
  replace hw : Wd G A s H locs (X ++ [(b, .inr (5, [.ref q0, .int 0, .ref q1, .int 0, .int 0, .int 0, .int 0, .int 0, .int 0, .int 0, .int 0, .int (-1)])), (q0, .inl (G.2.1 0, 1000, .inl (fun _ => 0))), (q1, .inl (G.2.1 1, 12, .inl (fun _ => 0)))]) := by rw [app_set] at hP hD; exact ⟨hP, hD, hS⟩
  refine W.widen (k := 2) (n := 1012) (by decide +kernel) (by decide +kernel) ?_
  exact wd_vretE hx hb hr hlocks ⟨q0, q1, rfl⟩ hw dX5_init_26
def rm_X2_init : Room := { frames := 1, cells := 4, slots := 2048, locals := 12 }
set_option maxHeartbeats 4000000 in
set_option maxRecDepth 100000 in
theorem e_X2_init (G : GP) (l : Launch) (X : va_W) (b p1 p2 : Nat) : ME G l yX2_init wsX2_init rm_X2_init [.ref b, .ref p1, .ref p2] (X ++ [(b, .inr (2, [.null, .null, .null, .null, .null, .null]))]) (fun W1 => ∃ q0 q1 q2 q3 : Nat, W1 = X ++ [(b, .inr (2, [.ref p1, .ref p2, .ref q0, .ref q1, .ref q2, .ref q3])), (q0, .inl (G.2.1 1, 1000, .inl (fun _ => 0))), (q1, .inl (G.2.1 1, 1000, .inl (fun _ => 0))), (q2, .inl (G.2.1 1, 24, .inl (fun _ => 0))), (q3, .inl (G.2.1 1, 24, .inl (fun _ => 0)))]) none 4 2048 := by
  refine ME.mk (cc := cX2_init) (maxL := 3) (ret := none) (by decide) rfl (Nat.le_of_ble_eq_true rfl) ?_
  intro p e s m below meth c A ls ⟨hx, hb, hr, hml, hown, hlocks, hin, hts⟩ hw hG hO hA hl
  have hl : lv_has ls 3 [(0, .ref b), (1, .ref p1), (2, .ref p2)] := hl
  have hin2 : ∀ w ∈ u_ws RX2 TX2 6, w ∈ wsX2_init := by decide +kernel
  refine lv_aload_n hx hb dX2_init_0 rfl (lv_at hl 0 rfl) ?_
  refine W.objInit hx hb hown (hts (.methodLink RX2 3 objectInit) (List.mem_of_getElem? (i := 1) rfl)) (hts (.instanceMethod objectInit) (List.mem_of_getElem? (i := 2) rfl)) (hts (.code objectInit ⟨#[0xb1]⟩ 1 none) (List.mem_of_getElem? (i := 3) rfl)) rfl (by rw [hml]; exact hl.1) rfl dX2_init_1 (Nat.le_of_ble_eq_true rfl) (Nat.le_of_ble_eq_true rfl) ?_
  refine W.eq (g2 := F0 m 4 ls []) rfl ?_
  refine lv_aload_n hx hb dX2_init_4 rfl (lv_at hl 0 rfl) ?_
  refine lv_sipush (v := 1000) hx hb dX2_init_5 (by decide) ?_
  refine n_arr (atype := .int) (ty := .int) (k := 1) (a0 := (1000, .inl (fun _ => 0))) hx hb (hts (.arrayClass .int) (List.mem_of_getElem? (i := 4) rfl)) rfl hG hA hw rfl nmI (df_I 1000) (by decide) (by decide +kernel) (by decide +kernel) (by decide +kernel) (by decide +kernel) dX2_init_8 (fun q0 H hw => ?_)
  replace hw : Wd G A s H [] (X ++ [(b, .inr (2, [.null, .null, .null, .null, .null, .null])), (q0, .inl (G.2.1 1, 1000, .inl (fun _ => 0)))]) := by rw [List.append_assoc] at hw; exact hw
  refine va_putF (D := G.1) (ci := 2) (v := .ref q0) (ty := tyX2 2) (C := RX2) (T := TX2) (N := 6) hx hb hts hin2 tyX2 tyX2_ok nmX2 hown hG.1 hw.1 hw.2.1 hw.2.2 (X.length + 0) (app_at rfl) rfl 2 (by decide) (hts (.fieldLink RX2 9 "DutyDesk$Nights" "holders" "[I") (List.mem_of_getElem? (i := 5) rfl)) (fun _ h9 => h9) rfl hin rfl (by decide +kernel) rfl rfl (Nat.le_of_ble_eq_true rfl) dX2_init_10 (fun H locs hP hD hS => ?_)
  replace hw : Wd G A s H locs (X ++ [(b, .inr (2, [.null, .null, .ref q0, .null, .null, .null])), (q0, .inl (G.2.1 1, 1000, .inl (fun _ => 0)))]) := by rw [app_set] at hP hD; exact ⟨hP, hD, hS⟩
  refine lv_aload_n hx hb dX2_init_13 rfl (lv_at hl 0 rfl) ?_
  refine lv_sipush (v := 1000) hx hb dX2_init_14 (by decide) ?_
  refine n_arr (atype := .int) (ty := .int) (k := 1) (a0 := (1000, .inl (fun _ => 0))) hx hb (hts (.arrayClass .int) (List.mem_of_getElem? (i := 4) rfl)) rfl hG hA hw rfl nmI (df_I 1000) (by decide) (by decide +kernel) (by decide +kernel) (by decide +kernel) (by decide +kernel) dX2_init_17 (fun q1 H hw => ?_)
  replace hw : Wd G A s H locs (X ++ [(b, .inr (2, [.null, .null, .ref q0, .null, .null, .null])), (q0, .inl (G.2.1 1, 1000, .inl (fun _ => 0))), (q1, .inl (G.2.1 1, 1000, .inl (fun _ => 0)))]) := by rw [List.append_assoc] at hw; exact hw
  refine va_putF (D := G.1) (ci := 2) (v := .ref q1) (ty := tyX2 3) (C := RX2) (T := TX2) (N := 6) hx hb hts hin2 tyX2 tyX2_ok nmX2 hown hG.1 hw.1 hw.2.1 hw.2.2 (X.length + 0) (app_at rfl) rfl 3 (by decide) (hts (.fieldLink RX2 15 "DutyDesk$Nights" "busyBits" "[I") (List.mem_of_getElem? (i := 6) rfl)) (fun _ h9 => h9) rfl hin rfl (by decide +kernel) rfl rfl (Nat.le_of_ble_eq_true rfl) dX2_init_19 (fun H locs hP hD hS => ?_)
  replace hw : Wd G A s H locs (X ++ [(b, .inr (2, [.null, .null, .ref q0, .ref q1, .null, .null])), (q0, .inl (G.2.1 1, 1000, .inl (fun _ => 0))), (q1, .inl (G.2.1 1, 1000, .inl (fun _ => 0)))]) := by rw [app_set] at hP hD; exact ⟨hP, hD, hS⟩
  refine lv_aload_n hx hb dX2_init_22 rfl (lv_at hl 0 rfl) ?_
  refine lv_bipush (v := 24) hx hb dX2_init_23 (by decide) ?_
  refine n_arr (atype := .int) (ty := .int) (k := 1) (a0 := (24, .inl (fun _ => 0))) hx hb (hts (.arrayClass .int) (List.mem_of_getElem? (i := 4) rfl)) rfl hG hA hw rfl nmI (df_I 24) (by decide) (by decide +kernel) (by decide +kernel) (by decide +kernel) (by decide +kernel) dX2_init_25 (fun q2 H hw => ?_)
  replace hw : Wd G A s H locs (X ++ [(b, .inr (2, [.null, .null, .ref q0, .ref q1, .null, .null])), (q0, .inl (G.2.1 1, 1000, .inl (fun _ => 0))), (q1, .inl (G.2.1 1, 1000, .inl (fun _ => 0))), (q2, .inl (G.2.1 1, 24, .inl (fun _ => 0)))]) := by rw [List.append_assoc] at hw; exact hw
  refine va_putF (D := G.1) (ci := 2) (v := .ref q2) (ty := tyX2 4) (C := RX2) (T := TX2) (N := 6) hx hb hts hin2 tyX2 tyX2_ok nmX2 hown hG.1 hw.1 hw.2.1 hw.2.2 (X.length + 0) (app_at rfl) rfl 4 (by decide) (hts (.fieldLink RX2 18 "DutyDesk$Nights" "duties" "[I") (List.mem_of_getElem? (i := 7) rfl)) (fun _ h9 => h9) rfl hin rfl (by decide +kernel) rfl rfl (Nat.le_of_ble_eq_true rfl) dX2_init_27 (fun H locs hP hD hS => ?_)
  replace hw : Wd G A s H locs (X ++ [(b, .inr (2, [.null, .null, .ref q0, .ref q1, .ref q2, .null])), (q0, .inl (G.2.1 1, 1000, .inl (fun _ => 0))), (q1, .inl (G.2.1 1, 1000, .inl (fun _ => 0))), (q2, .inl (G.2.1 1, 24, .inl (fun _ => 0)))]) := by rw [app_set] at hP hD; exact ⟨hP, hD, hS⟩
  refine lv_aload_n hx hb dX2_init_30 rfl (lv_at hl 0 rfl) ?_
  refine lv_bipush (v := 24) hx hb dX2_init_31 (by decide) ?_
  refine n_arr (atype := .int) (ty := .int) (k := 1) (a0 := (24, .inl (fun _ => 0))) hx hb (hts (.arrayClass .int) (List.mem_of_getElem? (i := 4) rfl)) rfl hG hA hw rfl nmI (df_I 24) (by decide) (by decide +kernel) (by decide +kernel) (by decide +kernel) (by decide +kernel) dX2_init_33 (fun q3 H hw => ?_)
  replace hw : Wd G A s H locs (X ++ [(b, .inr (2, [.null, .null, .ref q0, .ref q1, .ref q2, .null])), (q0, .inl (G.2.1 1, 1000, .inl (fun _ => 0))), (q1, .inl (G.2.1 1, 1000, .inl (fun _ => 0))), (q2, .inl (G.2.1 1, 24, .inl (fun _ => 0))), (q3, .inl (G.2.1 1, 24, .inl (fun _ => 0)))]) := by rw [List.append_assoc] at hw; exact hw
  refine va_putF (D := G.1) (ci := 2) (v := .ref q3) (ty := tyX2 5) (C := RX2) (T := TX2) (N := 6) hx hb hts hin2 tyX2 tyX2_ok nmX2 hown hG.1 hw.1 hw.2.1 hw.2.2 (X.length + 0) (app_at rfl) rfl 5 (by decide) (hts (.fieldLink RX2 21 "DutyDesk$Nights" "tally" "[I") (List.mem_of_getElem? (i := 8) rfl)) (fun _ h9 => h9) rfl hin rfl (by decide +kernel) rfl rfl (Nat.le_of_ble_eq_true rfl) dX2_init_35 (fun H locs hP hD hS => ?_)
  replace hw : Wd G A s H locs (X ++ [(b, .inr (2, [.null, .null, .ref q0, .ref q1, .ref q2, .ref q3])), (q0, .inl (G.2.1 1, 1000, .inl (fun _ => 0))), (q1, .inl (G.2.1 1, 1000, .inl (fun _ => 0))), (q2, .inl (G.2.1 1, 24, .inl (fun _ => 0))), (q3, .inl (G.2.1 1, 24, .inl (fun _ => 0)))]) := by rw [app_set] at hP hD; exact ⟨hP, hD, hS⟩
  refine lv_aload_n hx hb dX2_init_38 rfl (lv_at hl 0 rfl) ?_
  refine lv_aload_n hx hb dX2_init_39 rfl (lv_at hl 1 rfl) ?_
  refine va_putF (D := G.1) (ci := 2) (v := .ref p1) (ty := tyX2 0) (C := RX2) (T := TX2) (N := 6) hx hb hts hin2 tyX2 tyX2_ok nmX2 hown hG.1 hw.1 hw.2.1 hw.2.2 (X.length + 0) (app_at rfl) rfl 0 (by decide) (hts (.fieldLink RX2 24 "DutyDesk$Nights" "people" "LDutyDesk$People;") (List.mem_of_getElem? (i := 9) rfl)) (fun _ h9 => h9) rfl hin rfl (by decide +kernel) rfl rfl (Nat.le_of_ble_eq_true rfl) dX2_init_40 (fun H locs hP hD hS => ?_)
  replace hw : Wd G A s H locs (X ++ [(b, .inr (2, [.ref p1, .null, .ref q0, .ref q1, .ref q2, .ref q3])), (q0, .inl (G.2.1 1, 1000, .inl (fun _ => 0))), (q1, .inl (G.2.1 1, 1000, .inl (fun _ => 0))), (q2, .inl (G.2.1 1, 24, .inl (fun _ => 0))), (q3, .inl (G.2.1 1, 24, .inl (fun _ => 0)))]) := by rw [app_set] at hP hD; exact ⟨hP, hD, hS⟩
  refine lv_aload_n hx hb dX2_init_43 rfl (lv_at hl 0 rfl) ?_
  refine lv_aload_n hx hb dX2_init_44 rfl (lv_at hl 2 rfl) ?_
  refine va_putF (D := G.1) (ci := 2) (v := .ref p2) (ty := tyX2 1) (C := RX2) (T := TX2) (N := 6) hx hb hts hin2 tyX2 tyX2_ok nmX2 hown hG.1 hw.1 hw.2.1 hw.2.2 (X.length + 0) (app_at rfl) rfl 1 (by decide) (hts (.fieldLink RX2 28 "DutyDesk$Nights" "statutes" "LDutyDesk$Statutes;") (List.mem_of_getElem? (i := 10) rfl)) (fun _ h9 => h9) rfl hin rfl (by decide +kernel) rfl rfl (Nat.le_of_ble_eq_true rfl) dX2_init_45 (fun H locs hP hD hS => ?_)
  replace hw : Wd G A s H locs (X ++ [(b, .inr (2, [.ref p1, .ref p2, .ref q0, .ref q1, .ref q2, .ref q3])), (q0, .inl (G.2.1 1, 1000, .inl (fun _ => 0))), (q1, .inl (G.2.1 1, 1000, .inl (fun _ => 0))), (q2, .inl (G.2.1 1, 24, .inl (fun _ => 0))), (q3, .inl (G.2.1 1, 24, .inl (fun _ => 0)))]) := by rw [app_set] at hP hD; exact ⟨hP, hD, hS⟩
  refine W.widen (k := 4) (n := 2048) (by decide +kernel) (by decide +kernel) ?_
  exact wd_vretE hx hb hr hlocks ⟨q0, q1, q2, q3, rfl⟩ hw dX2_init_48
def rm_X4_init : Room := { frames := 1, cells := 1, slots := 16, locals := 12 }
set_option maxHeartbeats 4000000 in
set_option maxRecDepth 100000 in
theorem e_X4_init (G : GP) (l : Launch) (X : va_W) (b p1 p2 : Nat) : ME G l yX4_init wsX4_init rm_X4_init [.ref b, .ref p1, .ref p2] (X ++ [(b, .inr (4, [.null, .null, .null]))]) (fun W1 => ∃ q0 : Nat, W1 = X ++ [(b, .inr (4, [.ref p1, .ref p2, .ref q0])), (q0, .inl (G.2.1 2, 16, .inr (.inl (fun _ => 0))))]) none 1 16 := by
  refine ME.mk (cc := cX4_init) (maxL := 3) (ret := none) (by decide) rfl (Nat.le_of_ble_eq_true rfl) ?_
  intro p e s m below meth c A ls ⟨hx, hb, hr, hml, hown, hlocks, hin, hts⟩ hw hG hO hA hl
  have hl : lv_has ls 3 [(0, .ref b), (1, .ref p1), (2, .ref p2)] := hl
  have hin4 : ∀ w ∈ u_ws RX4 TX4 3, w ∈ wsX4_init := by decide +kernel
  refine lv_aload_n hx hb dX4_init_0 rfl (lv_at hl 0 rfl) ?_
  refine W.objInit hx hb hown (hts (.methodLink RX4 5 objectInit) (List.mem_of_getElem? (i := 1) rfl)) (hts (.instanceMethod objectInit) (List.mem_of_getElem? (i := 2) rfl)) (hts (.code objectInit ⟨#[0xb1]⟩ 1 none) (List.mem_of_getElem? (i := 3) rfl)) rfl (by rw [hml]; exact hl.1) rfl dX4_init_1 (Nat.le_of_ble_eq_true rfl) (Nat.le_of_ble_eq_true rfl) ?_
  refine W.eq (g2 := F0 m 4 ls []) rfl ?_
  refine lv_aload_n hx hb dX4_init_4 rfl (lv_at hl 0 rfl) ?_
  refine lv_bipush (v := 16) hx hb dX4_init_5 (by decide) ?_
  refine n_arr (atype := .long) (ty := .long) (k := 2) (a0 := (16, .inr (.inl (fun _ => 0)))) hx hb (hts (.arrayClass .long) (List.mem_of_getElem? (i := 4) rfl)) rfl hG hA hw rfl nmJ (df_J 16) (by decide) (by decide +kernel) (by decide +kernel) (by decide +kernel) (by decide +kernel) dX4_init_7 (fun q0 H hw => ?_)
  replace hw : Wd G A s H [] (X ++ [(b, .inr (4, [.null, .null, .null])), (q0, .inl (G.2.1 2, 16, .inr (.inl (fun _ => 0))))]) := by rw [List.append_assoc] at hw; exact hw
  refine va_putF (D := G.1) (ci := 4) (v := .ref q0) (ty := tyX4 2) (C := RX4) (T := TX4) (N := 3) hx hb hts hin4 tyX4 tyX4_ok nmX4 hown hG.1 hw.1 hw.2.1 hw.2.2 (X.length + 0) (app_at rfl) rfl 2 (by decide) (hts (.fieldLink RX4 11 "DutyDesk$Planner" "least" "[J") (List.mem_of_getElem? (i := 5) rfl)) (fun _ h9 => h9) rfl hin rfl (by decide +kernel) rfl rfl (Nat.le_of_ble_eq_true rfl) dX4_init_9 (fun H locs hP hD hS => ?_)
  replace hw : Wd G A s H locs (X ++ [(b, .inr (4, [.null, .null, .ref q0])), (q0, .inl (G.2.1 2, 16, .inr (.inl (fun _ => 0))))]) := by rw [app_set] at hP hD; exact ⟨hP, hD, hS⟩
  refine lv_aload_n hx hb dX4_init_12 rfl (lv_at hl 0 rfl) ?_
  refine lv_aload_n hx hb dX4_init_13 rfl (lv_at hl 1 rfl) ?_
  refine va_putF (D := G.1) (ci := 4) (v := .ref p1) (ty := tyX4 0) (C := RX4) (T := TX4) (N := 3) hx hb hts hin4 tyX4 tyX4_ok nmX4 hown hG.1 hw.1 hw.2.1 hw.2.2 (X.length + 0) (app_at rfl) rfl 0 (by decide) (hts (.fieldLink RX4 15 "DutyDesk$Planner" "people" "LDutyDesk$People;") (List.mem_of_getElem? (i := 6) rfl)) (fun _ h9 => h9) rfl hin rfl (by decide +kernel) rfl rfl (Nat.le_of_ble_eq_true rfl) dX4_init_14 (fun H locs hP hD hS => ?_)
  replace hw : Wd G A s H locs (X ++ [(b, .inr (4, [.ref p1, .null, .ref q0])), (q0, .inl (G.2.1 2, 16, .inr (.inl (fun _ => 0))))]) := by rw [app_set] at hP hD; exact ⟨hP, hD, hS⟩
  refine lv_aload_n hx hb dX4_init_17 rfl (lv_at hl 0 rfl) ?_
  refine lv_aload_n hx hb dX4_init_18 rfl (lv_at hl 2 rfl) ?_
  refine va_putF (D := G.1) (ci := 4) (v := .ref p2) (ty := tyX4 1) (C := RX4) (T := TX4) (N := 3) hx hb hts hin4 tyX4 tyX4_ok nmX4 hown hG.1 hw.1 hw.2.1 hw.2.2 (X.length + 0) (app_at rfl) rfl 1 (by decide) (hts (.fieldLink RX4 19 "DutyDesk$Planner" "nights" "LDutyDesk$Nights;") (List.mem_of_getElem? (i := 7) rfl)) (fun _ h9 => h9) rfl hin rfl (by decide +kernel) rfl rfl (Nat.le_of_ble_eq_true rfl) dX4_init_19 (fun H locs hP hD hS => ?_)
  replace hw : Wd G A s H locs (X ++ [(b, .inr (4, [.ref p1, .ref p2, .ref q0])), (q0, .inl (G.2.1 2, 16, .inr (.inl (fun _ => 0))))]) := by rw [app_set] at hP hD; exact ⟨hP, hD, hS⟩
  refine W.widen (k := 1) (n := 16) (by decide +kernel) (by decide +kernel) ?_
  exact wd_vretE hx hb hr hlocks ⟨q0, rfl⟩ hw dX4_init_22
def rm_X1_init : Room := { frames := 1, cells := 3, slots := 350, locals := 12 }
set_option maxHeartbeats 4000000 in
set_option maxRecDepth 100000 in
theorem e_X1_init (G : GP) (l : Launch) (X : va_W) (b p1 p2 p3 : Nat) : ME G l yX1_init wsX1_init rm_X1_init [.ref b, .ref p1, .ref p2, .ref p3] (X ++ [(b, .inr (1, [.null, .null, .null, .null, .int 0, .null, .null]))]) (fun W1 => ∃ q0 q1 q2 : Nat, W1 = X ++ [(b, .inr (1, [.ref p1, .ref p2, .ref p3, .ref q0, .int 0, .ref q1, .ref q2])), (q0, .inl (G.2.1 4, 150, .inr (.inr (.inr (.inr (fun _ => none)))))), (q1, .inl (G.2.1 1, 100, .inl (fun _ => 0))), (q2, .inl (G.2.1 1, 100, .inl (fun _ => 0)))]) none 3 350 := by
  refine ME.mk (cc := cX1_init) (maxL := 4) (ret := none) (by decide) rfl (Nat.le_of_ble_eq_true rfl) ?_
  intro p e s m below meth c A ls ⟨hx, hb, hr, hml, hown, hlocks, hin, hts⟩ hw hG hO hA hl
  have hl : lv_has ls 4 [(0, .ref b), (1, .ref p1), (2, .ref p2), (3, .ref p3)] := hl
  have hin1 : ∀ w ∈ u_ws RX1 TX1 7, w ∈ wsX1_init := by decide +kernel
  refine lv_aload_n hx hb dX1_init_0 rfl (lv_at hl 0 rfl) ?_
  refine W.objInit hx hb hown (hts (.methodLink RX1 3 objectInit) (List.mem_of_getElem? (i := 1) rfl)) (hts (.instanceMethod objectInit) (List.mem_of_getElem? (i := 2) rfl)) (hts (.code objectInit ⟨#[0xb1]⟩ 1 none) (List.mem_of_getElem? (i := 3) rfl)) rfl (by rw [hml]; exact hl.1) rfl dX1_init_1 (Nat.le_of_ble_eq_true rfl) (Nat.le_of_ble_eq_true rfl) ?_
  refine W.eq (g2 := F0 m 4 ls []) rfl ?_
  refine lv_aload_n hx hb dX1_init_4 rfl (lv_at hl 0 rfl) ?_
  refine lv_sipush (v := 150) hx hb dX1_init_5 (by decide) ?_
  refine va_newq (N' := 150) hx hb hown (hts (.classLink RX1 9 RX0) (List.mem_of_getElem? (i := 4) rfl)) hO.1 hG.1 hw.1 hw.2.1 hw.2.2 hA (by decide) (by decide +kernel) (by decide +kernel) (by decide +kernel) (by decide +kernel) dX1_init_8 (fun q0 cA H hK hP hD hS => ?_)
  obtain rfl := cls_same (k := 4) hK rfl hG nmC
  have hw : Wd G A s H [] (X ++ [(b, .inr (1, [.null, .null, .null, .null, .int 0, .null, .null])), (q0, .inl (G.2.1 4, 150, .inr (.inr (.inr (.inr (fun _ => none))))))]) := by rw [List.append_assoc] at hP hD; exact ⟨hP, hD, hS⟩
  refine va_putF (D := G.1) (ci := 1) (v := .ref q0) (ty := tyX1 3) (C := RX1) (T := TX1) (N := 7) hx hb hts hin1 tyX1 tyX1_ok nmX1 hown hG.1 hw.1 hw.2.1 hw.2.2 (X.length + 0) (app_at rfl) rfl 3 (by decide) (hts (.fieldLink RX1 11 "DutyDesk$Calls" "list" "[LDutyDesk$Call;") (List.mem_of_getElem? (i := 5) rfl)) (fun _ h9 => h9) rfl hin rfl (by decide +kernel) rfl rfl (Nat.le_of_ble_eq_true rfl) dX1_init_11 (fun H locs hP hD hS => ?_)
  replace hw : Wd G A s H locs (X ++ [(b, .inr (1, [.null, .null, .null, .ref q0, .int 0, .null, .null])), (q0, .inl (G.2.1 4, 150, .inr (.inr (.inr (.inr (fun _ => none))))))]) := by rw [app_set] at hP hD; exact ⟨hP, hD, hS⟩
  refine lv_aload_n hx hb dX1_init_14 rfl (lv_at hl 0 rfl) ?_
  refine lv_bipush (v := 100) hx hb dX1_init_15 (by decide) ?_
  refine n_arr (atype := .int) (ty := .int) (k := 1) (a0 := (100, .inl (fun _ => 0))) hx hb (hts (.arrayClass .int) (List.mem_of_getElem? (i := 6) rfl)) rfl hG hA hw rfl nmI (df_I 100) (by decide) (by decide +kernel) (by decide +kernel) (by decide +kernel) (by decide +kernel) dX1_init_17 (fun q1 H hw => ?_)
  replace hw : Wd G A s H locs (X ++ [(b, .inr (1, [.null, .null, .null, .ref q0, .int 0, .null, .null])), (q0, .inl (G.2.1 4, 150, .inr (.inr (.inr (.inr (fun _ => none)))))), (q1, .inl (G.2.1 1, 100, .inl (fun _ => 0)))]) := by rw [List.append_assoc] at hw; exact hw
  refine va_putF (D := G.1) (ci := 1) (v := .ref q1) (ty := tyX1 5) (C := RX1) (T := TX1) (N := 7) hx hb hts hin1 tyX1 tyX1_ok nmX1 hown hG.1 hw.1 hw.2.1 hw.2.2 (X.length + 0) (app_at rfl) rfl 5 (by decide) (hts (.fieldLink RX1 17 "DutyDesk$Calls" "against" "[I") (List.mem_of_getElem? (i := 7) rfl)) (fun _ h9 => h9) rfl hin rfl (by decide +kernel) rfl rfl (Nat.le_of_ble_eq_true rfl) dX1_init_19 (fun H locs hP hD hS => ?_)
  replace hw : Wd G A s H locs (X ++ [(b, .inr (1, [.null, .null, .null, .ref q0, .int 0, .ref q1, .null])), (q0, .inl (G.2.1 4, 150, .inr (.inr (.inr (.inr (fun _ => none)))))), (q1, .inl (G.2.1 1, 100, .inl (fun _ => 0)))]) := by rw [app_set] at hP hD; exact ⟨hP, hD, hS⟩
  refine lv_aload_n hx hb dX1_init_22 rfl (lv_at hl 0 rfl) ?_
  refine lv_bipush (v := 100) hx hb dX1_init_23 (by decide) ?_
  refine n_arr (atype := .int) (ty := .int) (k := 1) (a0 := (100, .inl (fun _ => 0))) hx hb (hts (.arrayClass .int) (List.mem_of_getElem? (i := 6) rfl)) rfl hG hA hw rfl nmI (df_I 100) (by decide) (by decide +kernel) (by decide +kernel) (by decide +kernel) (by decide +kernel) dX1_init_25 (fun q2 H hw => ?_)
  replace hw : Wd G A s H locs (X ++ [(b, .inr (1, [.null, .null, .null, .ref q0, .int 0, .ref q1, .null])), (q0, .inl (G.2.1 4, 150, .inr (.inr (.inr (.inr (fun _ => none)))))), (q1, .inl (G.2.1 1, 100, .inl (fun _ => 0))), (q2, .inl (G.2.1 1, 100, .inl (fun _ => 0)))]) := by rw [List.append_assoc] at hw; exact hw
  refine va_putF (D := G.1) (ci := 1) (v := .ref q2) (ty := tyX1 6) (C := RX1) (T := TX1) (N := 7) hx hb hts hin1 tyX1 tyX1_ok nmX1 hown hG.1 hw.1 hw.2.1 hw.2.2 (X.length + 0) (app_at rfl) rfl 6 (by decide) (hts (.fieldLink RX1 21 "DutyDesk$Calls" "waived" "[I") (List.mem_of_getElem? (i := 8) rfl)) (fun _ h9 => h9) rfl hin rfl (by decide +kernel) rfl rfl (Nat.le_of_ble_eq_true rfl) dX1_init_27 (fun H locs hP hD hS => ?_)
  replace hw : Wd G A s H locs (X ++ [(b, .inr (1, [.null, .null, .null, .ref q0, .int 0, .ref q1, .ref q2])), (q0, .inl (G.2.1 4, 150, .inr (.inr (.inr (.inr (fun _ => none)))))), (q1, .inl (G.2.1 1, 100, .inl (fun _ => 0))), (q2, .inl (G.2.1 1, 100, .inl (fun _ => 0)))]) := by rw [app_set] at hP hD; exact ⟨hP, hD, hS⟩
  refine lv_aload_n hx hb dX1_init_30 rfl (lv_at hl 0 rfl) ?_
  refine lv_aload_n hx hb dX1_init_31 rfl (lv_at hl 1 rfl) ?_
  refine va_putF (D := G.1) (ci := 1) (v := .ref p1) (ty := tyX1 0) (C := RX1) (T := TX1) (N := 7) hx hb hts hin1 tyX1 tyX1_ok nmX1 hown hG.1 hw.1 hw.2.1 hw.2.2 (X.length + 0) (app_at rfl) rfl 0 (by decide) (hts (.fieldLink RX1 24 "DutyDesk$Calls" "people" "LDutyDesk$People;") (List.mem_of_getElem? (i := 9) rfl)) (fun _ h9 => h9) rfl hin rfl (by decide +kernel) rfl rfl (Nat.le_of_ble_eq_true rfl) dX1_init_32 (fun H locs hP hD hS => ?_)
  replace hw : Wd G A s H locs (X ++ [(b, .inr (1, [.ref p1, .null, .null, .ref q0, .int 0, .ref q1, .ref q2])), (q0, .inl (G.2.1 4, 150, .inr (.inr (.inr (.inr (fun _ => none)))))), (q1, .inl (G.2.1 1, 100, .inl (fun _ => 0))), (q2, .inl (G.2.1 1, 100, .inl (fun _ => 0)))]) := by rw [app_set] at hP hD; exact ⟨hP, hD, hS⟩
  refine lv_aload_n hx hb dX1_init_35 rfl (lv_at hl 0 rfl) ?_
  refine lv_aload_n hx hb dX1_init_36 rfl (lv_at hl 2 rfl) ?_
  refine va_putF (D := G.1) (ci := 1) (v := .ref p2) (ty := tyX1 1) (C := RX1) (T := TX1) (N := 7) hx hb hts hin1 tyX1 tyX1_ok nmX1 hown hG.1 hw.1 hw.2.1 hw.2.2 (X.length + 0) (app_at rfl) rfl 1 (by decide) (hts (.fieldLink RX1 28 "DutyDesk$Calls" "statutes" "LDutyDesk$Statutes;") (List.mem_of_getElem? (i := 10) rfl)) (fun _ h9 => h9) rfl hin rfl (by decide +kernel) rfl rfl (Nat.le_of_ble_eq_true rfl) dX1_init_37 (fun H locs hP hD hS => ?_)
  replace hw : Wd G A s H locs (X ++ [(b, .inr (1, [.ref p1, .ref p2, .null, .ref q0, .int 0, .ref q1, .ref q2])), (q0, .inl (G.2.1 4, 150, .inr (.inr (.inr (.inr (fun _ => none)))))), (q1, .inl (G.2.1 1, 100, .inl (fun _ => 0))), (q2, .inl (G.2.1 1, 100, .inl (fun _ => 0)))]) := by rw [app_set] at hP hD; exact ⟨hP, hD, hS⟩
  refine lv_aload_n hx hb dX1_init_40 rfl (lv_at hl 0 rfl) ?_
  refine lv_aload_n hx hb dX1_init_41 rfl (lv_at hl 3 rfl) ?_
  refine va_putF (D := G.1) (ci := 1) (v := .ref p3) (ty := tyX1 2) (C := RX1) (T := TX1) (N := 7) hx hb hts hin1 tyX1 tyX1_ok nmX1 hown hG.1 hw.1 hw.2.1 hw.2.2 (X.length + 0) (app_at rfl) rfl 2 (by decide) (hts (.fieldLink RX1 32 "DutyDesk$Calls" "nights" "LDutyDesk$Nights;") (List.mem_of_getElem? (i := 11) rfl)) (fun _ h9 => h9) rfl hin rfl (by decide +kernel) rfl rfl (Nat.le_of_ble_eq_true rfl) dX1_init_42 (fun H locs hP hD hS => ?_)
  replace hw : Wd G A s H locs (X ++ [(b, .inr (1, [.ref p1, .ref p2, .ref p3, .ref q0, .int 0, .ref q1, .ref q2])), (q0, .inl (G.2.1 4, 150, .inr (.inr (.inr (.inr (fun _ => none)))))), (q1, .inl (G.2.1 1, 100, .inl (fun _ => 0))), (q2, .inl (G.2.1 1, 100, .inl (fun _ => 0)))]) := by rw [app_set] at hP hD; exact ⟨hP, hD, hS⟩
  refine W.widen (k := 3) (n := 350) (by decide +kernel) (by decide +kernel) ?_
  exact wd_vretE hx hb hr hlocks ⟨q0, q1, q2, rfl⟩ hw dX1_init_45
def rm_X6_init : Room := { frames := 1, cells := 21, slots := 260, locals := 12 }
set_option maxHeartbeats 4000000 in
set_option maxRecDepth 100000 in
theorem e_X6_init (G : GP) (l : Launch) (X : va_W) (b : Nat) : ME G l yX6_init wsX6_init rm_X6_init [.ref b] (X ++ [(b, .inr (6, [.null, .int 0]))]) (fun W1 => ∃ (q0 : Nat) (r : Nat → Nat), W1 = X ++ ([(b, .inr (6, [.ref q0, .int 0])), (q0, .inl (G.2.1 5, 20, .inr (.inr (.inr (.inr (fun i => if i < 20 then some (r i) else none))))))] ++ (List.range 20).map (fun i => (r i, .inl (G.2.1 1, 12, .inl (fun _ => 0)))))) none 21 260 := by
  refine ME.mk (cc := cX6_init) (maxL := 1) (ret := none) (by decide) rfl (Nat.le_of_ble_eq_true rfl) ?_
  intro p e s m below meth c A ls ⟨hx, hb, hr, hml, hown, hlocks, hin, hts⟩ hw hG hO hA hl
  have hl : lv_has ls 1 [(0, .ref b)] := hl
  have hin6 : ∀ w ∈ u_ws RX6 TX6 2, w ∈ wsX6_init := by decide +kernel
  refine lv_aload_n hx hb dX6_init_0 rfl (lv_at hl 0 rfl) ?_
  refine W.objInit hx hb hown (hts (.methodLink RX6 3 objectInit) (List.mem_of_getElem? (i := 1) rfl)) (hts (.instanceMethod objectInit) (List.mem_of_getElem? (i := 2) rfl)) (hts (.code objectInit ⟨#[0xb1]⟩ 1 none) (List.mem_of_getElem? (i := 3) rfl)) rfl (by rw [hml]; exact hl.1) rfl dX6_init_1 (Nat.le_of_ble_eq_true rfl) (Nat.le_of_ble_eq_true rfl) ?_
  refine W.eq (g2 := F0 m 4 ls []) rfl ?_
  refine lv_aload_n hx hb dX6_init_4 rfl (lv_at hl 0 rfl) ?_
  refine lv_bipush (v := 20) hx hb dX6_init_5 (by decide) ?_
  refine lv_bipush (v := 12) hx hb dX6_init_7 (by decide) ?_
  have hX0 : X ++ [(b, .inr (6, [.null, .int 0]))] = (X ++ [(b, .inr (6, [.null, .int 0]))]) ++ va_pl [] (fun _ => (.inr (0, []) : va_E)) := (List.append_nil _).symm
  rw [hX0] at hw
  refine va_mna (ty := .int) (cy := G.2.1 1) (N' := 20) (K' := 12) (z := (12, .inl (fun _ => 0))) hx hb hown (hts (.classLink RX6 9 "[[I") (List.mem_of_getElem? (i := 4) rfl)) hO.2 (hts (.arrayClass .int) (List.mem_of_getElem? (i := 5) rfl)) (nmI _ (hG.1.2 1 _ rfl).2) hG.1 hw.1 hw.2.1 hw.2.2 hA (by decide) (by decide) rfl rfl (by decide) (by decide) (by decide) rfl rfl (by decide +kernel) (by decide +kernel) (fun cc => by rw [vp_cell_i, ← arrV_new]; rfl) dX6_init_9 (fun q0 r cA H _ _ hK hP hD hS => ?_)
  obtain rfl := cls_same (k := 5) hK rfl hG nmA
  have hrow : va_pl ([] ++ (List.range 20).map r) (vr_up (fun _ => (.inr (0, []) : va_E)) ((List.range 20).map r) (.inl (G.2.1 1, (12, .inl (fun _ => 0))))) = (List.range 20).map (fun i => (r i, (.inl (G.2.1 1, 12, .inl (fun _ => 0)) : va_E))) := by
    unfold va_pl
    rw [List.nil_append, List.map_map]
    refine List.map_congr_left (fun i hi => ?_)
    show (r i, _) = _
    rw [vr_up_in (List.mem_map_of_mem hi)]
  rw [hrow, List.append_assoc, List.append_assoc] at hP hD
  have hw : Wd G A s H [] (X ++ ([(b, .inr (6, [.null, .int 0])), (q0, .inl (G.2.1 5, 20, .inr (.inr (.inr (.inr (fun i => if i < 20 then some (r i) else none))))))] ++ (List.range 20).map (fun i => (r i, (.inl (G.2.1 1, 12, .inl (fun _ => 0)) : va_E))))) := ⟨hP, hD, hS⟩
  refine va_putF (D := G.1) (ci := 6) (v := .ref q0) (ty := tyX6 0) (C := RX6) (T := TX6) (N := 2) hx hb hts hin6 tyX6 tyX6_ok nmX6 hown hG.1 hw.1 hw.2.1 hw.2.2 (X.length + 0) (app_at rfl) rfl 0 (by decide) (hts (.fieldLink RX6 11 "DutyDesk$Statutes" "texts" "[[I") (List.mem_of_getElem? (i := 6) rfl)) (fun _ h9 => h9) rfl hin rfl (by decide +kernel) rfl rfl (Nat.le_of_ble_eq_true rfl) dX6_init_13 (fun H locs hP hD hS => ?_)
  rw [app_set] at hP hD
  refine W.widen (k := 21) (n := 260) (by decide +kernel) (by decide +kernel) ?_
  exact wd_vretE hx hb hr hlocks ⟨q0, r, rfl⟩ ⟨hP, hD, hS⟩ dX6_init_16
/-- the way within a town is told from the start -/
def mn0 (i : Nat) : Nat → Int32
  | j => if j < 100 then (if j % 11 = 0 ∧ j / 11 < i then 10 else -1) else 0
def rm_X3_init : Room := { frames := 1, cells := 7, slots := 1220, locals := 23 }
set_option maxHeartbeats 4000000 in
set_option maxRecDepth 100000 in
theorem e_X3_init (G : GP) (l : Launch) (X : va_W) (b : Nat) : ME G l yX3_init wsX3_init rm_X3_init [.ref b] (X ++ [(b, .inr (3, [.null, .null, .null, .null, .null, .null, .null, .int 0]))]) (fun W1 => ∃ q0 q1 q2 q3 q4 q5 q6 : Nat, W1 = X ++ [(b, .inr (3, [.ref q0, .ref q1, .ref q2, .ref q3, .ref q4, .ref q5, .ref q6, .int 0])), (q0, .inl (G.2.1 1, 24, .inl (fun _ => 0))), (q1, .inl (G.2.1 1, 24, .inl (fun _ => 0))), (q2, .inl (G.2.1 1, 24, .inl (fun _ => 0))), (q3, .inl (G.2.1 1, 24, .inl (fill0 (fun _ => 0) 24 (-1)))), (q4, .inl (G.2.1 1, 24, .inl (fun _ => 0))), (q5, .inl (G.2.1 1, 1000, .inl (fun _ => 0))), (q6, .inl (G.2.1 1, 100, .inl (mn0 10)))]) none 7 1220 := by
  refine ME.mk (cc := cX3_init) (maxL := 2) (ret := none) (by decide) rfl (Nat.le_of_ble_eq_true rfl) ?_
  intro p e s m below meth c A ls ⟨hx, hb, hr, hml, hown, hlocks, hin, hts⟩ hw hG hO hA hl
  have hl : lv_has ls 2 [(0, .ref b)] := hl
  have hin3 : ∀ w ∈ u_ws RX3 TX3 8, w ∈ wsX3_init := by decide +kernel
  refine lv_aload_n hx hb dX3_init_0 rfl (lv_at hl 0 rfl) ?_
  refine W.objInit hx hb hown (hts (.methodLink RX3 3 objectInit) (List.mem_of_getElem? (i := 1) rfl)) (hts (.instanceMethod objectInit) (List.mem_of_getElem? (i := 2) rfl)) (hts (.code objectInit ⟨#[0xb1]⟩ 1 none) (List.mem_of_getElem? (i := 3) rfl)) rfl (by rw [hml]; exact hl.1) rfl dX3_init_1 (Nat.le_of_ble_eq_true rfl) (Nat.le_of_ble_eq_true rfl) ?_
  refine W.eq (g2 := F0 m 4 ls []) rfl ?_
  refine lv_aload_n hx hb dX3_init_4 rfl (lv_at hl 0 rfl) ?_
  refine lv_bipush (v := 24) hx hb dX3_init_5 (by decide) ?_
  refine n_arr (atype := .int) (ty := .int) (k := 1) (a0 := (24, .inl (fun _ => 0))) hx hb (hts (.arrayClass .int) (List.mem_of_getElem? (i := 4) rfl)) rfl hG hA hw rfl nmI (df_I 24) (by decide) (by decide +kernel) (by decide +kernel) (by decide +kernel) (by decide +kernel) dX3_init_7 (fun q0 H hw => ?_)
  replace hw : Wd G A s H [] (X ++ [(b, .inr (3, [.null, .null, .null, .null, .null, .null, .null, .int 0])), (q0, .inl (G.2.1 1, 24, .inl (fun _ => 0)))]) := by rw [List.append_assoc] at hw; exact hw
  refine va_putF (D := G.1) (ci := 3) (v := .ref q0) (ty := tyX3 0) (C := RX3) (T := TX3) (N := 8) hx hb hts hin3 tyX3 tyX3_ok nmX3 hown hG.1 hw.1 hw.2.1 hw.2.2 (X.length + 0) (app_at rfl) rfl 0 (by decide) (hts (.fieldLink RX3 9 "DutyDesk$People" "town" "[I") (List.mem_of_getElem? (i := 5) rfl)) (fun _ h9 => h9) rfl hin rfl (by decide +kernel) rfl rfl (Nat.le_of_ble_eq_true rfl) dX3_init_9 (fun H locs hP hD hS => ?_)
  replace hw : Wd G A s H locs (X ++ [(b, .inr (3, [.ref q0, .null, .null, .null, .null, .null, .null, .int 0])), (q0, .inl (G.2.1 1, 24, .inl (fun _ => 0)))]) := by rw [app_set] at hP hD; exact ⟨hP, hD, hS⟩
  refine lv_aload_n hx hb dX3_init_12 rfl (lv_at hl 0 rfl) ?_
  refine lv_bipush (v := 24) hx hb dX3_init_13 (by decide) ?_
  refine n_arr (atype := .int) (ty := .int) (k := 1) (a0 := (24, .inl (fun _ => 0))) hx hb (hts (.arrayClass .int) (List.mem_of_getElem? (i := 4) rfl)) rfl hG hA hw rfl nmI (df_I 24) (by decide) (by decide +kernel) (by decide +kernel) (by decide +kernel) (by decide +kernel) dX3_init_15 (fun q1 H hw => ?_)
  replace hw : Wd G A s H locs (X ++ [(b, .inr (3, [.ref q0, .null, .null, .null, .null, .null, .null, .int 0])), (q0, .inl (G.2.1 1, 24, .inl (fun _ => 0))), (q1, .inl (G.2.1 1, 24, .inl (fun _ => 0)))]) := by rw [List.append_assoc] at hw; exact hw
  refine va_putF (D := G.1) (ci := 3) (v := .ref q1) (ty := tyX3 1) (C := RX3) (T := TX3) (N := 8) hx hb hts hin3 tyX3 tyX3_ok nmX3 hown hG.1 hw.1 hw.2.1 hw.2.2 (X.length + 0) (app_at rfl) rfl 1 (by decide) (hts (.fieldLink RX3 15 "DutyDesk$People" "panels" "[I") (List.mem_of_getElem? (i := 6) rfl)) (fun _ h9 => h9) rfl hin rfl (by decide +kernel) rfl rfl (Nat.le_of_ble_eq_true rfl) dX3_init_17 (fun H locs hP hD hS => ?_)
  replace hw : Wd G A s H locs (X ++ [(b, .inr (3, [.ref q0, .ref q1, .null, .null, .null, .null, .null, .int 0])), (q0, .inl (G.2.1 1, 24, .inl (fun _ => 0))), (q1, .inl (G.2.1 1, 24, .inl (fun _ => 0)))]) := by rw [app_set] at hP hD; exact ⟨hP, hD, hS⟩
  refine lv_aload_n hx hb dX3_init_20 rfl (lv_at hl 0 rfl) ?_
  refine lv_bipush (v := 24) hx hb dX3_init_21 (by decide) ?_
  refine n_arr (atype := .int) (ty := .int) (k := 1) (a0 := (24, .inl (fun _ => 0))) hx hb (hts (.arrayClass .int) (List.mem_of_getElem? (i := 4) rfl)) rfl hG hA hw rfl nmI (df_I 24) (by decide) (by decide +kernel) (by decide +kernel) (by decide +kernel) (by decide +kernel) dX3_init_23 (fun q2 H hw => ?_)
  replace hw : Wd G A s H locs (X ++ [(b, .inr (3, [.ref q0, .ref q1, .null, .null, .null, .null, .null, .int 0])), (q0, .inl (G.2.1 1, 24, .inl (fun _ => 0))), (q1, .inl (G.2.1 1, 24, .inl (fun _ => 0))), (q2, .inl (G.2.1 1, 24, .inl (fun _ => 0)))]) := by rw [List.append_assoc] at hw; exact hw
  refine va_putF (D := G.1) (ci := 3) (v := .ref q2) (ty := tyX3 2) (C := RX3) (T := TX3) (N := 8) hx hb hts hin3 tyX3 tyX3_ok nmX3 hown hG.1 hw.1 hw.2.1 hw.2.2 (X.length + 0) (app_at rfl) rfl 2 (by decide) (hts (.fieldLink RX3 18 "DutyDesk$People" "tongues" "[I") (List.mem_of_getElem? (i := 7) rfl)) (fun _ h9 => h9) rfl hin rfl (by decide +kernel) rfl rfl (Nat.le_of_ble_eq_true rfl) dX3_init_25 (fun H locs hP hD hS => ?_)
  replace hw : Wd G A s H locs (X ++ [(b, .inr (3, [.ref q0, .ref q1, .ref q2, .null, .null, .null, .null, .int 0])), (q0, .inl (G.2.1 1, 24, .inl (fun _ => 0))), (q1, .inl (G.2.1 1, 24, .inl (fun _ => 0))), (q2, .inl (G.2.1 1, 24, .inl (fun _ => 0)))]) := by rw [app_set] at hP hD; exact ⟨hP, hD, hS⟩
  refine lv_aload_n hx hb dX3_init_28 rfl (lv_at hl 0 rfl) ?_
  refine lv_bipush (v := 24) hx hb dX3_init_29 (by decide) ?_
  refine n_arr (atype := .int) (ty := .int) (k := 1) (a0 := (24, .inl (fun _ => 0))) hx hb (hts (.arrayClass .int) (List.mem_of_getElem? (i := 4) rfl)) rfl hG hA hw rfl nmI (df_I 24) (by decide) (by decide +kernel) (by decide +kernel) (by decide +kernel) (by decide +kernel) dX3_init_31 (fun q3 H hw => ?_)
  replace hw : Wd G A s H locs (X ++ [(b, .inr (3, [.ref q0, .ref q1, .ref q2, .null, .null, .null, .null, .int 0])), (q0, .inl (G.2.1 1, 24, .inl (fun _ => 0))), (q1, .inl (G.2.1 1, 24, .inl (fun _ => 0))), (q2, .inl (G.2.1 1, 24, .inl (fun _ => 0))), (q3, .inl (G.2.1 1, 24, .inl (fun _ => 0)))]) := by rw [List.append_assoc] at hw; exact hw
  refine va_putF (D := G.1) (ci := 3) (v := .ref q3) (ty := tyX3 3) (C := RX3) (T := TX3) (N := 8) hx hb hts hin3 tyX3 tyX3_ok nmX3 hown hG.1 hw.1 hw.2.1 hw.2.2 (X.length + 0) (app_at rfl) rfl 3 (by decide) (hts (.fieldLink RX3 21 "DutyDesk$People" "struck" "[I") (List.mem_of_getElem? (i := 8) rfl)) (fun _ h9 => h9) rfl hin rfl (by decide +kernel) rfl rfl (Nat.le_of_ble_eq_true rfl) dX3_init_33 (fun H locs hP hD hS => ?_)
  replace hw : Wd G A s H locs (X ++ [(b, .inr (3, [.ref q0, .ref q1, .ref q2, .ref q3, .null, .null, .null, .int 0])), (q0, .inl (G.2.1 1, 24, .inl (fun _ => 0))), (q1, .inl (G.2.1 1, 24, .inl (fun _ => 0))), (q2, .inl (G.2.1 1, 24, .inl (fun _ => 0))), (q3, .inl (G.2.1 1, 24, .inl (fun _ => 0)))]) := by rw [app_set] at hP hD; exact ⟨hP, hD, hS⟩
  refine lv_aload_n hx hb dX3_init_36 rfl (lv_at hl 0 rfl) ?_
  refine lv_bipush (v := 24) hx hb dX3_init_37 (by decide) ?_
  refine n_arr (atype := .int) (ty := .int) (k := 1) (a0 := (24, .inl (fun _ => 0))) hx hb (hts (.arrayClass .int) (List.mem_of_getElem? (i := 4) rfl)) rfl hG hA hw rfl nmI (df_I 24) (by decide) (by decide +kernel) (by decide +kernel) (by decide +kernel) (by decide +kernel) dX3_init_39 (fun q4 H hw => ?_)
  replace hw : Wd G A s H locs (X ++ [(b, .inr (3, [.ref q0, .ref q1, .ref q2, .ref q3, .null, .null, .null, .int 0])), (q0, .inl (G.2.1 1, 24, .inl (fun _ => 0))), (q1, .inl (G.2.1 1, 24, .inl (fun _ => 0))), (q2, .inl (G.2.1 1, 24, .inl (fun _ => 0))), (q3, .inl (G.2.1 1, 24, .inl (fun _ => 0))), (q4, .inl (G.2.1 1, 24, .inl (fun _ => 0)))]) := by rw [List.append_assoc] at hw; exact hw
  refine va_putF (D := G.1) (ci := 3) (v := .ref q4) (ty := tyX3 4) (C := RX3) (T := TX3) (N := 8) hx hb hts hin3 tyX3 tyX3_ok nmX3 hown hG.1 hw.1 hw.2.1 hw.2.2 (X.length + 0) (app_at rfl) rfl 4 (by decide) (hts (.fieldLink RX3 24 "DutyDesk$People" "taken" "[I") (List.mem_of_getElem? (i := 9) rfl)) (fun _ h9 => h9) rfl hin rfl (by decide +kernel) rfl rfl (Nat.le_of_ble_eq_true rfl) dX3_init_41 (fun H locs hP hD hS => ?_)
  replace hw : Wd G A s H locs (X ++ [(b, .inr (3, [.ref q0, .ref q1, .ref q2, .ref q3, .ref q4, .null, .null, .int 0])), (q0, .inl (G.2.1 1, 24, .inl (fun _ => 0))), (q1, .inl (G.2.1 1, 24, .inl (fun _ => 0))), (q2, .inl (G.2.1 1, 24, .inl (fun _ => 0))), (q3, .inl (G.2.1 1, 24, .inl (fun _ => 0))), (q4, .inl (G.2.1 1, 24, .inl (fun _ => 0)))]) := by rw [app_set] at hP hD; exact ⟨hP, hD, hS⟩
  refine lv_aload_n hx hb dX3_init_44 rfl (lv_at hl 0 rfl) ?_
  refine lv_sipush (v := 1000) hx hb dX3_init_45 (by decide) ?_
  refine n_arr (atype := .int) (ty := .int) (k := 1) (a0 := (1000, .inl (fun _ => 0))) hx hb (hts (.arrayClass .int) (List.mem_of_getElem? (i := 4) rfl)) rfl hG hA hw rfl nmI (df_I 1000) (by decide) (by decide +kernel) (by decide +kernel) (by decide +kernel) (by decide +kernel) dX3_init_48 (fun q5 H hw => ?_)
  replace hw : Wd G A s H locs (X ++ [(b, .inr (3, [.ref q0, .ref q1, .ref q2, .ref q3, .ref q4, .null, .null, .int 0])), (q0, .inl (G.2.1 1, 24, .inl (fun _ => 0))), (q1, .inl (G.2.1 1, 24, .inl (fun _ => 0))), (q2, .inl (G.2.1 1, 24, .inl (fun _ => 0))), (q3, .inl (G.2.1 1, 24, .inl (fun _ => 0))), (q4, .inl (G.2.1 1, 24, .inl (fun _ => 0))), (q5, .inl (G.2.1 1, 1000, .inl (fun _ => 0)))]) := by rw [List.append_assoc] at hw; exact hw
  refine va_putF (D := G.1) (ci := 3) (v := .ref q5) (ty := tyX3 5) (C := RX3) (T := TX3) (N := 8) hx hb hts hin3 tyX3 tyX3_ok nmX3 hown hG.1 hw.1 hw.2.1 hw.2.2 (X.length + 0) (app_at rfl) rfl 5 (by decide) (hts (.fieldLink RX3 27 "DutyDesk$People" "awayBits" "[I") (List.mem_of_getElem? (i := 10) rfl)) (fun _ h9 => h9) rfl hin rfl (by decide +kernel) rfl rfl (Nat.le_of_ble_eq_true rfl) dX3_init_50 (fun H locs hP hD hS => ?_)
  replace hw : Wd G A s H locs (X ++ [(b, .inr (3, [.ref q0, .ref q1, .ref q2, .ref q3, .ref q4, .ref q5, .null, .int 0])), (q0, .inl (G.2.1 1, 24, .inl (fun _ => 0))), (q1, .inl (G.2.1 1, 24, .inl (fun _ => 0))), (q2, .inl (G.2.1 1, 24, .inl (fun _ => 0))), (q3, .inl (G.2.1 1, 24, .inl (fun _ => 0))), (q4, .inl (G.2.1 1, 24, .inl (fun _ => 0))), (q5, .inl (G.2.1 1, 1000, .inl (fun _ => 0)))]) := by rw [app_set] at hP hD; exact ⟨hP, hD, hS⟩
  refine lv_aload_n hx hb dX3_init_53 rfl (lv_at hl 0 rfl) ?_
  refine lv_bipush (v := 100) hx hb dX3_init_54 (by decide) ?_
  refine n_arr (atype := .int) (ty := .int) (k := 1) (a0 := (100, .inl (fun _ => 0))) hx hb (hts (.arrayClass .int) (List.mem_of_getElem? (i := 4) rfl)) rfl hG hA hw rfl nmI (df_I 100) (by decide) (by decide +kernel) (by decide +kernel) (by decide +kernel) (by decide +kernel) dX3_init_56 (fun q6 H hw => ?_)
  replace hw : Wd G A s H locs (X ++ [(b, .inr (3, [.ref q0, .ref q1, .ref q2, .ref q3, .ref q4, .ref q5, .null, .int 0])), (q0, .inl (G.2.1 1, 24, .inl (fun _ => 0))), (q1, .inl (G.2.1 1, 24, .inl (fun _ => 0))), (q2, .inl (G.2.1 1, 24, .inl (fun _ => 0))), (q3, .inl (G.2.1 1, 24, .inl (fun _ => 0))), (q4, .inl (G.2.1 1, 24, .inl (fun _ => 0))), (q5, .inl (G.2.1 1, 1000, .inl (fun _ => 0))), (q6, .inl (G.2.1 1, 100, .inl (fun _ => 0)))]) := by rw [List.append_assoc] at hw; exact hw
  refine va_putF (D := G.1) (ci := 3) (v := .ref q6) (ty := tyX3 6) (C := RX3) (T := TX3) (N := 8) hx hb hts hin3 tyX3 tyX3_ok nmX3 hown hG.1 hw.1 hw.2.1 hw.2.2 (X.length + 0) (app_at rfl) rfl 6 (by decide) (hts (.fieldLink RX3 30 "DutyDesk$People" "minutes" "[I") (List.mem_of_getElem? (i := 11) rfl)) (fun _ h9 => h9) rfl hin rfl (by decide +kernel) rfl rfl (Nat.le_of_ble_eq_true rfl) dX3_init_58 (fun H locs hP hD hS => ?_)
  replace hw : Wd G A s H locs (X ++ [(b, .inr (3, [.ref q0, .ref q1, .ref q2, .ref q3, .ref q4, .ref q5, .ref q6, .int 0])), (q0, .inl (G.2.1 1, 24, .inl (fun _ => 0))), (q1, .inl (G.2.1 1, 24, .inl (fun _ => 0))), (q2, .inl (G.2.1 1, 24, .inl (fun _ => 0))), (q3, .inl (G.2.1 1, 24, .inl (fun _ => 0))), (q4, .inl (G.2.1 1, 24, .inl (fun _ => 0))), (q5, .inl (G.2.1 1, 1000, .inl (fun _ => 0))), (q6, .inl (G.2.1 1, 100, .inl (fun _ => 0)))]) := by rw [app_set] at hP hD; exact ⟨hP, hD, hS⟩
  refine lv_aload_n hx hb dX3_init_61 rfl (lv_at hl 0 rfl) ?_
  refine va_get (D := G.1) (ci := 3) (v := .ref q3) (C := RX3) (T := TX3) (N := 8) hx hb hts hin3 hown hG.1 hw.1 (X.length + 0) (app_at rfl) rfl 3 (by decide) (hts (.fieldLink RX3 21 "DutyDesk$People" "struck" "[I") (List.mem_of_getElem? (i := 8) rfl)) (fun _ h9 => h9) rfl dX3_init_62 ?_
  refine lv_iconst (v := (-1)) hx hb dX3_init_65 (by decide) ?_
  refine cS (As := [.ref q3, .int (-1)]) (rest := []) ⟨hx, hb, hml, hown, hts⟩ hG hA hw (c_fillI G l _ (X.length + 4) 24 q3 (fun _ => 0) (-1) (app_at rfl) (by decide)) (va_cwS 2 hts gX3_init_J7_fill_53178 rfl rfl rfl (by decide +kernel) ⟨Nat.le_of_ble_eq_true rfl, Nat.le_of_ble_eq_true rfl⟩) rfl hl.1 rfl (Nat.le_of_ble_eq_true rfl) dX3_init_66 ⟨by decide +kernel, by decide +kernel⟩ (fun H locs hw => ?_)
  replace hw : Wd G A s H locs (X ++ [(b, .inr (3, [.ref q0, .ref q1, .ref q2, .ref q3, .ref q4, .ref q5, .ref q6, .int 0])), (q0, .inl (G.2.1 1, 24, .inl (fun _ => 0))), (q1, .inl (G.2.1 1, 24, .inl (fun _ => 0))), (q2, .inl (G.2.1 1, 24, .inl (fun _ => 0))), (q3, .inl (G.2.1 1, 24, .inl (fill0 (fun _ => 0) 24 (-1)))), (q4, .inl (G.2.1 1, 24, .inl (fun _ => 0))), (q5, .inl (G.2.1 1, 1000, .inl (fun _ => 0))), (q6, .inl (G.2.1 1, 100, .inl (fun _ => 0)))]) := by rw [app_set] at hw; exact hw
  refine lv_aload_n hx hb dX3_init_69 rfl (lv_at hl 0 rfl) ?_
  refine va_get (D := G.1) (ci := 3) (v := .ref q6) (C := RX3) (T := TX3) (N := 8) hx hb hts hin3 hown hG.1 hw.1 (X.length + 0) (app_at rfl) rfl 6 (by decide) (hts (.fieldLink RX3 30 "DutyDesk$People" "minutes" "[I") (List.mem_of_getElem? (i := 11) rfl)) (fun _ h9 => h9) rfl dX3_init_70 ?_
  refine lv_iconst (v := (-1)) hx hb dX3_init_73 (by decide) ?_
  refine cS (As := [.ref q6, .int (-1)]) (rest := []) ⟨hx, hb, hml, hown, hts⟩ hG hA hw (c_fillI G l _ (X.length + 7) 100 q6 (fun _ => 0) (-1) (app_at rfl) (by decide)) (va_cwS 2 hts gX3_init_J7_fill_53178 rfl rfl rfl (by decide +kernel) ⟨Nat.le_of_ble_eq_true rfl, Nat.le_of_ble_eq_true rfl⟩) rfl hl.1 rfl (Nat.le_of_ble_eq_true rfl) dX3_init_74 ⟨by decide +kernel, by decide +kernel⟩ (fun H locs hw => ?_)
  replace hw : Wd G A s H locs (X ++ [(b, .inr (3, [.ref q0, .ref q1, .ref q2, .ref q3, .ref q4, .ref q5, .ref q6, .int 0])), (q0, .inl (G.2.1 1, 24, .inl (fun _ => 0))), (q1, .inl (G.2.1 1, 24, .inl (fun _ => 0))), (q2, .inl (G.2.1 1, 24, .inl (fun _ => 0))), (q3, .inl (G.2.1 1, 24, .inl (fill0 (fun _ => 0) 24 (-1)))), (q4, .inl (G.2.1 1, 24, .inl (fun _ => 0))), (q5, .inl (G.2.1 1, 1000, .inl (fun _ => 0))), (q6, .inl (G.2.1 1, 100, .inl (fill0 (fun _ => 0) 100 (-1))))]) := by rw [app_set] at hw; exact hw
  have e0 : (fill0 (fun _ => 0) 100 (-1)) = mn0 0 := by
    funext j
    simp [fill0, mn0]
  rw [e0] at hw
  refine lv_iconst (v := 0) hx hb dX3_init_77 (by decide) ?_
  refine lv_istore_n (lv' := [(1, .int 0), (0, .ref b)]) hx hb dX3_init_78 rfl hl (by decide) rfl (fun ls hl => ?_)
  have loop : ∀ (k i : Nat), i + k = 10 → ∀ (x : Int32), x = nI i → ∀ (H : Heap) (locs : List Loc) (ls : Array Slot), Wd G A s H locs (X ++ [(b, .inr (3, [.ref q0, .ref q1, .ref q2, .ref q3, .ref q4, .ref q5, .ref q6, .int 0])), (q0, .inl (G.2.1 1, 24, .inl (fun _ => 0))), (q1, .inl (G.2.1 1, 24, .inl (fun _ => 0))), (q2, .inl (G.2.1 1, 24, .inl (fun _ => 0))), (q3, .inl (G.2.1 1, 24, .inl (fill0 (fun _ => 0) 24 (-1)))), (q4, .inl (G.2.1 1, 24, .inl (fun _ => 0))), (q5, .inl (G.2.1 1, 1000, .inl (fun _ => 0))), (q6, .inl (G.2.1 1, 100, .inl (mn0 i)))]) → lv_has ls 2 [(1, .int x), (0, .ref b)] → W p l e rm_X3_init s m ([.ref b] : List Value).toArray below meth c H locs 7 1220 (MQ below (QE G A (fun W1 => ∃ q0 q1 q2 q3 q4 q5 q6 : Nat, W1 = X ++ [(b, .inr (3, [.ref q0, .ref q1, .ref q2, .ref q3, .ref q4, .ref q5, .ref q6, .int 0])), (q0, .inl (G.2.1 1, 24, .inl (fun _ => 0))), (q1, .inl (G.2.1 1, 24, .inl (fun _ => 0))), (q2, .inl (G.2.1 1, 24, .inl (fun _ => 0))), (q3, .inl (G.2.1 1, 24, .inl (fill0 (fun _ => 0) 24 (-1)))), (q4, .inl (G.2.1 1, 24, .inl (fun _ => 0))), (q5, .inl (G.2.1 1, 1000, .inl (fun _ => 0))), (q6, .inl (G.2.1 1, 100, .inl (mn0 10)))]) none) ([.ref b] : List Value).toArray s 7 1220 A) (F0 m 79 ls []) := by
    intro k
    induction k with
    | zero =>
      intro i hi x ex H locs ls hw hl
      obtain rfl : i = 10 := by omega
      refine lv_iload_n hx hb dX3_init_79 rfl (lv_at hl 0 rfl) ?_
      refine lv_bipush (v := 10) hx hb dX3_init_80 (by decide) ?_
      refine lv_icmp_ge (tgt := 104) hx hb dX3_init_82 (by decide) (fun _ => ?_) (fun c0 => absurd (by rw [ex]; decide) c0)
      exact wd_vretE hx hb hr hlocks ⟨q0, q1, q2, q3, q4, q5, q6, rfl⟩ hw dX3_init_104
    | succ k ih =>
      intro i hi x ex H locs ls hw hl
      refine lv_iload_n hx hb dX3_init_79 rfl (lv_at hl 0 rfl) ?_
      refine lv_bipush (v := 10) hx hb dX3_init_80 (by decide) ?_
      refine lv_icmp_ge (tgt := 104) hx hb dX3_init_82 (by decide) (fun c0 => absurd c0 (by rw [ex]; exact nI_ge (show i < 10 by omega) (by decide))) (fun _ => ?_)
      refine lv_aload_n hx hb dX3_init_85 rfl (lv_at hl 1 rfl) ?_
      refine va_get (D := G.1) (ci := 3) (v := .ref q6) (C := RX3) (T := TX3) (N := 8) hx hb hts hin3 hown hG.1 hw.1 (X.length + 0) (app_at rfl) rfl 6 (by decide) (hts (.fieldLink RX3 30 "DutyDesk$People" "minutes" "[I") (List.mem_of_getElem? (i := 11) rfl)) (fun _ h9 => h9) rfl dX3_init_86 ?_
      refine lv_iload_n hx hb dX3_init_89 rfl (lv_at hl 0 rfl) ?_
      refine lv_bipush (v := 10) hx hb dX3_init_90 (by decide) ?_
      refine lv_imul hx hb dX3_init_92 ?_
      refine lv_iload_n hx hb dX3_init_93 rfl (lv_at hl 0 rfl) ?_
      refine lv_iadd hx hb dX3_init_94 ?_
      have ei : x * 10 + x = nI (11 * i) := by
        rw [ex, show (10 : Int32) = nI 10 from rfl, pk_mul, nI_add]
        congr 1
        omega
      rw [ei]
      refine lv_bipush (v := 10) hx hb dX3_init_95 (by decide) ?_
      refine va_iast hx hb hG.1 hw.1 hw.2.1 hw.2.2 (X.length + 7) 1 (app_at rfl) rfl (vp_in_nI (show 11 * i < 100 by omega) (by decide)) dX3_init_97 (fun H locs hP hD hS => ?_)
      have hw : Wd G A s H locs (X ++ [(b, .inr (3, [.ref q0, .ref q1, .ref q2, .ref q3, .ref q4, .ref q5, .ref q6, .int 0])), (q0, .inl (G.2.1 1, 24, .inl (fun _ => 0))), (q1, .inl (G.2.1 1, 24, .inl (fun _ => 0))), (q2, .inl (G.2.1 1, 24, .inl (fun _ => 0))), (q3, .inl (G.2.1 1, 24, .inl (fill0 (fun _ => 0) 24 (-1)))), (q4, .inl (G.2.1 1, 24, .inl (fun _ => 0))), (q5, .inl (G.2.1 1, 1000, .inl (fun _ => 0))), (q6, .inl (G.2.1 1, 100, .inl (mn0 (i + 1))))]) := by
        rw [app_set, nI_clamp (by omega)] at hP hD
        have eu : upd (mn0 i) (11 * i) 10 = mn0 (i + 1) := by
          funext j
          unfold upd mn0
          by_cases hj : j = 11 * i
          · subst hj
            rw [if_pos rfl, if_pos (by omega), if_pos (by omega)]
          · rw [if_neg hj]
            by_cases h2 : j < 100
            · rw [if_pos h2, if_pos h2]
              by_cases h3 : j % 11 = 0 ∧ j / 11 < i
              · rw [if_pos h3, if_pos (by omega)]
              · rw [if_neg h3, if_neg (by omega)]
            · rw [if_neg h2, if_neg h2]
        rw [eu] at hP hD
        exact ⟨hP, hD, hS⟩
      refine lv_iinc (v := nI (i + 1)) (lv' := [(1, .int (nI (i + 1))), (0, .ref b)]) hx hb dX3_init_98 hl (k := 0) rfl (by rw [ex]; exact nI_1 i) (by decide) rfl (fun ls hl => ?_)
      refine lv_goto (tgt := 79) hx hb dX3_init_101 (by decide) ?_
      exact ih (i + 1) (by omega) _ rfl H locs ls hw hl
  refine W.widen (k := 7) (n := 1220) (by decide +kernel) (by decide +kernel) ?_
  exact loop 10 0 (by omega) 0 nI_0.symm _ _ ls hw hl
