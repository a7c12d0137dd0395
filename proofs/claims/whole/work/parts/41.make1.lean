def rm_X5_init : Room := { frames := 1, cells := 2, slots := 1012, locals := 12 }
set_option maxHeartbeats 400000 in
set_option maxRecDepth 100000 in
theorem e_X5_init (G : GP) (l : Launch) (X : va_W) (b : Nat) : ME G l yX5_init wsX5_init rm_X5_init [.ref b] (X ++ [(b, .inr (5, [.null, .int 0, .null, .int 0, .int 0, .int 0, .int 0, .int 0, .int 0, .int 0, .int 0, .int 0]))]) (fun W1 => ∃ q0 q1 : Nat, W1 = X ++ [(b, .inr (5, [.ref q0, .int 0, .ref q1, .int 0, .int 0, .int 0, .int 0, .int 0, .int 0, .int 0, .int 0, .int (-1)])), (q0, .inl (G.2.1 0, 1000, .inl (fun _ => 0))), (q1, .inl (G.2.1 1, 12, .inl (fun _ => 0)))]) none 2 1012 := by
  refine ME.mk (cc := cX5_init) (maxL := 1) (ret := none) (by decide) rfl (Nat.le_of_ble_eq_true rfl) ?_
  intro p e s m below meth c A ls ⟨hx, hb, hr, hml, hown, hlocks, hin, hts⟩ hw hG hO hA hl
  have hl : lv_has ls 1 [(0, .ref b)] := hl
  have hin5 : ∀ w ∈ u_ws RX5 TX5 12, w ∈ wsX5_init := by decide +kernel
  refine lv_aload_n hx hb dX5_init_0 rfl (lv_at hl 0 rfl) ?_
  refine W.objInit hx hb hown (hts (.methodLink RX5 3 objectInit) (List.mem_of_getElem? (i := 1) rfl)) (hts (.instanceMethod objectInit) (List.mem_of_getElem? (i := 2) rfl)) (hts (.code objectInit ⟨#[0xb1]⟩ 1 none) (List.mem_of_getElem? (i := 3) rfl)) rfl (by rw [hml]; exact hl.1) rfl dX5_init_1 (Nat.le_of_ble_eq_true rfl) (Nat.le_of_ble_eq_true rfl) ?_
  refine W.eq (g2 := F0 m 4 ls []) rfl ?_
  refine lv_aload_n hx hb dX5_init_4 rfl (lv_at hl 0 rfl) ?_
  refine lv_sipush (v := 1000) hx hb dX5_init_5 (by decide) ?_
  refine n_arr (k := 0) (a0 := (1000, .inl (fun _ => 0))) hx hb (hts (.arrayClass .byte) (List.mem_of_getElem? (i := 4) rfl)) rfl hG hA hw rfl nmB (df_B 1000) (by decide) (by decide +kernel) (by decide +kernel) (by decide +kernel) (by decide +kernel) dX5_init_8 (fun q0 H hw => ?_)
  replace hw : Wd G A s H _ (X ++ [(b, .inr (5, [.null, .int 0, .null, .int 0, .int 0, .int 0, .int 0, .int 0, .int 0, .int 0, .int 0, .int 0])), (q0, .inl (G.2.1 0, 1000, .inl (fun _ => 0)))]) := by rw [List.append_assoc] at hw; exact hw
  refine va_putF (D := G.1) (ci := 5) (v := .ref q0) (ty := tyX5 0) (C := RX5) (T := TX5) (N := 12) hx hb hts hin5 tyX5 tyX5_ok nmX5 hown hG.1 hw.1 hw.2.1 hw.2.2 (X.length + 0) (app_at rfl) rfl 0 (by decide) (hts (.fieldLink RX5 9 "DutyDesk$Reader" "tape" "[B") (List.mem_of_getElem? (i := 5) rfl)) (fun _ h9 => h9) rfl hin rfl (by decide +kernel) rfl rfl (Nat.le_of_ble_eq_true rfl) dX5_init_10 (fun H locs hP hD hS => ?_)
  replace hw : Wd G A s H locs (X ++ [(b, .inr (5, [.ref q0, .int 0, .null, .int 0, .int 0, .int 0, .int 0, .int 0, .int 0, .int 0, .int 0, .int 0])), (q0, .inl (G.2.1 0, 1000, .inl (fun _ => 0)))]) := by rw [app_set] at hP hD; exact ⟨hP, hD, hS⟩
  refine lv_aload_n hx hb dX5_init_13 rfl (lv_at hl 0 rfl) ?_
  refine lv_bipush (v := 12) hx hb dX5_init_14 (by decide) ?_
  refine n_arr (k := 1) (a0 := (12, .inl (fun _ => 0))) hx hb (hts (.arrayClass .int) (List.mem_of_getElem? (i := 6) rfl)) rfl hG hA hw rfl nmI (df_I 12) (by decide) (by decide +kernel) (by decide +kernel) (by decide +kernel) (by decide +kernel) dX5_init_16 (fun q1 H hw => ?_)
  replace hw : Wd G A s H _ (X ++ [(b, .inr (5, [.ref q0, .int 0, .null, .int 0, .int 0, .int 0, .int 0, .int 0, .int 0, .int 0, .int 0, .int 0])), (q0, .inl (G.2.1 0, 1000, .inl (fun _ => 0))), (q1, .inl (G.2.1 1, 12, .inl (fun _ => 0)))]) := by rw [List.append_assoc] at hw; exact hw
  refine va_putF (D := G.1) (ci := 5) (v := .ref q1) (ty := tyX5 2) (C := RX5) (T := TX5) (N := 12) hx hb hts hin5 tyX5 tyX5_ok nmX5 hown hG.1 hw.1 hw.2.1 hw.2.2 (X.length + 0) (app_at rfl) rfl 2 (by decide) (hts (.fieldLink RX5 15 "DutyDesk$Reader" "text" "[I") (List.mem_of_getElem? (i := 7) rfl)) (fun _ h9 => h9) rfl hin rfl (by decide +kernel) rfl rfl (Nat.le_of_ble_eq_true rfl) dX5_init_18 (fun H locs hP hD hS => ?_)
  replace hw : Wd G A s H locs (X ++ [(b, .inr (5, [.ref q0, .int 0, .ref q1, .int 0, .int 0, .int 0, .int 0, .int 0, .int 0, .int 0, .int 0, .int 0])), (q0, .inl (G.2.1 0, 1000, .inl (fun _ => 0))), (q1, .inl (G.2.1 1, 12, .inl (fun _ => 0)))]) := by rw [app_set] at hP hD; exact ⟨hP, hD, hS⟩
  refine lv_aload_n hx hb dX5_init_21 rfl (lv_at hl 0 rfl) ?_
  refine lv_iconst (v := (-1)) hx hb dX5_init_22 (by decide) ?_
  refine va_put (D := G.1) (ci := 5) (v := .int (-1)) (ty := tyX5 11) (C := RX5) (T := TX5) (N := 12) hx hb hts hin5 tyX5 tyX5_ok nmX5 hown hG.1 hw.1 hw.2.1 hw.2.2 (X.length + 0) (app_at rfl) rfl 11 (by decide) (hts (.fieldLink RX5 19 "DutyDesk$Reader" "faultPlace" "I") (List.mem_of_getElem? (i := 8) rfl)) (fun _ h9 => h9) rfl (by decide +kernel) rfl rfl (Nat.le_of_ble_eq_true rfl) dX5_init_23 (fun H locs hP hD hS => ?_)
  replace hw : Wd G A s H locs (X ++ [(b, .inr (5, [.ref q0, .int 0, .ref q1, .int 0, .int 0, .int 0, .int 0, .int 0, .int 0, .int 0, .int 0, .int (-1)])), (q0, .inl (G.2.1 0, 1000, .inl (fun _ => 0))), (q1, .inl (G.2.1 1, 12, .inl (fun _ => 0)))]) := by rw [app_set] at hP hD; exact ⟨hP, hD, hS⟩
  refine W.widen (k := 2) (n := 1012) (by decide +kernel) (by decide +kernel) ?_
  exact wd_vretE hx hb hr hlocks ⟨q0, q1, rfl⟩ hw dX5_init_26
