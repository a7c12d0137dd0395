/-! DutyDesk$Calls.has(I)Z -/
def rm_X1_has : Room := { frames := 1, cells := 0, slots := 0, locals := 21 }
def f_X1_has (S : St) (p1 : Int32) : Option (Int32) :=
  (f_X7_isBelow p1 (gI S 12)).bind (fun r_2 => gz r_2 (some (r_2)))
set_option maxHeartbeats 4000000 in
set_option maxRecDepth 100000 in
theorem c_X1_has (G : GP) (l : Launch) (a : Nat → Nat) (ha : a 45 = G.2.2.1) (R : va_W) (S : St) (p1 : Int32) (r0 : Int32) (hf : f_X1_has S p1 = some r0) : MC G l yX1_has wsX1_has rm_X1_has [.ref (a 6), .int p1] (xw G.2.1 a R S) (xw G.2.1 a R S) (some (.int r0)) 0 0 := by
  refine MC.mk (cc := cX1_has) (maxL := 2) (ret := (some .boolean)) (by decide) rfl (Nat.le_of_ble_eq_true rfl) ?_
  intro p e s m below meth c A ls ⟨hx, hb, hr, hml, hown, hlocks, _, hts⟩ hw hG hA hl
  have hl : lv_has ls 2 [(0, .ref (a 6)), (1, .int p1)] := hl
  have hin1 : ∀ w ∈ u_ws RX1 TX1 7, w ∈ wsX1_has := by decide +kernel
  rw [f_X1_has] at hf
  refine lv_iload_n hx hb dX1_has_0 rfl (lv_at hl 1 rfl) ?_
  refine lv_aload_n hx hb dX1_has_1 rfl (lv_at hl 0 rfl) ?_
  refine va_get (D := G.1) (ci := 1) (v := .int (gI S 12)) (C := RX1) (T := TX1) (N := 7) hx hb hts hin1 hown hG.1 hw.1 6 rfl rfl 4 (by decide) (hts (.fieldLink RX1 36 "DutyDesk$Calls" "size" "I") (List.mem_of_getElem? (i := 1) rfl)) (fun _ h9 => h9) rfl dX1_has_2 ?_
  obtain ⟨r_2, h_1, hf⟩ := bind_of hf
  refine cSN (As := [.int p1, .int (gI S 12)]) (rest := []) ⟨hx, hb, hml, hown, hts⟩ hG hA hw (c_X7_isBelow G l _ p1 (gI S 12) r_2 h_1) ⟨va_cnB 2 hts gX1_has_X7_isBelow_n40 rfl rfl rfl (hG.2.1 (.methodLinkNest "DutyDesk$Calls" 40 yX7_isBelow "DutyDesk") (List.mem_of_getElem? (i := 96) rfl)) (hts (.initialized RX7) (List.mem_of_getElem? (i := 3) rfl)) (by decide +kernel) ⟨Nat.le_of_ble_eq_true rfl, Nat.le_of_ble_eq_true rfl⟩, hts (.static yX7_isBelow) (List.mem_of_getElem? (i := 2) rfl), trivial⟩ rfl hl.1 rfl (Nat.le_of_ble_eq_true rfl) dX1_has_5 ⟨Nat.zero_le _, Nat.zero_le _⟩ (fun H locs hw => ?_)
  obtain ⟨h_3, hf⟩ := gz_of hf
  have e_4 := Option.some.inj hf
  subst e_4
  exact wd_zret hx hb hr h_3 hlocks hw dX1_has_8
/-! DutyDesk$Calls.get(I)LDutyDesk$Call; -/
def rm_X1_get : Room := { frames := 0, cells := 0, slots := 0, locals := 0 }
def f_X1_get (S : St) (p1 : Int32) : Option (Nat) :=
  gd p1 150 (gd p1 (nC S) (bnd (p1.toNatClampNeg) fun k_2 => some (k_2)))
set_option maxHeartbeats 4000000 in
set_option maxRecDepth 100000 in
theorem c_X1_get (G : GP) (l : Launch) (a : Nat → Nat) (ha : a 45 = G.2.2.1) (R : va_W) (S : St) (p1 : Int32) (r0 : Nat) (hf : f_X1_get S p1 = some r0) : MC G l yX1_get wsX1_get rm_X1_get [.ref (a 6), .int p1] (xw G.2.1 a R S) (xw G.2.1 a R S) (some (.ref (a (50 + r0)))) 0 0 := by
  refine MC.mk (cc := cX1_get) (maxL := 2) (ret := (some (.object "DutyDesk$Call"))) (by decide) rfl (Nat.le_of_ble_eq_true rfl) ?_
  intro p e s m below meth c A ls ⟨hx, hb, hr, hml, hown, hlocks, _, hts⟩ hw hG hA hl
  have hl : lv_has ls 2 [(0, .ref (a 6)), (1, .int p1)] := hl
  have hin1 : ∀ w ∈ u_ws RX1 TX1 7, w ∈ wsX1_get := by decide +kernel
  rw [f_X1_get] at hf
  refine lv_aload_n hx hb dX1_get_0 rfl (lv_at hl 0 rfl) ?_
  refine va_get (D := G.1) (ci := 1) (v := .ref (a 22)) (C := RX1) (T := TX1) (N := 7) hx hb hts hin1 hown hG.1 hw.1 6 rfl rfl 3 (by decide) (hts (.fieldLink RX1 11 "DutyDesk$Calls" "list" "[LDutyDesk$Call;") (List.mem_of_getElem? (i := 1) rfl)) (fun _ h9 => h9) rfl dX1_get_1 ?_
  refine lv_iload_n hx hb dX1_get_4 rfl (lv_at hl 1 rfl) ?_
  obtain ⟨h_1, hf⟩ := gd_of hf
  obtain ⟨h_3, hf⟩ := gd_of hf
  refine x_ald22 hx hb hG hw h_1 h_3 dX1_get_5 ?_
  obtain ⟨k_2, ek_2⟩ : ∃ z : Nat, z = p1.toNatClampNeg := ⟨_, rfl⟩
  rw [← ek_2]
  replace hf := bnd_of ek_2 hf
  have hc_4 : k_2 < nC S := by rw [ek_2]; exact x_lt h_3
  have e_5 := Option.some.inj hf
  subst e_5
  exact wd_aret hx hb hr (by first | exact Or.inl ⟨_, rfl⟩ | exact Or.inr ⟨_, rfl⟩) hlocks hw dX1_get_6
/-! DutyDesk$Calls.latestDay()I -/
def rm_X1_latestDay : Room := { frames := 0, cells := 0, slots := 0, locals := 0 }
def f_X1_latestDay (S : St) : Option (Int32) :=
  (if (gI S 12) = 0 then
    some (0)
  else
    gd ((gI S 12) - 1) 150 (gd ((gI S 12) - 1) (nC S) (bnd (((gI S 12) - 1).toNatClampNeg) fun k_3 => some ((gC S k_3 0)))))
set_option maxHeartbeats 4000000 in
set_option maxRecDepth 100000 in
theorem c_X1_latestDay (G : GP) (l : Launch) (a : Nat → Nat) (ha : a 45 = G.2.2.1) (R : va_W) (S : St) (r0 : Int32) (hf : f_X1_latestDay S = some r0) : MC G l yX1_latestDay wsX1_latestDay rm_X1_latestDay [.ref (a 6)] (xw G.2.1 a R S) (xw G.2.1 a R S) (some (.int r0)) 0 0 := by
  refine MC.mk (cc := cX1_latestDay) (maxL := 1) (ret := (some .int)) (by decide) rfl (Nat.le_of_ble_eq_true rfl) ?_
  intro p e s m below meth c A ls ⟨hx, hb, hr, hml, hown, hlocks, _, hts⟩ hw hG hA hl
  have hl : lv_has ls 1 [(0, .ref (a 6))] := hl
  have hin0 : ∀ w ∈ u_ws RX0 TX0 15, w ∈ wsX1_latestDay := by decide +kernel
  have hin1 : ∀ w ∈ u_ws RX1 TX1 7, w ∈ wsX1_latestDay := by decide +kernel
  rw [f_X1_latestDay] at hf
  refine lv_aload_n hx hb dX1_latestDay_0 rfl (lv_at hl 0 rfl) ?_
  refine va_get (D := G.1) (ci := 1) (v := .int (gI S 12)) (C := RX1) (T := TX1) (N := 7) hx hb hts hin1 hown hG.1 hw.1 6 rfl rfl 4 (by decide) (hts (.fieldLink RX1 36 "DutyDesk$Calls" "size" "I") (List.mem_of_getElem? (i := 1) rfl)) (fun _ h9 => h9) rfl dX1_latestDay_1 ?_
  refine lv_if_ne (tgt := 11) hx hb dX1_latestDay_4 (by decide) (fun c_1 => ?_) (fun c_1 => ?_)
  · replace hf := if_f c_1 hf
    refine lv_aload_n hx hb dX1_latestDay_11 rfl (lv_at hl 0 rfl) ?_
    refine va_get (D := G.1) (ci := 1) (v := .ref (a 22)) (C := RX1) (T := TX1) (N := 7) hx hb hts hin1 hown hG.1 hw.1 6 rfl rfl 3 (by decide) (hts (.fieldLink RX1 11 "DutyDesk$Calls" "list" "[LDutyDesk$Call;") (List.mem_of_getElem? (i := 2) rfl)) (fun _ h9 => h9) rfl dX1_latestDay_12 ?_
    refine lv_aload_n hx hb dX1_latestDay_15 rfl (lv_at hl 0 rfl) ?_
    refine va_get (D := G.1) (ci := 1) (v := .int (gI S 12)) (C := RX1) (T := TX1) (N := 7) hx hb hts hin1 hown hG.1 hw.1 6 rfl rfl 4 (by decide) (hts (.fieldLink RX1 36 "DutyDesk$Calls" "size" "I") (List.mem_of_getElem? (i := 1) rfl)) (fun _ h9 => h9) rfl dX1_latestDay_16 ?_
    refine lv_iconst (v := 1) hx hb dX1_latestDay_19 (by decide) ?_
    refine lv_isub hx hb dX1_latestDay_20 ?_
    obtain ⟨h_2, hf⟩ := gd_of hf
    obtain ⟨h_4, hf⟩ := gd_of hf
    refine x_ald22 hx hb hG hw h_2 h_4 dX1_latestDay_21 ?_
    obtain ⟨k_3, ek_3⟩ : ∃ z : Nat, z = ((gI S 12) - 1).toNatClampNeg := ⟨_, rfl⟩
    rw [← ek_3]
    replace hf := bnd_of ek_3 hf
    have hc_5 : k_3 < nC S := by rw [ek_3]; exact x_lt h_4
    refine va_getN (D := G.1) (ci := 0) (v := .int (gC S k_3 0)) (C := RX0) (T := TX0) (N := 15) (host := "DutyDesk") hx hb hts hin0 hown hG.1 hw.1 (45 + k_3) (xw_atC hc_5) rfl 0 (by decide) (va_Nw.use rfl (hG.2.1 (.fieldLinkNest "DutyDesk$Calls" 44 "DutyDesk$Call" "day" "I" "DutyDesk") (List.mem_of_getElem? (i := 23) rfl))) (fun _ h9 => h9) rfl dX1_latestDay_22 ?_
    have e_6 := Option.some.inj hf
    subst e_6
    exact wd_iret hx hb hr hlocks hw dX1_latestDay_25
  · replace hf := if_t c_1 hf
    refine lv_iconst (v := 0) hx hb dX1_latestDay_7 (by decide) ?_
    refine lv_goto (tgt := 25) hx hb dX1_latestDay_8 (by decide) ?_
    have e_7 := Option.some.inj hf
    subst e_7
    exact wd_iret hx hb hr hlocks hw dX1_latestDay_25
/-! DutyDesk$Calls.minutesTo(LDutyDesk$Call;I)I -/
def rm_X1_minutesTo : Room := { frames := 1, cells := 0, slots := 0, locals := 22 }
def f_X1_minutesTo (S : St) (p1 : Nat) (p2 : Int32) : Option (Int32) :=
  gn p1 (nC S) (gd p2 24 ((f_X3_minutesBetween S (gM S 10 p2.toNatClampNeg) (gC S p1 2)).bind (fun r_4 => some (r_4))))
set_option maxHeartbeats 4000000 in
set_option maxRecDepth 100000 in
theorem c_X1_minutesTo (G : GP) (l : Launch) (a : Nat → Nat) (ha : a 45 = G.2.2.1) (R : va_W) (S : St) (p1 : Nat) (p2 : Int32) (r0 : Int32) (hf : f_X1_minutesTo S p1 p2 = some r0) : MC G l yX1_minutesTo wsX1_minutesTo rm_X1_minutesTo [.ref (a 6), .ref (a (50 + p1)), .int p2] (xw G.2.1 a R S) (xw G.2.1 a R S) (some (.int r0)) 0 0 := by
  refine MC.mk (cc := cX1_minutesTo) (maxL := 3) (ret := (some .int)) (by decide) rfl (Nat.le_of_ble_eq_true rfl) ?_
  intro p e s m below meth c A ls ⟨hx, hb, hr, hml, hown, hlocks, _, hts⟩ hw hG hA hl
  have hl : lv_has ls 3 [(0, .ref (a 6)), (1, .ref (a (50 + p1))), (2, .int p2)] := hl
  have hin0 : ∀ w ∈ u_ws RX0 TX0 15, w ∈ wsX1_minutesTo := by decide +kernel
  have hin1 : ∀ w ∈ u_ws RX1 TX1 7, w ∈ wsX1_minutesTo := by decide +kernel
  have hin3 : ∀ w ∈ u_ws RX3 TX3 8, w ∈ wsX1_minutesTo := by decide +kernel
  rw [f_X1_minutesTo] at hf
  obtain ⟨hc_1, hf⟩ := gn_of hf
  refine lv_aload_n hx hb dX1_minutesTo_0 rfl (lv_at hl 0 rfl) ?_
  refine va_get (D := G.1) (ci := 1) (v := .ref (a 3)) (C := RX1) (T := TX1) (N := 7) hx hb hts hin1 hown hG.1 hw.1 6 rfl rfl 0 (by decide) (hts (.fieldLink RX1 24 "DutyDesk$Calls" "people" "LDutyDesk$People;") (List.mem_of_getElem? (i := 1) rfl)) (fun _ h9 => h9) rfl dX1_minutesTo_1 ?_
  refine lv_aload_n hx hb dX1_minutesTo_4 rfl (lv_at hl 0 rfl) ?_
  refine va_get (D := G.1) (ci := 1) (v := .ref (a 3)) (C := RX1) (T := TX1) (N := 7) hx hb hts hin1 hown hG.1 hw.1 6 rfl rfl 0 (by decide) (hts (.fieldLink RX1 24 "DutyDesk$Calls" "people" "LDutyDesk$People;") (List.mem_of_getElem? (i := 1) rfl)) (fun _ h9 => h9) rfl dX1_minutesTo_5 ?_
  refine va_getN (D := G.1) (ci := 3) (v := .ref (a 10)) (C := RX3) (T := TX3) (N := 8) (host := "DutyDesk") hx hb hts hin3 hown hG.1 hw.1 3 rfl rfl 0 (by decide) (va_Nw.use rfl (hG.2.1 (.fieldLinkNest "DutyDesk$Calls" 111 "DutyDesk$People" "town" "[I" "DutyDesk") (List.mem_of_getElem? (i := 6) rfl))) (fun _ h9 => h9) rfl dX1_minutesTo_8 ?_
  refine lv_iload_n hx hb dX1_minutesTo_11 rfl (lv_at hl 2 rfl) ?_
  obtain ⟨h_2, hf⟩ := gd_of hf
  refine va_iald hx hb hG.1 hw.1 10 1 (xw_atM (k := 10) rfl) rfl h_2 dX1_minutesTo_12 ?_
  refine lv_aload_n hx hb dX1_minutesTo_13 rfl (lv_at hl 1 rfl) ?_
  refine va_getN (D := G.1) (ci := 0) (v := .int (gC S p1 2)) (C := RX0) (T := TX0) (N := 15) (host := "DutyDesk") hx hb hts hin0 hown hG.1 hw.1 (45 + p1) (xw_atC hc_1) rfl 2 (by decide) (va_Nw.use rfl (hG.2.1 (.fieldLinkNest "DutyDesk$Calls" 114 "DutyDesk$Call" "town" "I" "DutyDesk") (List.mem_of_getElem? (i := 26) rfl))) (fun _ h9 => h9) rfl dX1_minutesTo_14 ?_
  obtain ⟨r_4, h_3, hf⟩ := bind_of hf
  refine cVN (As := [.int (gM S 10 p2.toNatClampNeg), .int (gC S p1 2)]) (rest := []) ⟨hx, hb, hml, hown, hts⟩ hG hA hw (c_X3_minutesBetween G l a ha R S (gM S 10 p2.toNatClampNeg) (gC S p1 2) r_4 h_3) ⟨va_cnB 2 hts gX1_minutesTo_X3_minutesBetween_n116 rfl rfl rfl (hG.2.1 (.methodLinkNest "DutyDesk$Calls" 116 yX3_minutesBetween "DutyDesk") (List.mem_of_getElem? (i := 90) rfl)) (hts (.initialized RX3) (List.mem_of_getElem? (i := 3) rfl)) (by decide +kernel) ⟨Nat.le_of_ble_eq_true rfl, Nat.le_of_ble_eq_true rfl⟩, hts (.instanceMethod yX3_minutesBetween) (List.mem_of_getElem? (i := 2) rfl), hts (.selects RX3 yX3_minutesBetween yX3_minutesBetween) (List.mem_of_getElem? (i := 4) rfl)⟩ (va_recv hG.1 hw.1 (ci := 3) (q0 := 3) rfl rfl) rfl hl.1 rfl (Nat.le_of_ble_eq_true rfl) dX1_minutesTo_17 ⟨Nat.zero_le _, Nat.zero_le _⟩ (fun H locs hw => ?_)
  have e_5 := Option.some.inj hf
  subst e_5
  exact wd_iret hx hb hr hlocks hw dX1_minutesTo_20
/-! DutyDesk$Calls.tookFellow(LDutyDesk$Call;I)Z -/
def rm_X1_tookFellow : Room := { frames := 1, cells := 0, slots := 0, locals := 21 }
def f_X1_tookFellow_L26 (S : St) (p1 : Nat) (p2 : Int32) (x_3 : Int32) : Int32 → Option ((Int32) ⊕ (Int32))
  | v_7 =>
  (if (gI S 12) ≤ v_7 then
    some (.inr (0))
  else
    gd v_7 150 (gd v_7 (nC S) (bnd (v_7.toNatClampNeg) fun k_12 => (if (gC S k_12 10) = p2 then
    (f_X0_isFellowOf S k_12 p1).bind (fun r_19 => (if r_19 = 0 then
    bnd (v_7 + 1) fun x_21 => some (.inl x_21)
  else
    (f_X7_hasBit x_3 (gC S k_12 5)).bind (fun r_24 => (if r_24 = 0 then
    some (.inr (1))
  else
    bnd (v_7 + 1) fun x_26 => some (.inl x_26)))))
  else
    bnd (v_7 + 1) fun x_16 => some (.inl x_16)))))
def f_X1_tookFellow (S : St) (p1 : Nat) (p2 : Int32) : Option (Int32) :=
  gn p1 (nC S) (gd (gC S p1 4) 100 (bnd (gM S 24 (gC S p1 4).toNatClampNeg) fun x_3 => (f_X7_hasBit x_3 (gC S p1 5)).bind (fun r_5 => (if r_5 = 0 then
    loopF (f_X1_tookFellow_L26 S p1 p2 x_3) FU 0
  else
    some (0)))))
set_option maxHeartbeats 4000000 in
set_option maxRecDepth 100000 in
theorem c_X1_tookFellow (G : GP) (l : Launch) (a : Nat → Nat) (ha : a 45 = G.2.2.1) (R : va_W) (S : St) (p1 : Nat) (p2 : Int32) (r0 : Int32) (hf : f_X1_tookFellow S p1 p2 = some r0) : MC G l yX1_tookFellow wsX1_tookFellow rm_X1_tookFellow [.ref (a 6), .ref (a (50 + p1)), .int p2] (xw G.2.1 a R S) (xw G.2.1 a R S) (some (.int r0)) 0 0 := by
  refine MC.mk (cc := cX1_tookFellow) (maxL := 6) (ret := (some .boolean)) (by decide) rfl (Nat.le_of_ble_eq_true rfl) ?_
  intro p e s m below meth c A ls ⟨hx, hb, hr, hml, hown, hlocks, _, hts⟩ hw hG hA hl
  have hl : lv_has ls 6 [(0, .ref (a 6)), (1, .ref (a (50 + p1))), (2, .int p2)] := hl
  have hin0 : ∀ w ∈ u_ws RX0 TX0 15, w ∈ wsX1_tookFellow := by decide +kernel
  have hin1 : ∀ w ∈ u_ws RX1 TX1 7, w ∈ wsX1_tookFellow := by decide +kernel
  rw [f_X1_tookFellow] at hf
  obtain ⟨hc_1, hf⟩ := gn_of hf
  refine lv_aload_n hx hb dX1_tookFellow_0 rfl (lv_at hl 0 rfl) ?_
  refine va_get (D := G.1) (ci := 1) (v := .ref (a 24)) (C := RX1) (T := TX1) (N := 7) hx hb hts hin1 hown hG.1 hw.1 6 rfl rfl 6 (by decide) (hts (.fieldLink RX1 21 "DutyDesk$Calls" "waived" "[I") (List.mem_of_getElem? (i := 1) rfl)) (fun _ h9 => h9) rfl dX1_tookFellow_1 ?_
  refine lv_aload_n hx hb dX1_tookFellow_4 rfl (lv_at hl 1 rfl) ?_
  refine va_getN (D := G.1) (ci := 0) (v := .int (gC S p1 4)) (C := RX0) (T := TX0) (N := 15) (host := "DutyDesk") hx hb hts hin0 hown hG.1 hw.1 (45 + p1) (xw_atC hc_1) rfl 4 (by decide) (va_Nw.use rfl (hG.2.1 (.fieldLinkNest "DutyDesk$Calls" 138 "DutyDesk$Call" "ofCase" "I" "DutyDesk") (List.mem_of_getElem? (i := 28) rfl))) (fun _ h9 => h9) rfl dX1_tookFellow_5 ?_
  obtain ⟨h_2, hf⟩ := gd_of hf
  refine va_iald hx hb hG.1 hw.1 24 1 (xw_atM (k := 24) rfl) rfl h_2 dX1_tookFellow_8 ?_
  refine lv_topi (fun x_3 ex_3 => ?_)
  replace hf := bnd_of ex_3 hf
  refine lv_istore_n (lv' := [(3, .int x_3), (0, .ref (a 6)), (1, .ref (a (50 + p1))), (2, .int p2)]) hx hb dX1_tookFellow_9 rfl hl (by decide) rfl (fun ls hl => ?_)
  refine lv_iload_n hx hb dX1_tookFellow_10 rfl (lv_at hl 0 rfl) ?_
  refine lv_aload_n hx hb dX1_tookFellow_11 rfl (lv_at hl 2 rfl) ?_
  refine va_getN (D := G.1) (ci := 0) (v := .int (gC S p1 5)) (C := RX0) (T := TX0) (N := 15) (host := "DutyDesk") hx hb hts hin0 hown hG.1 hw.1 (45 + p1) (xw_atC hc_1) rfl 5 (by decide) (va_Nw.use rfl (hG.2.1 (.fieldLinkNest "DutyDesk$Calls" 141 "DutyDesk$Call" "accused" "I" "DutyDesk") (List.mem_of_getElem? (i := 29) rfl))) (fun _ h9 => h9) rfl dX1_tookFellow_12 ?_
  obtain ⟨r_5, h_4, hf⟩ := bind_of hf
  refine cSN (As := [.int x_3, .int (gC S p1 5)]) (rest := []) ⟨hx, hb, hml, hown, hts⟩ hG hA hw (c_X7_hasBit G l _ x_3 (gC S p1 5) r_5 h_4) ⟨va_cnB 2 hts gX1_tookFellow_X7_hasBit_n73 rfl rfl rfl (hG.2.1 (.methodLinkNest "DutyDesk$Calls" 73 yX7_hasBit "DutyDesk") (List.mem_of_getElem? (i := 86) rfl)) (hts (.initialized RX7) (List.mem_of_getElem? (i := 5) rfl)) (by decide +kernel) ⟨Nat.le_of_ble_eq_true rfl, Nat.le_of_ble_eq_true rfl⟩, hts (.static yX7_hasBit) (List.mem_of_getElem? (i := 4) rfl), trivial⟩ rfl hl.1 rfl (Nat.le_of_ble_eq_true rfl) dX1_tookFellow_15 ⟨Nat.zero_le _, Nat.zero_le _⟩ (fun H locs hw => ?_)
  refine lv_if_eq (tgt := 23) hx hb dX1_tookFellow_18 (by decide) (fun c_6 => ?_) (fun c_6 => ?_)
  · replace hf := if_t c_6 hf
    refine lv_iconst (v := 0) hx hb dX1_tookFellow_23 (by decide) ?_
    refine lv_istore (lv' := [(4, .int 0), (3, .int x_3), (0, .ref (a 6)), (1, .ref (a (50 + p1))), (2, .int p2)]) hx hb dX1_tookFellow_24 hl (by decide) rfl (fun ls hl => ?_)
    refine loopF_ind (body := f_X1_tookFellow_L26 S p1 p2 x_3) (fun (v_7 : Int32) => ∀ (H : Heap) (locs : List Loc) (ls : Array Slot), Wd G A s H locs (xw G.2.1 a R S) → lv_has ls 6 [(0, .ref (a 6)), (1, .ref (a (50 + p1))), (2, .int p2), (3, .int x_3), (4, .int v_7)] → WQ p l e rm_X1_tookFellow s m [.ref (a 6), .ref (a (50 + p1)), .int p2] below meth c G A (xw G.2.1 a R S) (some (.int r0)) 0 0 H locs 0 0 (F0 m 26 ls [])) ?_ FU 0 hf _ _ _ hw (lv_sub hl [2, 3, 4, 1, 0] rfl)
    clear hf hw hl
    intro v_7 t0_26 hf hz1_0_26 hz2_0_26 H locs ls hw hl
    rw [f_X1_tookFellow_L26] at hf
    refine lv_iload hx hb dX1_tookFellow_26 (lv_at hl 4 rfl) ?_
    refine lv_aload_n hx hb dX1_tookFellow_28 rfl (lv_at hl 0 rfl) ?_
    refine va_get (D := G.1) (ci := 1) (v := .int (gI S 12)) (C := RX1) (T := TX1) (N := 7) hx hb hts hin1 hown hG.1 hw.1 6 rfl rfl 4 (by decide) (hts (.fieldLink RX1 36 "DutyDesk$Calls" "size" "I") (List.mem_of_getElem? (i := 2) rfl)) (fun _ h9 => h9) rfl dX1_tookFellow_29 ?_
    refine lv_icmp_ge (tgt := 82) hx hb dX1_tookFellow_32 (by decide) (fun c_8 => ?_) (fun c_8 => ?_)
    · replace hf := if_t c_8 hf
      refine lv_iconst (v := 0) hx hb dX1_tookFellow_82 (by decide) ?_
      have e_9 := Option.some.inj hf
      have e_10 := hz2_0_26 _ e_9.symm
      subst e_10
      exact wd_zret hx hb hr rfl hlocks hw dX1_tookFellow_83
    · replace hf := if_f c_8 hf
      refine lv_aload_n hx hb dX1_tookFellow_35 rfl (lv_at hl 0 rfl) ?_
      refine va_get (D := G.1) (ci := 1) (v := .ref (a 22)) (C := RX1) (T := TX1) (N := 7) hx hb hts hin1 hown hG.1 hw.1 6 rfl rfl 3 (by decide) (hts (.fieldLink RX1 11 "DutyDesk$Calls" "list" "[LDutyDesk$Call;") (List.mem_of_getElem? (i := 3) rfl)) (fun _ h9 => h9) rfl dX1_tookFellow_36 ?_
      refine lv_iload hx hb dX1_tookFellow_39 (lv_at hl 4 rfl) ?_
      obtain ⟨h_11, hf⟩ := gd_of hf
      obtain ⟨h_13, hf⟩ := gd_of hf
      refine x_ald22 hx hb hG hw h_11 h_13 dX1_tookFellow_41 ?_
      obtain ⟨k_12, ek_12⟩ : ∃ z : Nat, z = v_7.toNatClampNeg := ⟨_, rfl⟩
      rw [← ek_12]
      replace hf := bnd_of ek_12 hf
      have hc_14 : k_12 < nC S := by rw [ek_12]; exact x_lt h_13
      refine lv_astore (lv' := [(5, .ref (a (50 + k_12))), (0, .ref (a 6)), (1, .ref (a (50 + p1))), (2, .int p2), (3, .int x_3), (4, .int v_7)]) hx hb dX1_tookFellow_42 hl (by decide) rfl (fun ls hl => ?_)
      refine lv_aload hx hb dX1_tookFellow_44 (lv_at hl 0 rfl) ?_
      refine va_getN (D := G.1) (ci := 0) (v := .int (gC S k_12 10)) (C := RX0) (T := TX0) (N := 15) (host := "DutyDesk") hx hb hts hin0 hown hG.1 hw.1 (45 + k_12) (xw_atC hc_14) rfl 10 (by decide) (va_Nw.use rfl (hG.2.1 (.fieldLinkNest "DutyDesk$Calls" 99 "DutyDesk$Call" "taker" "I" "DutyDesk") (List.mem_of_getElem? (i := 37) rfl))) (fun _ h9 => h9) rfl dX1_tookFellow_46 ?_
      refine lv_iload_n hx hb dX1_tookFellow_49 rfl (lv_at hl 3 rfl) ?_
      refine lv_icmp_ne (tgt := 76) hx hb dX1_tookFellow_50 (by decide) (fun c_15 => ?_) (fun c_15 => ?_)
      · replace hf := if_f c_15 hf
        obtain ⟨x_16, ex_16⟩ : ∃ z : Int32, z = v_7 + 1 := ⟨_, rfl⟩
        replace hf := bnd_of ex_16 hf
        refine lv_iinc (v := x_16) (lv' := [(4, .int x_16), (5, .ref (a (50 + k_12))), (0, .ref (a 6)), (1, .ref (a (50 + p1))), (2, .int p2), (3, .int x_3)]) hx hb dX1_tookFellow_76 hl (k := 5) rfl (by rw [ex_16]; rfl) (by decide) rfl (fun ls hl => ?_)
        refine lv_goto (tgt := 26) hx hb dX1_tookFellow_79 (by decide) ?_
        have e_17 := Option.some.inj hf
        exact hz1_0_26 _ e_17.symm _ _ _ hw (lv_sub hl [2, 3, 4, 5, 0] rfl)
      · replace hf := if_t c_15 hf
        refine lv_aload hx hb dX1_tookFellow_53 (lv_at hl 0 rfl) ?_
        refine lv_aload_n hx hb dX1_tookFellow_55 rfl (lv_at hl 2 rfl) ?_
        obtain ⟨r_19, h_18, hf⟩ := bind_of hf
        refine cVN (As := [.ref (a (50 + p1))]) (rest := []) ⟨hx, hb, hml, hown, hts⟩ hG hA hw (c_X0_isFellowOf G l a ha R S k_12 p1 r_19 h_18) ⟨va_cnB 1 hts gX1_tookFellow_X0_isFellowOf_n144 rfl rfl rfl (hG.2.1 (.methodLinkNest "DutyDesk$Calls" 144 yX0_isFellowOf "DutyDesk") (List.mem_of_getElem? (i := 91) rfl)) (hts (.initialized RX0) (List.mem_of_getElem? (i := 8) rfl)) (by decide +kernel) ⟨Nat.le_of_ble_eq_true rfl, Nat.le_of_ble_eq_true rfl⟩, hts (.instanceMethod yX0_isFellowOf) (List.mem_of_getElem? (i := 7) rfl), hts (.selects RX0 yX0_isFellowOf yX0_isFellowOf) (List.mem_of_getElem? (i := 9) rfl)⟩ (va_recv hG.1 hw.1 (ci := 0) (q0 := 45 + k_12) rfl (xw_atC hc_14)) rfl hl.1 rfl (Nat.le_of_ble_eq_true rfl) dX1_tookFellow_56 ⟨Nat.zero_le _, Nat.zero_le _⟩ (fun H locs hw => ?_)
        refine lv_if_eq (tgt := 76) hx hb dX1_tookFellow_59 (by decide) (fun c_20 => ?_) (fun c_20 => ?_)
        · replace hf := if_t c_20 hf
          obtain ⟨x_21, ex_21⟩ : ∃ z : Int32, z = v_7 + 1 := ⟨_, rfl⟩
          replace hf := bnd_of ex_21 hf
          refine lv_iinc (v := x_21) (lv' := [(4, .int x_21), (5, .ref (a (50 + k_12))), (0, .ref (a 6)), (1, .ref (a (50 + p1))), (2, .int p2), (3, .int x_3)]) hx hb dX1_tookFellow_76 hl (k := 5) rfl (by rw [ex_21]; rfl) (by decide) rfl (fun ls hl => ?_)
          refine lv_goto (tgt := 26) hx hb dX1_tookFellow_79 (by decide) ?_
          have e_22 := Option.some.inj hf
          exact hz1_0_26 _ e_22.symm _ _ _ hw (lv_sub hl [2, 3, 4, 5, 0] rfl)
        · replace hf := if_f c_20 hf
          refine lv_iload_n hx hb dX1_tookFellow_62 rfl (lv_at hl 4 rfl) ?_
          refine lv_aload hx hb dX1_tookFellow_63 (lv_at hl 0 rfl) ?_
          refine va_getN (D := G.1) (ci := 0) (v := .int (gC S k_12 5)) (C := RX0) (T := TX0) (N := 15) (host := "DutyDesk") hx hb hts hin0 hown hG.1 hw.1 (45 + k_12) (xw_atC hc_14) rfl 5 (by decide) (va_Nw.use rfl (hG.2.1 (.fieldLinkNest "DutyDesk$Calls" 141 "DutyDesk$Call" "accused" "I" "DutyDesk") (List.mem_of_getElem? (i := 29) rfl))) (fun _ h9 => h9) rfl dX1_tookFellow_65 ?_
          obtain ⟨r_24, h_23, hf⟩ := bind_of hf
          refine cSN (As := [.int x_3, .int (gC S k_12 5)]) (rest := []) ⟨hx, hb, hml, hown, hts⟩ hG hA hw (c_X7_hasBit G l _ x_3 (gC S k_12 5) r_24 h_23) ⟨va_cnB 2 hts gX1_tookFellow_X7_hasBit_n73 rfl rfl rfl (hG.2.1 (.methodLinkNest "DutyDesk$Calls" 73 yX7_hasBit "DutyDesk") (List.mem_of_getElem? (i := 86) rfl)) (hts (.initialized RX7) (List.mem_of_getElem? (i := 5) rfl)) (by decide +kernel) ⟨Nat.le_of_ble_eq_true rfl, Nat.le_of_ble_eq_true rfl⟩, hts (.static yX7_hasBit) (List.mem_of_getElem? (i := 4) rfl), trivial⟩ rfl hl.1 rfl (Nat.le_of_ble_eq_true rfl) dX1_tookFellow_68 ⟨Nat.zero_le _, Nat.zero_le _⟩ (fun H locs hw => ?_)
          refine lv_if_ne (tgt := 76) hx hb dX1_tookFellow_71 (by decide) (fun c_25 => ?_) (fun c_25 => ?_)
          · replace hf := if_f c_25 hf
            obtain ⟨x_26, ex_26⟩ : ∃ z : Int32, z = v_7 + 1 := ⟨_, rfl⟩
            replace hf := bnd_of ex_26 hf
            refine lv_iinc (v := x_26) (lv' := [(4, .int x_26), (5, .ref (a (50 + k_12))), (0, .ref (a 6)), (1, .ref (a (50 + p1))), (2, .int p2), (3, .int x_3)]) hx hb dX1_tookFellow_76 hl (k := 5) rfl (by rw [ex_26]; rfl) (by decide) rfl (fun ls hl => ?_)
            refine lv_goto (tgt := 26) hx hb dX1_tookFellow_79 (by decide) ?_
            have e_27 := Option.some.inj hf
            exact hz1_0_26 _ e_27.symm _ _ _ hw (lv_sub hl [2, 3, 4, 5, 0] rfl)
          · replace hf := if_t c_25 hf
            refine lv_iconst (v := 1) hx hb dX1_tookFellow_74 (by decide) ?_
            have e_28 := Option.some.inj hf
            have e_29 := hz2_0_26 _ e_28.symm
            subst e_29
            exact wd_zret hx hb hr rfl hlocks hw dX1_tookFellow_75
  · replace hf := if_f c_6 hf
    refine lv_iconst (v := 0) hx hb dX1_tookFellow_21 (by decide) ?_
    have e_30 := Option.some.inj hf
    subst e_30
    exact wd_zret hx hb hr rfl hlocks hw dX1_tookFellow_22
/-! DutyDesk$Calls.barsThatHold(LDutyDesk$Call;II)I -/
def rm_X1_barsThatHold : Room := { frames := 2, cells := 0, slots := 0, locals := 46 }
def f_X1_barsThatHold_J52 (S : St) (y_1 : Nat) (y_2 : Int32) (y_3 : Int32) (y_4 : Int32) : Option (Int32) :=
  gn y_1 (nC S) ((if (y_3 &&& 4) = 0 then
    some (y_4)
  else
    gd y_2 24 ((if (gM S 10 y_2.toNatClampNeg) = (gC S y_1 2) then
    bnd (y_4 ||| 4) fun x_11 => some (x_11)
  else
    some (y_4)))))
def f_X1_barsThatHold_J24 (S : St) (y_13 : Nat) (y_14 : Int32) (y_15 : Int32) (y_16 : Int32) : Option (Int32) :=
  gn y_13 (nC S) ((if (y_15 &&& 2) = 0 then
    f_X1_barsThatHold_J52 S y_13 y_14 y_15 y_16
  else
    gd (gC S y_13 4) 100 ((f_X7_hasBit (gM S 23 (gC S y_13 4).toNatClampNeg) y_14).bind (fun r_21 => (if r_21 = 0 then
    f_X1_barsThatHold_J52 S y_13 y_14 y_15 y_16
  else
    bnd (y_16 ||| 2) fun x_23 => f_X1_barsThatHold_J52 S y_13 y_14 y_15 x_23)))))
def f_X1_barsThatHold (S : St) (p1 : Nat) (p2 : Int32) (p3 : Int32) : Option (Int32) :=
  gn p1 (nC S) ((if (p3 &&& 1) = 0 then
    f_X1_barsThatHold_J24 S p1 p2 p3 0
  else
    (f_X1_tookFellow S p1 p2).bind (fun r_27 => (if r_27 = 0 then
    f_X1_barsThatHold_J24 S p1 p2 p3 0
  else
    bnd (0 ||| 1) fun x_29 => f_X1_barsThatHold_J24 S p1 p2 p3 x_29))))
set_option maxHeartbeats 4000000 in
set_option maxRecDepth 100000 in
theorem c_X1_barsThatHold (G : GP) (l : Launch) (a : Nat → Nat) (ha : a 45 = G.2.2.1) (R : va_W) (S : St) (p1 : Nat) (p2 : Int32) (p3 : Int32) (r0 : Int32) (hf : f_X1_barsThatHold S p1 p2 p3 = some r0) : MC G l yX1_barsThatHold wsX1_barsThatHold rm_X1_barsThatHold [.ref (a 6), .ref (a (50 + p1)), .int p2, .int p3] (xw G.2.1 a R S) (xw G.2.1 a R S) (some (.int r0)) 0 0 := by
  refine MC.mk (cc := cX1_barsThatHold) (maxL := 5) (ret := (some .int)) (by decide) rfl (Nat.le_of_ble_eq_true rfl) ?_
  intro p e s m below meth c A ls ⟨hx, hb, hr, hml, hown, hlocks, _, hts⟩ hw hG hA hl
  have hl : lv_has ls 5 [(0, .ref (a 6)), (1, .ref (a (50 + p1))), (2, .int p2), (3, .int p3)] := hl
  have hin0 : ∀ w ∈ u_ws RX0 TX0 15, w ∈ wsX1_barsThatHold := by decide +kernel
  have hin1 : ∀ w ∈ u_ws RX1 TX1 7, w ∈ wsX1_barsThatHold := by decide +kernel
  have hin3 : ∀ w ∈ u_ws RX3 TX3 8, w ∈ wsX1_barsThatHold := by decide +kernel
  rw [f_X1_barsThatHold] at hf
  have j52 : ∀ (y_1 : Nat) (y_2 : Int32) (y_3 : Int32) (y_4 : Int32) (H : Heap) (locs : List Loc) (ls : Array Slot), f_X1_barsThatHold_J52 S y_1 y_2 y_3 y_4 = some r0 → Wd G A s H locs (xw G.2.1 a R S) → lv_has ls 5 [(0, .ref (a 6)), (1, .ref (a (50 + y_1))), (2, .int y_2), (3, .int y_3), (4, .int y_4)] → WQ p l e rm_X1_barsThatHold s m [.ref (a 6), .ref (a (50 + p1)), .int p2, .int p3] below meth c G A (xw G.2.1 a R S) (some (.int r0)) 0 0 H locs 0 0 (F0 m 52 ls []) := by
    intro y_1 y_2 y_3 y_4 H locs ls hf hw hl
    rw [f_X1_barsThatHold_J52] at hf
    obtain ⟨hc_5, hf⟩ := gn_of hf
    refine lv_iload_n hx hb dX1_barsThatHold_52 rfl (lv_at hl 3 rfl) ?_
    refine lv_iconst (v := 4) hx hb dX1_barsThatHold_53 (by decide) ?_
    refine lv_iand hx hb dX1_barsThatHold_54 ?_
    refine lv_if_eq (tgt := 80) hx hb dX1_barsThatHold_55 (by decide) (fun c_6 => ?_) (fun c_6 => ?_)
    · replace hf := if_t c_6 hf
      refine lv_iload hx hb dX1_barsThatHold_80 (lv_at hl 4 rfl) ?_
      have e_7 := Option.some.inj hf
      subst e_7
      exact wd_iret hx hb hr hlocks hw dX1_barsThatHold_82
    · replace hf := if_f c_6 hf
      refine lv_aload_n hx hb dX1_barsThatHold_58 rfl (lv_at hl 0 rfl) ?_
      refine va_get (D := G.1) (ci := 1) (v := .ref (a 3)) (C := RX1) (T := TX1) (N := 7) hx hb hts hin1 hown hG.1 hw.1 6 rfl rfl 0 (by decide) (hts (.fieldLink RX1 24 "DutyDesk$Calls" "people" "LDutyDesk$People;") (List.mem_of_getElem? (i := 2) rfl)) (fun _ h9 => h9) rfl dX1_barsThatHold_59 ?_
      refine va_getN (D := G.1) (ci := 3) (v := .ref (a 10)) (C := RX3) (T := TX3) (N := 8) (host := "DutyDesk") hx hb hts hin3 hown hG.1 hw.1 3 rfl rfl 0 (by decide) (va_Nw.use rfl (hG.2.1 (.fieldLinkNest "DutyDesk$Calls" 111 "DutyDesk$People" "town" "[I" "DutyDesk") (List.mem_of_getElem? (i := 6) rfl))) (fun _ h9 => h9) rfl dX1_barsThatHold_62 ?_
      refine lv_iload_n hx hb dX1_barsThatHold_65 rfl (lv_at hl 2 rfl) ?_
      obtain ⟨h_8, hf⟩ := gd_of hf
      refine va_iald hx hb hG.1 hw.1 10 1 (xw_atM (k := 10) rfl) rfl h_8 dX1_barsThatHold_66 ?_
      refine lv_aload_n hx hb dX1_barsThatHold_67 rfl (lv_at hl 1 rfl) ?_
      refine va_getN (D := G.1) (ci := 0) (v := .int (gC S y_1 2)) (C := RX0) (T := TX0) (N := 15) (host := "DutyDesk") hx hb hts hin0 hown hG.1 hw.1 (45 + y_1) (xw_atC hc_5) rfl 2 (by decide) (va_Nw.use rfl (hG.2.1 (.fieldLinkNest "DutyDesk$Calls" 114 "DutyDesk$Call" "town" "I" "DutyDesk") (List.mem_of_getElem? (i := 26) rfl))) (fun _ h9 => h9) rfl dX1_barsThatHold_68 ?_
      refine lv_icmp_ne (tgt := 80) hx hb dX1_barsThatHold_71 (by decide) (fun c_9 => ?_) (fun c_9 => ?_)
      · replace hf := if_f c_9 hf
        refine lv_iload hx hb dX1_barsThatHold_80 (lv_at hl 4 rfl) ?_
        have e_10 := Option.some.inj hf
        subst e_10
        exact wd_iret hx hb hr hlocks hw dX1_barsThatHold_82
      · replace hf := if_t c_9 hf
        refine lv_iload hx hb dX1_barsThatHold_74 (lv_at hl 4 rfl) ?_
        refine lv_iconst (v := 4) hx hb dX1_barsThatHold_76 (by decide) ?_
        refine lv_ior hx hb dX1_barsThatHold_77 ?_
        refine lv_topi (fun x_11 ex_11 => ?_)
        replace hf := bnd_of ex_11 hf
        refine lv_istore (lv' := [(4, .int x_11), (0, .ref (a 6)), (1, .ref (a (50 + y_1))), (2, .int y_2), (3, .int y_3)]) hx hb dX1_barsThatHold_78 hl (by decide) rfl (fun ls hl => ?_)
        refine lv_iload hx hb dX1_barsThatHold_80 (lv_at hl 0 rfl) ?_
        have e_12 := Option.some.inj hf
        subst e_12
        exact wd_iret hx hb hr hlocks hw dX1_barsThatHold_82
  have j24 : ∀ (y_13 : Nat) (y_14 : Int32) (y_15 : Int32) (y_16 : Int32) (H : Heap) (locs : List Loc) (ls : Array Slot), f_X1_barsThatHold_J24 S y_13 y_14 y_15 y_16 = some r0 → Wd G A s H locs (xw G.2.1 a R S) → lv_has ls 5 [(0, .ref (a 6)), (1, .ref (a (50 + y_13))), (2, .int y_14), (3, .int y_15), (4, .int y_16)] → WQ p l e rm_X1_barsThatHold s m [.ref (a 6), .ref (a (50 + p1)), .int p2, .int p3] below meth c G A (xw G.2.1 a R S) (some (.int r0)) 0 0 H locs 0 0 (F0 m 24 ls []) := by
    intro y_13 y_14 y_15 y_16 H locs ls hf hw hl
    rw [f_X1_barsThatHold_J24] at hf
    obtain ⟨hc_17, hf⟩ := gn_of hf
    refine lv_iload_n hx hb dX1_barsThatHold_24 rfl (lv_at hl 3 rfl) ?_
    refine lv_iconst (v := 2) hx hb dX1_barsThatHold_25 (by decide) ?_
    refine lv_iand hx hb dX1_barsThatHold_26 ?_
    refine lv_if_eq (tgt := 52) hx hb dX1_barsThatHold_27 (by decide) (fun c_18 => ?_) (fun c_18 => ?_)
    · replace hf := if_t c_18 hf
      exact j52 y_13 y_14 y_15 y_16 _ _ _ hf hw (lv_sub hl [0, 1, 2, 3, 4] rfl)
    · replace hf := if_f c_18 hf
      refine lv_aload_n hx hb dX1_barsThatHold_30 rfl (lv_at hl 0 rfl) ?_
      refine va_get (D := G.1) (ci := 1) (v := .ref (a 23)) (C := RX1) (T := TX1) (N := 7) hx hb hts hin1 hown hG.1 hw.1 6 rfl rfl 5 (by decide) (hts (.fieldLink RX1 17 "DutyDesk$Calls" "against" "[I") (List.mem_of_getElem? (i := 1) rfl)) (fun _ h9 => h9) rfl dX1_barsThatHold_31 ?_
      refine lv_aload_n hx hb dX1_barsThatHold_34 rfl (lv_at hl 1 rfl) ?_
      refine va_getN (D := G.1) (ci := 0) (v := .int (gC S y_13 4)) (C := RX0) (T := TX0) (N := 15) (host := "DutyDesk") hx hb hts hin0 hown hG.1 hw.1 (45 + y_13) (xw_atC hc_17) rfl 4 (by decide) (va_Nw.use rfl (hG.2.1 (.fieldLinkNest "DutyDesk$Calls" 138 "DutyDesk$Call" "ofCase" "I" "DutyDesk") (List.mem_of_getElem? (i := 28) rfl))) (fun _ h9 => h9) rfl dX1_barsThatHold_35 ?_
      obtain ⟨h_19, hf⟩ := gd_of hf
      refine va_iald hx hb hG.1 hw.1 23 1 (xw_atM (k := 23) rfl) rfl h_19 dX1_barsThatHold_38 ?_
      refine lv_iload_n hx hb dX1_barsThatHold_39 rfl (lv_at hl 2 rfl) ?_
      obtain ⟨r_21, h_20, hf⟩ := bind_of hf
      refine cSN (As := [.int (gM S 23 (gC S y_13 4).toNatClampNeg), .int y_14]) (rest := []) ⟨hx, hb, hml, hown, hts⟩ hG hA hw (c_X7_hasBit G l _ (gM S 23 (gC S y_13 4).toNatClampNeg) y_14 r_21 h_20) ⟨va_cnB 2 hts gX1_barsThatHold_X7_hasBit_n73 rfl rfl rfl (hG.2.1 (.methodLinkNest "DutyDesk$Calls" 73 yX7_hasBit "DutyDesk") (List.mem_of_getElem? (i := 86) rfl)) (hts (.initialized RX7) (List.mem_of_getElem? (i := 12) rfl)) (by decide +kernel) ⟨Nat.le_of_ble_eq_true rfl, Nat.le_of_ble_eq_true rfl⟩, hts (.static yX7_hasBit) (List.mem_of_getElem? (i := 11) rfl), trivial⟩ rfl hl.1 rfl (Nat.le_of_ble_eq_true rfl) dX1_barsThatHold_40 ⟨Nat.zero_le _, Nat.zero_le _⟩ (fun H locs hw => ?_)
      refine lv_if_eq (tgt := 52) hx hb dX1_barsThatHold_43 (by decide) (fun c_22 => ?_) (fun c_22 => ?_)
      · replace hf := if_t c_22 hf
        exact j52 y_13 y_14 y_15 y_16 _ _ _ hf hw (lv_sub hl [0, 1, 2, 3, 4] rfl)
      · replace hf := if_f c_22 hf
        refine lv_iload hx hb dX1_barsThatHold_46 (lv_at hl 4 rfl) ?_
        refine lv_iconst (v := 2) hx hb dX1_barsThatHold_48 (by decide) ?_
        refine lv_ior hx hb dX1_barsThatHold_49 ?_
        refine lv_topi (fun x_23 ex_23 => ?_)
        replace hf := bnd_of ex_23 hf
        refine lv_istore (lv' := [(4, .int x_23), (0, .ref (a 6)), (1, .ref (a (50 + y_13))), (2, .int y_14), (3, .int y_15)]) hx hb dX1_barsThatHold_50 hl (by decide) rfl (fun ls hl => ?_)
        exact j52 y_13 y_14 y_15 x_23 _ _ _ hf hw (lv_sub hl [1, 2, 3, 4, 0] rfl)
  obtain ⟨hc_24, hf⟩ := gn_of hf
  refine lv_iconst (v := 0) hx hb dX1_barsThatHold_0 (by decide) ?_
  refine lv_istore (lv' := [(4, .int 0), (0, .ref (a 6)), (1, .ref (a (50 + p1))), (2, .int p2), (3, .int p3)]) hx hb dX1_barsThatHold_1 hl (by decide) rfl (fun ls hl => ?_)
  refine lv_iload_n hx hb dX1_barsThatHold_3 rfl (lv_at hl 4 rfl) ?_
  refine lv_iconst (v := 1) hx hb dX1_barsThatHold_4 (by decide) ?_
  refine lv_iand hx hb dX1_barsThatHold_5 ?_
  refine lv_if_eq (tgt := 24) hx hb dX1_barsThatHold_6 (by decide) (fun c_25 => ?_) (fun c_25 => ?_)
  · replace hf := if_t c_25 hf
    exact j24 p1 p2 p3 0 _ _ _ hf hw (lv_sub hl [1, 2, 3, 4, 0] rfl)
  · replace hf := if_f c_25 hf
    refine lv_aload_n hx hb dX1_barsThatHold_9 rfl (lv_at hl 1 rfl) ?_
    refine lv_aload_n hx hb dX1_barsThatHold_10 rfl (lv_at hl 2 rfl) ?_
    refine lv_iload_n hx hb dX1_barsThatHold_11 rfl (lv_at hl 3 rfl) ?_
    obtain ⟨r_27, h_26, hf⟩ := bind_of hf
    refine cV (As := [.ref (a (50 + p1)), .int p2]) (rest := []) ⟨hx, hb, hml, hown, hts⟩ hG hA hw (c_X1_tookFellow G l a ha R S p1 p2 r_27 h_26) (cwV 2 hts gX1_barsThatHold_X1_tookFellow rfl rfl rfl (by decide +kernel) ⟨Nat.le_of_ble_eq_true rfl, Nat.le_of_ble_eq_true rfl⟩) (va_recv hG.1 hw.1 (ci := 1) (q0 := 6) rfl rfl) rfl hl.1 rfl (Nat.le_of_ble_eq_true rfl) dX1_barsThatHold_12 ⟨Nat.zero_le _, Nat.zero_le _⟩ (fun H locs hw => ?_)
    refine lv_if_eq (tgt := 24) hx hb dX1_barsThatHold_15 (by decide) (fun c_28 => ?_) (fun c_28 => ?_)
    · replace hf := if_t c_28 hf
      exact j24 p1 p2 p3 0 _ _ _ hf hw (lv_sub hl [1, 2, 3, 4, 0] rfl)
    · replace hf := if_f c_28 hf
      refine lv_iload hx hb dX1_barsThatHold_18 (lv_at hl 0 rfl) ?_
      refine lv_iconst (v := 1) hx hb dX1_barsThatHold_20 (by decide) ?_
      refine lv_ior hx hb dX1_barsThatHold_21 ?_
      refine lv_topi (fun x_29 ex_29 => ?_)
      replace hf := bnd_of ex_29 hf
      refine lv_istore (lv' := [(4, .int x_29), (0, .ref (a 6)), (1, .ref (a (50 + p1))), (2, .int p2), (3, .int p3)]) hx hb dX1_barsThatHold_22 hl (by decide) rfl (fun ls hl => ?_)
      exact j24 p1 p2 p3 x_29 _ _ _ hf hw (lv_sub hl [1, 2, 3, 4, 0] rfl)
/-! DutyDesk$Calls.reasonsAgainst(LDutyDesk$Call;II)I -/
def rm_X1_reasonsAgainst : Room := { frames := 3, cells := 0, slots := 0, locals := 70 }
def f_X1_reasonsAgainst_J81 (S : St) (y_1 : Nat) (y_2 : Int32) (y_3 : Int32) (y_4 : Int32) : Option (Int32) :=
  gn y_1 (nC S) ((f_X1_barsThatHold S y_1 y_2 y_3).bind (fun r_7 => some ((y_4 ||| (r_7 <<< ((4 : Int32) &&& 31))))))
def f_X1_reasonsAgainst_J64 (S : St) (y_9 : Nat) (y_10 : Int32) (y_11 : Int32) (y_12 : Int32) : Option (Int32) :=
  gn y_9 (nC S) ((f_X1_minutesTo S y_9 y_10).bind (fun r_15 => (if r_15 = (-1) then
    bnd (y_12 ||| 8) fun x_17 => f_X1_reasonsAgainst_J81 S y_9 y_10 y_11 x_17
  else
    f_X1_reasonsAgainst_J81 S y_9 y_10 y_11 y_12)))
def f_X1_reasonsAgainst_J43 (S : St) (y_18 : Nat) (y_19 : Int32) (y_20 : Int32) (y_21 : Int32) : Option (Int32) :=
  gn y_18 (nC S) ((f_X3_speaks S y_19 (gC S y_18 3)).bind (fun r_24 => (if r_24 = 0 then
    bnd (y_21 ||| 4) fun x_26 => f_X1_reasonsAgainst_J64 S y_18 y_19 y_20 x_26
  else
    f_X1_reasonsAgainst_J64 S y_18 y_19 y_20 y_21)))
def f_X1_reasonsAgainst_J20 (S : St) (y_27 : Nat) (y_28 : Int32) (y_29 : Int32) (z_30 : Int32) : Option (Int32) :=
  gn y_27 (nC S) ((f_X3_isThere S y_28 (gC S y_27 0)).bind (fun r_33 => (if r_33 = 0 then
    bnd (z_30 ||| 2) fun x_35 => f_X1_reasonsAgainst_J43 S y_27 y_28 y_29 x_35
  else
    f_X1_reasonsAgainst_J43 S y_27 y_28 y_29 z_30)))
def f_X1_reasonsAgainst (S : St) (p1 : Nat) (p2 : Int32) (p3 : Int32) : Option (Int32) :=
  gn p1 (nC S) ((f_X3_isOn S p2 (gC S p1 1)).bind (fun r_38 => (if r_38 = 0 then
    f_X1_reasonsAgainst_J20 S p1 p2 p3 1
  else
    f_X1_reasonsAgainst_J20 S p1 p2 p3 0)))
set_option maxHeartbeats 4000000 in
set_option maxRecDepth 100000 in
theorem c_X1_reasonsAgainst (G : GP) (l : Launch) (a : Nat → Nat) (ha : a 45 = G.2.2.1) (R : va_W) (S : St) (p1 : Nat) (p2 : Int32) (p3 : Int32) (r0 : Int32) (hf : f_X1_reasonsAgainst S p1 p2 p3 = some r0) : MC G l yX1_reasonsAgainst wsX1_reasonsAgainst rm_X1_reasonsAgainst [.ref (a 6), .ref (a (50 + p1)), .int p2, .int p3] (xw G.2.1 a R S) (xw G.2.1 a R S) (some (.int r0)) 0 0 := by
  refine MC.mk (cc := cX1_reasonsAgainst) (maxL := 5) (ret := (some .int)) (by decide) rfl (Nat.le_of_ble_eq_true rfl) ?_
  intro p e s m below meth c A ls ⟨hx, hb, hr, hml, hown, hlocks, _, hts⟩ hw hG hA hl
  have hl : lv_has ls 5 [(0, .ref (a 6)), (1, .ref (a (50 + p1))), (2, .int p2), (3, .int p3)] := hl
  have hin0 : ∀ w ∈ u_ws RX0 TX0 15, w ∈ wsX1_reasonsAgainst := by decide +kernel
  have hin1 : ∀ w ∈ u_ws RX1 TX1 7, w ∈ wsX1_reasonsAgainst := by decide +kernel
  rw [f_X1_reasonsAgainst] at hf
  have j81 : ∀ (y_1 : Nat) (y_2 : Int32) (y_3 : Int32) (y_4 : Int32) (H : Heap) (locs : List Loc) (ls : Array Slot), f_X1_reasonsAgainst_J81 S y_1 y_2 y_3 y_4 = some r0 → Wd G A s H locs (xw G.2.1 a R S) → lv_has ls 5 [(0, .ref (a 6)), (1, .ref (a (50 + y_1))), (2, .int y_2), (3, .int y_3), (4, .int y_4)] → WQ p l e rm_X1_reasonsAgainst s m [.ref (a 6), .ref (a (50 + p1)), .int p2, .int p3] below meth c G A (xw G.2.1 a R S) (some (.int r0)) 0 0 H locs 0 0 (F0 m 81 ls []) := by
    intro y_1 y_2 y_3 y_4 H locs ls hf hw hl
    rw [f_X1_reasonsAgainst_J81] at hf
    obtain ⟨hc_5, hf⟩ := gn_of hf
    refine lv_iload hx hb dX1_reasonsAgainst_81 (lv_at hl 4 rfl) ?_
    refine lv_aload_n hx hb dX1_reasonsAgainst_83 rfl (lv_at hl 0 rfl) ?_
    refine lv_aload_n hx hb dX1_reasonsAgainst_84 rfl (lv_at hl 1 rfl) ?_
    refine lv_iload_n hx hb dX1_reasonsAgainst_85 rfl (lv_at hl 2 rfl) ?_
    refine lv_iload_n hx hb dX1_reasonsAgainst_86 rfl (lv_at hl 3 rfl) ?_
    obtain ⟨r_7, h_6, hf⟩ := bind_of hf
    refine cV (As := [.ref (a (50 + y_1)), .int y_2, .int y_3]) (rest := [.int y_4]) ⟨hx, hb, hml, hown, hts⟩ hG hA hw (c_X1_barsThatHold G l a ha R S y_1 y_2 y_3 r_7 h_6) (cwV 3 hts gX1_reasonsAgainst_X1_barsThatHold rfl rfl rfl (by decide +kernel) ⟨Nat.le_of_ble_eq_true rfl, Nat.le_of_ble_eq_true rfl⟩) (va_recv hG.1 hw.1 (ci := 1) (q0 := 6) rfl rfl) rfl hl.1 rfl (Nat.le_of_ble_eq_true rfl) dX1_reasonsAgainst_87 ⟨Nat.zero_le _, Nat.zero_le _⟩ (fun H locs hw => ?_)
    refine lv_iconst (v := 4) hx hb dX1_reasonsAgainst_90 (by decide) ?_
    refine lv_ishl hx hb dX1_reasonsAgainst_91 ?_
    refine lv_ior hx hb dX1_reasonsAgainst_92 ?_
    have e_8 := Option.some.inj hf
    subst e_8
    exact wd_iret hx hb hr hlocks hw dX1_reasonsAgainst_93
  have j64 : ∀ (y_9 : Nat) (y_10 : Int32) (y_11 : Int32) (y_12 : Int32) (H : Heap) (locs : List Loc) (ls : Array Slot), f_X1_reasonsAgainst_J64 S y_9 y_10 y_11 y_12 = some r0 → Wd G A s H locs (xw G.2.1 a R S) → lv_has ls 5 [(0, .ref (a 6)), (1, .ref (a (50 + y_9))), (2, .int y_10), (3, .int y_11), (4, .int y_12)] → WQ p l e rm_X1_reasonsAgainst s m [.ref (a 6), .ref (a (50 + p1)), .int p2, .int p3] below meth c G A (xw G.2.1 a R S) (some (.int r0)) 0 0 H locs 0 0 (F0 m 64 ls []) := by
    intro y_9 y_10 y_11 y_12 H locs ls hf hw hl
    rw [f_X1_reasonsAgainst_J64] at hf
    obtain ⟨hc_13, hf⟩ := gn_of hf
    refine lv_aload_n hx hb dX1_reasonsAgainst_64 rfl (lv_at hl 0 rfl) ?_
    refine lv_aload_n hx hb dX1_reasonsAgainst_65 rfl (lv_at hl 1 rfl) ?_
    refine lv_iload_n hx hb dX1_reasonsAgainst_66 rfl (lv_at hl 2 rfl) ?_
    obtain ⟨r_15, h_14, hf⟩ := bind_of hf
    refine cV (As := [.ref (a (50 + y_9)), .int y_10]) (rest := []) ⟨hx, hb, hml, hown, hts⟩ hG hA hw (c_X1_minutesTo G l a ha R S y_9 y_10 r_15 h_14) (cwV 2 hts gX1_reasonsAgainst_X1_minutesTo rfl rfl rfl (by decide +kernel) ⟨Nat.le_of_ble_eq_true rfl, Nat.le_of_ble_eq_true rfl⟩) (va_recv hG.1 hw.1 (ci := 1) (q0 := 6) rfl rfl) rfl hl.1 rfl (Nat.le_of_ble_eq_true rfl) dX1_reasonsAgainst_67 ⟨Nat.zero_le _, Nat.zero_le _⟩ (fun H locs hw => ?_)
    refine lv_iconst (v := (-1)) hx hb dX1_reasonsAgainst_70 (by decide) ?_
    refine lv_icmp_ne (tgt := 81) hx hb dX1_reasonsAgainst_71 (by decide) (fun c_16 => ?_) (fun c_16 => ?_)
    · replace hf := if_f c_16 hf
      exact j81 y_9 y_10 y_11 y_12 _ _ _ hf hw (lv_sub hl [0, 1, 2, 3, 4] rfl)
    · replace hf := if_t c_16 hf
      refine lv_iload hx hb dX1_reasonsAgainst_74 (lv_at hl 4 rfl) ?_
      refine lv_bipush (v := 8) hx hb dX1_reasonsAgainst_76 (by decide) ?_
      refine lv_ior hx hb dX1_reasonsAgainst_78 ?_
      refine lv_topi (fun x_17 ex_17 => ?_)
      replace hf := bnd_of ex_17 hf
      refine lv_istore (lv' := [(4, .int x_17), (0, .ref (a 6)), (1, .ref (a (50 + y_9))), (2, .int y_10), (3, .int y_11)]) hx hb dX1_reasonsAgainst_79 hl (by decide) rfl (fun ls hl => ?_)
      exact j81 y_9 y_10 y_11 x_17 _ _ _ hf hw (lv_sub hl [1, 2, 3, 4, 0] rfl)
  have j43 : ∀ (y_18 : Nat) (y_19 : Int32) (y_20 : Int32) (y_21 : Int32) (H : Heap) (locs : List Loc) (ls : Array Slot), f_X1_reasonsAgainst_J43 S y_18 y_19 y_20 y_21 = some r0 → Wd G A s H locs (xw G.2.1 a R S) → lv_has ls 5 [(0, .ref (a 6)), (1, .ref (a (50 + y_18))), (2, .int y_19), (3, .int y_20), (4, .int y_21)] → WQ p l e rm_X1_reasonsAgainst s m [.ref (a 6), .ref (a (50 + p1)), .int p2, .int p3] below meth c G A (xw G.2.1 a R S) (some (.int r0)) 0 0 H locs 0 0 (F0 m 43 ls []) := by
    intro y_18 y_19 y_20 y_21 H locs ls hf hw hl
    rw [f_X1_reasonsAgainst_J43] at hf
    obtain ⟨hc_22, hf⟩ := gn_of hf
    refine lv_aload_n hx hb dX1_reasonsAgainst_43 rfl (lv_at hl 0 rfl) ?_
    refine va_get (D := G.1) (ci := 1) (v := .ref (a 3)) (C := RX1) (T := TX1) (N := 7) hx hb hts hin1 hown hG.1 hw.1 6 rfl rfl 0 (by decide) (hts (.fieldLink RX1 24 "DutyDesk$Calls" "people" "LDutyDesk$People;") (List.mem_of_getElem? (i := 1) rfl)) (fun _ h9 => h9) rfl dX1_reasonsAgainst_44 ?_
    refine lv_iload_n hx hb dX1_reasonsAgainst_47 rfl (lv_at hl 2 rfl) ?_
    refine lv_aload_n hx hb dX1_reasonsAgainst_48 rfl (lv_at hl 1 rfl) ?_
    refine va_getN (D := G.1) (ci := 0) (v := .int (gC S y_18 3)) (C := RX0) (T := TX0) (N := 15) (host := "DutyDesk") hx hb hts hin0 hown hG.1 hw.1 (45 + y_18) (xw_atC hc_22) rfl 3 (by decide) (va_Nw.use rfl (hG.2.1 (.fieldLinkNest "DutyDesk$Calls" 125 "DutyDesk$Call" "tongue" "I" "DutyDesk") (List.mem_of_getElem? (i := 27) rfl))) (fun _ h9 => h9) rfl dX1_reasonsAgainst_49 ?_
    obtain ⟨r_24, h_23, hf⟩ := bind_of hf
    refine cVN (As := [.int y_19, .int (gC S y_18 3)]) (rest := []) ⟨hx, hb, hml, hown, hts⟩ hG hA hw (c_X3_speaks G l a ha R S y_19 (gC S y_18 3) r_24 h_23) ⟨va_cnB 2 hts gX1_reasonsAgainst_X3_speaks_n128 rfl rfl rfl (hG.2.1 (.methodLinkNest "DutyDesk$Calls" 128 yX3_speaks "DutyDesk") (List.mem_of_getElem? (i := 89) rfl)) (hts (.initialized RX3) (List.mem_of_getElem? (i := 3) rfl)) (by decide +kernel) ⟨Nat.le_of_ble_eq_true rfl, Nat.le_of_ble_eq_true rfl⟩, hts (.instanceMethod yX3_speaks) (List.mem_of_getElem? (i := 19) rfl), hts (.selects RX3 yX3_speaks yX3_speaks) (List.mem_of_getElem? (i := 20) rfl)⟩ (va_recv hG.1 hw.1 (ci := 3) (q0 := 3) rfl rfl) rfl hl.1 rfl (Nat.le_of_ble_eq_true rfl) dX1_reasonsAgainst_52 ⟨Nat.zero_le _, Nat.zero_le _⟩ (fun H locs hw => ?_)
    refine lv_if_ne (tgt := 64) hx hb dX1_reasonsAgainst_55 (by decide) (fun c_25 => ?_) (fun c_25 => ?_)
    · replace hf := if_f c_25 hf
      exact j64 y_18 y_19 y_20 y_21 _ _ _ hf hw (lv_sub hl [0, 1, 2, 3, 4] rfl)
    · replace hf := if_t c_25 hf
      refine lv_iload hx hb dX1_reasonsAgainst_58 (lv_at hl 4 rfl) ?_
      refine lv_iconst (v := 4) hx hb dX1_reasonsAgainst_60 (by decide) ?_
      refine lv_ior hx hb dX1_reasonsAgainst_61 ?_
      refine lv_topi (fun x_26 ex_26 => ?_)
      replace hf := bnd_of ex_26 hf
      refine lv_istore (lv' := [(4, .int x_26), (0, .ref (a 6)), (1, .ref (a (50 + y_18))), (2, .int y_19), (3, .int y_20)]) hx hb dX1_reasonsAgainst_62 hl (by decide) rfl (fun ls hl => ?_)
      exact j64 y_18 y_19 y_20 x_26 _ _ _ hf hw (lv_sub hl [1, 2, 3, 4, 0] rfl)
  have j20 : ∀ (y_27 : Nat) (y_28 : Int32) (y_29 : Int32) (z_30 : Int32) (H : Heap) (locs : List Loc) (ls : Array Slot), f_X1_reasonsAgainst_J20 S y_27 y_28 y_29 z_30 = some r0 → Wd G A s H locs (xw G.2.1 a R S) → lv_has ls 5 [(0, .ref (a 6)), (1, .ref (a (50 + y_27))), (2, .int y_28), (3, .int y_29)] → WQ p l e rm_X1_reasonsAgainst s m [.ref (a 6), .ref (a (50 + p1)), .int p2, .int p3] below meth c G A (xw G.2.1 a R S) (some (.int r0)) 0 0 H locs 0 0 (F0 m 20 ls [.int z_30]) := by
    intro y_27 y_28 y_29 z_30 H locs ls hf hw hl
    rw [f_X1_reasonsAgainst_J20] at hf
    obtain ⟨hc_31, hf⟩ := gn_of hf
    refine lv_istore (lv' := [(4, .int z_30), (0, .ref (a 6)), (1, .ref (a (50 + y_27))), (2, .int y_28), (3, .int y_29)]) hx hb dX1_reasonsAgainst_20 hl (by decide) rfl (fun ls hl => ?_)
    refine lv_aload_n hx hb dX1_reasonsAgainst_22 rfl (lv_at hl 1 rfl) ?_
    refine va_get (D := G.1) (ci := 1) (v := .ref (a 3)) (C := RX1) (T := TX1) (N := 7) hx hb hts hin1 hown hG.1 hw.1 6 rfl rfl 0 (by decide) (hts (.fieldLink RX1 24 "DutyDesk$Calls" "people" "LDutyDesk$People;") (List.mem_of_getElem? (i := 1) rfl)) (fun _ h9 => h9) rfl dX1_reasonsAgainst_23 ?_
    refine lv_iload_n hx hb dX1_reasonsAgainst_26 rfl (lv_at hl 3 rfl) ?_
    refine lv_aload_n hx hb dX1_reasonsAgainst_27 rfl (lv_at hl 2 rfl) ?_
    refine va_getN (D := G.1) (ci := 0) (v := .int (gC S y_27 0)) (C := RX0) (T := TX0) (N := 15) (host := "DutyDesk") hx hb hts hin0 hown hG.1 hw.1 (45 + y_27) (xw_atC hc_31) rfl 0 (by decide) (va_Nw.use rfl (hG.2.1 (.fieldLinkNest "DutyDesk$Calls" 44 "DutyDesk$Call" "day" "I" "DutyDesk") (List.mem_of_getElem? (i := 23) rfl))) (fun _ h9 => h9) rfl dX1_reasonsAgainst_28 ?_
    obtain ⟨r_33, h_32, hf⟩ := bind_of hf
    refine cVN (As := [.int y_28, .int (gC S y_27 0)]) (rest := []) ⟨hx, hb, hml, hown, hts⟩ hG hA hw (c_X3_isThere G l a ha R S y_28 (gC S y_27 0) r_33 h_32) ⟨va_cnB 2 hts gX1_reasonsAgainst_X3_isThere_n122 rfl rfl rfl (hG.2.1 (.methodLinkNest "DutyDesk$Calls" 122 yX3_isThere "DutyDesk") (List.mem_of_getElem? (i := 88) rfl)) (hts (.initialized RX3) (List.mem_of_getElem? (i := 3) rfl)) (by decide +kernel) ⟨Nat.le_of_ble_eq_true rfl, Nat.le_of_ble_eq_true rfl⟩, hts (.instanceMethod yX3_isThere) (List.mem_of_getElem? (i := 10) rfl), hts (.selects RX3 yX3_isThere yX3_isThere) (List.mem_of_getElem? (i := 11) rfl)⟩ (va_recv hG.1 hw.1 (ci := 3) (q0 := 3) rfl rfl) rfl hl.1 rfl (Nat.le_of_ble_eq_true rfl) dX1_reasonsAgainst_31 ⟨Nat.zero_le _, Nat.zero_le _⟩ (fun H locs hw => ?_)
    refine lv_if_ne (tgt := 43) hx hb dX1_reasonsAgainst_34 (by decide) (fun c_34 => ?_) (fun c_34 => ?_)
    · replace hf := if_f c_34 hf
      exact j43 y_27 y_28 y_29 z_30 _ _ _ hf hw (lv_sub hl [1, 2, 3, 4, 0] rfl)
    · replace hf := if_t c_34 hf
      refine lv_iload hx hb dX1_reasonsAgainst_37 (lv_at hl 0 rfl) ?_
      refine lv_iconst (v := 2) hx hb dX1_reasonsAgainst_39 (by decide) ?_
      refine lv_ior hx hb dX1_reasonsAgainst_40 ?_
      refine lv_topi (fun x_35 ex_35 => ?_)
      replace hf := bnd_of ex_35 hf
      refine lv_istore (lv' := [(4, .int x_35), (0, .ref (a 6)), (1, .ref (a (50 + y_27))), (2, .int y_28), (3, .int y_29)]) hx hb dX1_reasonsAgainst_41 hl (by decide) rfl (fun ls hl => ?_)
      exact j43 y_27 y_28 y_29 x_35 _ _ _ hf hw (lv_sub hl [1, 2, 3, 4, 0] rfl)
  obtain ⟨hc_36, hf⟩ := gn_of hf
  refine lv_aload_n hx hb dX1_reasonsAgainst_0 rfl (lv_at hl 0 rfl) ?_
  refine va_get (D := G.1) (ci := 1) (v := .ref (a 3)) (C := RX1) (T := TX1) (N := 7) hx hb hts hin1 hown hG.1 hw.1 6 rfl rfl 0 (by decide) (hts (.fieldLink RX1 24 "DutyDesk$Calls" "people" "LDutyDesk$People;") (List.mem_of_getElem? (i := 1) rfl)) (fun _ h9 => h9) rfl dX1_reasonsAgainst_1 ?_
  refine lv_iload_n hx hb dX1_reasonsAgainst_4 rfl (lv_at hl 2 rfl) ?_
  refine lv_aload_n hx hb dX1_reasonsAgainst_5 rfl (lv_at hl 1 rfl) ?_
  refine va_getN (D := G.1) (ci := 0) (v := .int (gC S p1 1)) (C := RX0) (T := TX0) (N := 15) (host := "DutyDesk") hx hb hts hin0 hown hG.1 hw.1 (45 + p1) (xw_atC hc_36) rfl 1 (by decide) (va_Nw.use rfl (hG.2.1 (.fieldLinkNest "DutyDesk$Calls" 76 "DutyDesk$Call" "panel" "I" "DutyDesk") (List.mem_of_getElem? (i := 25) rfl))) (fun _ h9 => h9) rfl dX1_reasonsAgainst_6 ?_
  obtain ⟨r_38, h_37, hf⟩ := bind_of hf
  refine cVN (As := [.int p2, .int (gC S p1 1)]) (rest := []) ⟨hx, hb, hml, hown, hts⟩ hG hA hw (c_X3_isOn G l a ha R S p2 (gC S p1 1) r_38 h_37) ⟨va_cnB 2 hts gX1_reasonsAgainst_X3_isOn_n119 rfl rfl rfl (hG.2.1 (.methodLinkNest "DutyDesk$Calls" 119 yX3_isOn "DutyDesk") (List.mem_of_getElem? (i := 87) rfl)) (hts (.initialized RX3) (List.mem_of_getElem? (i := 3) rfl)) (by decide +kernel) ⟨Nat.le_of_ble_eq_true rfl, Nat.le_of_ble_eq_true rfl⟩, hts (.instanceMethod yX3_isOn) (List.mem_of_getElem? (i := 2) rfl), hts (.selects RX3 yX3_isOn yX3_isOn) (List.mem_of_getElem? (i := 4) rfl)⟩ (va_recv hG.1 hw.1 (ci := 3) (q0 := 3) rfl rfl) rfl hl.1 rfl (Nat.le_of_ble_eq_true rfl) dX1_reasonsAgainst_9 ⟨Nat.zero_le _, Nat.zero_le _⟩ (fun H locs hw => ?_)
  refine lv_if_eq (tgt := 19) hx hb dX1_reasonsAgainst_12 (by decide) (fun c_39 => ?_) (fun c_39 => ?_)
  · replace hf := if_t c_39 hf
    refine lv_iconst (v := 1) hx hb dX1_reasonsAgainst_19 (by decide) ?_
    exact j20 p1 p2 p3 1 _ _ _ hf hw (lv_sub hl [0, 1, 2, 3] rfl)
  · replace hf := if_f c_39 hf
    refine lv_iconst (v := 0) hx hb dX1_reasonsAgainst_15 (by decide) ?_
    refine lv_goto (tgt := 20) hx hb dX1_reasonsAgainst_16 (by decide) ?_
    exact j20 p1 p2 p3 0 _ _ _ hf hw (lv_sub hl [0, 1, 2, 3] rfl)
/-! DutyDesk$Calls.whoMayBeAsked(LDutyDesk$Call;I)I -/
def rm_X1_whoMayBeAsked : Room := { frames := 4, cells := 0, slots := 0, locals := 94 }
def f_X1_whoMayBeAsked_L5 (S : St) (p1 : Nat) (p2 : Int32) : (Int32 × Int32) → Option ((Int32 × Int32) ⊕ (Int32))
  | (v_2, v_3) =>
  (if (gI S 11) ≤ v_3 then
    some (.inr (v_2))
  else
    (f_X7_hasBit (gC S p1 8) v_3).bind (fun r_8 => (if r_8 = 0 then
    (f_X1_reasonsAgainst S p1 v_3 p2).bind (fun r_13 => (if r_13 = 0 then
    bnd (v_2 ||| ((1 : Int32) <<< (v_3 &&& 31))) fun x_17 => bnd (v_3 + 1) fun x_18 => some (.inl (x_17, x_18))
  else
    bnd (v_3 + 1) fun x_15 => some (.inl (v_2, x_15))))
  else
    bnd (v_3 + 1) fun x_10 => some (.inl (v_2, x_10)))))
def f_X1_whoMayBeAsked (S : St) (p1 : Nat) (p2 : Int32) : Option (Int32) :=
  gn p1 (nC S) (loopF (f_X1_whoMayBeAsked_L5 S p1 p2) FU (0, 0))
set_option maxHeartbeats 4000000 in
set_option maxRecDepth 100000 in
theorem c_X1_whoMayBeAsked (G : GP) (l : Launch) (a : Nat → Nat) (ha : a 45 = G.2.2.1) (R : va_W) (S : St) (p1 : Nat) (p2 : Int32) (r0 : Int32) (hf : f_X1_whoMayBeAsked S p1 p2 = some r0) : MC G l yX1_whoMayBeAsked wsX1_whoMayBeAsked rm_X1_whoMayBeAsked [.ref (a 6), .ref (a (50 + p1)), .int p2] (xw G.2.1 a R S) (xw G.2.1 a R S) (some (.int r0)) 0 0 := by
  refine MC.mk (cc := cX1_whoMayBeAsked) (maxL := 5) (ret := (some .int)) (by decide) rfl (Nat.le_of_ble_eq_true rfl) ?_
  intro p e s m below meth c A ls ⟨hx, hb, hr, hml, hown, hlocks, _, hts⟩ hw hG hA hl
  have hl : lv_has ls 5 [(0, .ref (a 6)), (1, .ref (a (50 + p1))), (2, .int p2)] := hl
  have hin0 : ∀ w ∈ u_ws RX0 TX0 15, w ∈ wsX1_whoMayBeAsked := by decide +kernel
  have hin1 : ∀ w ∈ u_ws RX1 TX1 7, w ∈ wsX1_whoMayBeAsked := by decide +kernel
  have hin3 : ∀ w ∈ u_ws RX3 TX3 8, w ∈ wsX1_whoMayBeAsked := by decide +kernel
  rw [f_X1_whoMayBeAsked] at hf
  obtain ⟨hc_1, hf⟩ := gn_of hf
  refine lv_iconst (v := 0) hx hb dX1_whoMayBeAsked_0 (by decide) ?_
  refine lv_istore_n (lv' := [(3, .int 0), (0, .ref (a 6)), (1, .ref (a (50 + p1))), (2, .int p2)]) hx hb dX1_whoMayBeAsked_1 rfl hl (by decide) rfl (fun ls hl => ?_)
  refine lv_iconst (v := 0) hx hb dX1_whoMayBeAsked_2 (by decide) ?_
  refine lv_istore (lv' := [(4, .int 0), (3, .int 0), (0, .ref (a 6)), (1, .ref (a (50 + p1))), (2, .int p2)]) hx hb dX1_whoMayBeAsked_3 hl (by decide) rfl (fun ls hl => ?_)
  refine loopF_ind (body := f_X1_whoMayBeAsked_L5 S p1 p2) (fun (q : Int32 × Int32) => match q with | (v_2, v_3) => ∀ (H : Heap) (locs : List Loc) (ls : Array Slot), Wd G A s H locs (xw G.2.1 a R S) → lv_has ls 5 [(0, .ref (a 6)), (1, .ref (a (50 + p1))), (2, .int p2), (3, .int v_2), (4, .int v_3)] → WQ p l e rm_X1_whoMayBeAsked s m [.ref (a 6), .ref (a (50 + p1)), .int p2] below meth c G A (xw G.2.1 a R S) (some (.int r0)) 0 0 H locs 0 0 (F0 m 5 ls [])) ?_ FU (0, 0) hf _ _ _ hw (lv_sub hl [2, 3, 4, 1, 0] rfl)
  clear hf hw hl
  intro ⟨v_2, v_3⟩ t0_5 hf hz1_0_5 hz2_0_5 H locs ls hw hl
  rw [f_X1_whoMayBeAsked_L5] at hf
  refine lv_iload hx hb dX1_whoMayBeAsked_5 (lv_at hl 4 rfl) ?_
  refine lv_aload_n hx hb dX1_whoMayBeAsked_7 rfl (lv_at hl 0 rfl) ?_
  refine va_get (D := G.1) (ci := 1) (v := .ref (a 3)) (C := RX1) (T := TX1) (N := 7) hx hb hts hin1 hown hG.1 hw.1 6 rfl rfl 0 (by decide) (hts (.fieldLink RX1 24 "DutyDesk$Calls" "people" "LDutyDesk$People;") (List.mem_of_getElem? (i := 1) rfl)) (fun _ h9 => h9) rfl dX1_whoMayBeAsked_8 ?_
  refine va_getN (D := G.1) (ci := 3) (v := .int (gI S 11)) (C := RX3) (T := TX3) (N := 8) (host := "DutyDesk") hx hb hts hin3 hown hG.1 hw.1 3 rfl rfl 7 (by decide) (va_Nw.use rfl (hG.2.1 (.fieldLinkNest "DutyDesk$Calls" 89 "DutyDesk$People" "size" "I" "DutyDesk") (List.mem_of_getElem? (i := 14) rfl))) (fun _ h9 => h9) rfl dX1_whoMayBeAsked_11 ?_
  refine lv_icmp_ge (tgt := 53) hx hb dX1_whoMayBeAsked_14 (by decide) (fun c_4 => ?_) (fun c_4 => ?_)
  · replace hf := if_t c_4 hf
    refine lv_iload_n hx hb dX1_whoMayBeAsked_53 rfl (lv_at hl 3 rfl) ?_
    have e_5 := Option.some.inj hf
    have e_6 := hz2_0_5 _ e_5.symm
    subst e_6
    exact wd_iret hx hb hr hlocks hw dX1_whoMayBeAsked_54
  · replace hf := if_f c_4 hf
    refine lv_aload_n hx hb dX1_whoMayBeAsked_17 rfl (lv_at hl 1 rfl) ?_
    refine va_getN (D := G.1) (ci := 0) (v := .int (gC S p1 8)) (C := RX0) (T := TX0) (N := 15) (host := "DutyDesk") hx hb hts hin0 hown hG.1 hw.1 (45 + p1) (xw_atC hc_1) rfl 8 (by decide) (va_Nw.use rfl (hG.2.1 (.fieldLinkNest "DutyDesk$Calls" 57 "DutyDesk$Call" "askedBits" "I" "DutyDesk") (List.mem_of_getElem? (i := 34) rfl))) (fun _ h9 => h9) rfl dX1_whoMayBeAsked_18 ?_
    refine lv_iload hx hb dX1_whoMayBeAsked_21 (lv_at hl 4 rfl) ?_
    obtain ⟨r_8, h_7, hf⟩ := bind_of hf
    refine cSN (As := [.int (gC S p1 8), .int v_3]) (rest := []) ⟨hx, hb, hml, hown, hts⟩ hG hA hw (c_X7_hasBit G l _ (gC S p1 8) v_3 r_8 h_7) ⟨va_cnB 2 hts gX1_whoMayBeAsked_X7_hasBit_n73 rfl rfl rfl (hG.2.1 (.methodLinkNest "DutyDesk$Calls" 73 yX7_hasBit "DutyDesk") (List.mem_of_getElem? (i := 86) rfl)) (hts (.initialized RX7) (List.mem_of_getElem? (i := 3) rfl)) (by decide +kernel) ⟨Nat.le_of_ble_eq_true rfl, Nat.le_of_ble_eq_true rfl⟩, hts (.static yX7_hasBit) (List.mem_of_getElem? (i := 2) rfl), trivial⟩ rfl hl.1 rfl (Nat.le_of_ble_eq_true rfl) dX1_whoMayBeAsked_23 ⟨Nat.zero_le _, Nat.zero_le _⟩ (fun H locs hw => ?_)
    refine lv_if_ne (tgt := 47) hx hb dX1_whoMayBeAsked_26 (by decide) (fun c_9 => ?_) (fun c_9 => ?_)
    · replace hf := if_f c_9 hf
      obtain ⟨x_10, ex_10⟩ : ∃ z : Int32, z = v_3 + 1 := ⟨_, rfl⟩
      replace hf := bnd_of ex_10 hf
      refine lv_iinc (v := x_10) (lv' := [(4, .int x_10), (0, .ref (a 6)), (1, .ref (a (50 + p1))), (2, .int p2), (3, .int v_2)]) hx hb dX1_whoMayBeAsked_47 hl (k := 4) rfl (by rw [ex_10]; rfl) (by decide) rfl (fun ls hl => ?_)
      refine lv_goto (tgt := 5) hx hb dX1_whoMayBeAsked_50 (by decide) ?_
      have e_11 := Option.some.inj hf
      exact hz1_0_5 _ e_11.symm _ _ _ hw (lv_sub hl [1, 2, 3, 4, 0] rfl)
    · replace hf := if_t c_9 hf
      refine lv_aload_n hx hb dX1_whoMayBeAsked_29 rfl (lv_at hl 0 rfl) ?_
      refine lv_aload_n hx hb dX1_whoMayBeAsked_30 rfl (lv_at hl 1 rfl) ?_
      refine lv_iload hx hb dX1_whoMayBeAsked_31 (lv_at hl 4 rfl) ?_
      refine lv_iload_n hx hb dX1_whoMayBeAsked_33 rfl (lv_at hl 2 rfl) ?_
      obtain ⟨r_13, h_12, hf⟩ := bind_of hf
      refine cV (As := [.ref (a (50 + p1)), .int v_3, .int p2]) (rest := []) ⟨hx, hb, hml, hown, hts⟩ hG hA hw (c_X1_reasonsAgainst G l a ha R S p1 v_3 p2 r_13 h_12) (cwV 3 hts gX1_whoMayBeAsked_X1_reasonsAgainst rfl rfl rfl (by decide +kernel) ⟨Nat.le_of_ble_eq_true rfl, Nat.le_of_ble_eq_true rfl⟩) (va_recv hG.1 hw.1 (ci := 1) (q0 := 6) rfl rfl) rfl hl.1 rfl (Nat.le_of_ble_eq_true rfl) dX1_whoMayBeAsked_34 ⟨Nat.zero_le _, Nat.zero_le _⟩ (fun H locs hw => ?_)
      refine lv_if_ne (tgt := 47) hx hb dX1_whoMayBeAsked_37 (by decide) (fun c_14 => ?_) (fun c_14 => ?_)
      · replace hf := if_f c_14 hf
        obtain ⟨x_15, ex_15⟩ : ∃ z : Int32, z = v_3 + 1 := ⟨_, rfl⟩
        replace hf := bnd_of ex_15 hf
        refine lv_iinc (v := x_15) (lv' := [(4, .int x_15), (0, .ref (a 6)), (1, .ref (a (50 + p1))), (2, .int p2), (3, .int v_2)]) hx hb dX1_whoMayBeAsked_47 hl (k := 4) rfl (by rw [ex_15]; rfl) (by decide) rfl (fun ls hl => ?_)
        refine lv_goto (tgt := 5) hx hb dX1_whoMayBeAsked_50 (by decide) ?_
        have e_16 := Option.some.inj hf
        exact hz1_0_5 _ e_16.symm _ _ _ hw (lv_sub hl [1, 2, 3, 4, 0] rfl)
      · replace hf := if_t c_14 hf
        refine lv_iload_n hx hb dX1_whoMayBeAsked_40 rfl (lv_at hl 3 rfl) ?_
        refine lv_iconst (v := 1) hx hb dX1_whoMayBeAsked_41 (by decide) ?_
        refine lv_iload hx hb dX1_whoMayBeAsked_42 (lv_at hl 4 rfl) ?_
        refine lv_ishl hx hb dX1_whoMayBeAsked_44 ?_
        refine lv_ior hx hb dX1_whoMayBeAsked_45 ?_
        refine lv_topi (fun x_17 ex_17 => ?_)
        replace hf := bnd_of ex_17 hf
        refine lv_istore_n (lv' := [(3, .int x_17), (0, .ref (a 6)), (1, .ref (a (50 + p1))), (2, .int p2), (4, .int v_3)]) hx hb dX1_whoMayBeAsked_46 rfl hl (by decide) rfl (fun ls hl => ?_)
        obtain ⟨x_18, ex_18⟩ : ∃ z : Int32, z = v_3 + 1 := ⟨_, rfl⟩
        replace hf := bnd_of ex_18 hf
        refine lv_iinc (v := x_18) (lv' := [(4, .int x_18), (3, .int x_17), (0, .ref (a 6)), (1, .ref (a (50 + p1))), (2, .int p2)]) hx hb dX1_whoMayBeAsked_47 hl (k := 4) rfl (by rw [ex_18]; rfl) (by decide) rfl (fun ls hl => ?_)
        refine lv_goto (tgt := 5) hx hb dX1_whoMayBeAsked_50 (by decide) ?_
        have e_19 := Option.some.inj hf
        exact hz1_0_5 _ e_19.symm _ _ _ hw (lv_sub hl [2, 3, 4, 1, 0] rfl)
/-! DutyDesk$Calls.takerBefore(I)I -/
def rm_X1_takerBefore : Room := { frames := 1, cells := 0, slots := 0, locals := 21 }
def f_X1_takerBefore_L4 (S : St) (p1 : Int32) : Int32 → Option ((Int32) ⊕ (Int32))
  | v_2 =>
  (if v_2 < 0 then
    some (.inr ((-1)))
  else
    gd v_2 150 (gd v_2 (nC S) (bnd (v_2.toNatClampNeg) fun k_7 => (if (gC S k_7 6) = 1 then
    gd v_2 150 (gd v_2 (nC S) (bnd (v_2.toNatClampNeg) fun k_14 => gd p1 150 (gd p1 (nC S) (bnd (p1.toNatClampNeg) fun k_18 => (f_X0_isForSame S k_14 k_18).bind (fun r_22 => (if r_22 = 0 then
    bnd (v_2 + (-1)) fun x_24 => some (.inl x_24)
  else
    gd v_2 150 (gd v_2 (nC S) (bnd (v_2.toNatClampNeg) fun k_27 => some (.inr ((gC S k_27 10)))))))))))
  else
    bnd (v_2 + (-1)) fun x_11 => some (.inl x_11)))))
def f_X1_takerBefore (S : St) (p1 : Int32) : Option (Int32) :=
  bnd (p1 - 1) fun x_1 => loopF (f_X1_takerBefore_L4 S p1) FU x_1
set_option maxHeartbeats 4000000 in
set_option maxRecDepth 100000 in
theorem c_X1_takerBefore (G : GP) (l : Launch) (a : Nat → Nat) (ha : a 45 = G.2.2.1) (R : va_W) (S : St) (p1 : Int32) (r0 : Int32) (hf : f_X1_takerBefore S p1 = some r0) : MC G l yX1_takerBefore wsX1_takerBefore rm_X1_takerBefore [.ref (a 6), .int p1] (xw G.2.1 a R S) (xw G.2.1 a R S) (some (.int r0)) 0 0 := by
  refine MC.mk (cc := cX1_takerBefore) (maxL := 3) (ret := (some .int)) (by decide) rfl (Nat.le_of_ble_eq_true rfl) ?_
  intro p e s m below meth c A ls ⟨hx, hb, hr, hml, hown, hlocks, _, hts⟩ hw hG hA hl
  have hl : lv_has ls 3 [(0, .ref (a 6)), (1, .int p1)] := hl
  have hin0 : ∀ w ∈ u_ws RX0 TX0 15, w ∈ wsX1_takerBefore := by decide +kernel
  have hin1 : ∀ w ∈ u_ws RX1 TX1 7, w ∈ wsX1_takerBefore := by decide +kernel
  rw [f_X1_takerBefore] at hf
  refine lv_iload_n hx hb dX1_takerBefore_0 rfl (lv_at hl 1 rfl) ?_
  refine lv_iconst (v := 1) hx hb dX1_takerBefore_1 (by decide) ?_
  refine lv_isub hx hb dX1_takerBefore_2 ?_
  refine lv_topi (fun x_1 ex_1 => ?_)
  replace hf := bnd_of ex_1 hf
  refine lv_istore_n (lv' := [(2, .int x_1), (0, .ref (a 6)), (1, .int p1)]) hx hb dX1_takerBefore_3 rfl hl (by decide) rfl (fun ls hl => ?_)
  refine loopF_ind (body := f_X1_takerBefore_L4 S p1) (fun (v_2 : Int32) => ∀ (H : Heap) (locs : List Loc) (ls : Array Slot), Wd G A s H locs (xw G.2.1 a R S) → lv_has ls 3 [(0, .ref (a 6)), (1, .int p1), (2, .int v_2)] → WQ p l e rm_X1_takerBefore s m [.ref (a 6), .int p1] below meth c G A (xw G.2.1 a R S) (some (.int r0)) 0 0 H locs 0 0 (F0 m 4 ls [])) ?_ FU x_1 hf _ _ _ hw (lv_sub hl [1, 2, 0] rfl)
  clear hf hw hl
  intro v_2 t0_4 hf hz1_0_4 hz2_0_4 H locs ls hw hl
  rw [f_X1_takerBefore_L4] at hf
  refine lv_iload_n hx hb dX1_takerBefore_4 rfl (lv_at hl 2 rfl) ?_
  refine lv_if_lt (tgt := 55) hx hb dX1_takerBefore_5 (by decide) (fun c_3 => ?_) (fun c_3 => ?_)
  · replace hf := if_t c_3 hf
    refine lv_iconst (v := (-1)) hx hb dX1_takerBefore_55 (by decide) ?_
    have e_4 := Option.some.inj hf
    have e_5 := hz2_0_4 _ e_4.symm
    subst e_5
    exact wd_iret hx hb hr hlocks hw dX1_takerBefore_56
  · replace hf := if_f c_3 hf
    refine lv_aload_n hx hb dX1_takerBefore_8 rfl (lv_at hl 0 rfl) ?_
    refine va_get (D := G.1) (ci := 1) (v := .ref (a 22)) (C := RX1) (T := TX1) (N := 7) hx hb hts hin1 hown hG.1 hw.1 6 rfl rfl 3 (by decide) (hts (.fieldLink RX1 11 "DutyDesk$Calls" "list" "[LDutyDesk$Call;") (List.mem_of_getElem? (i := 1) rfl)) (fun _ h9 => h9) rfl dX1_takerBefore_9 ?_
    refine lv_iload_n hx hb dX1_takerBefore_12 rfl (lv_at hl 2 rfl) ?_
    obtain ⟨h_6, hf⟩ := gd_of hf
    obtain ⟨h_8, hf⟩ := gd_of hf
    refine x_ald22 hx hb hG hw h_6 h_8 dX1_takerBefore_13 ?_
    obtain ⟨k_7, ek_7⟩ : ∃ z : Nat, z = v_2.toNatClampNeg := ⟨_, rfl⟩
    rw [← ek_7]
    replace hf := bnd_of ek_7 hf
    have hc_9 : k_7 < nC S := by rw [ek_7]; exact x_lt h_8
    refine va_getN (D := G.1) (ci := 0) (v := .int (gC S k_7 6)) (C := RX0) (T := TX0) (N := 15) (host := "DutyDesk") hx hb hts hin0 hown hG.1 hw.1 (45 + k_7) (xw_atC hc_9) rfl 6 (by decide) (va_Nw.use rfl (hG.2.1 (.fieldLinkNest "DutyDesk$Calls" 54 "DutyDesk$Call" "state" "I" "DutyDesk") (List.mem_of_getElem? (i := 30) rfl))) (fun _ h9 => h9) rfl dX1_takerBefore_14 ?_
    refine lv_iconst (v := 1) hx hb dX1_takerBefore_17 (by decide) ?_
    refine lv_icmp_ne (tgt := 49) hx hb dX1_takerBefore_18 (by decide) (fun c_10 => ?_) (fun c_10 => ?_)
    · replace hf := if_f c_10 hf
      obtain ⟨x_11, ex_11⟩ : ∃ z : Int32, z = v_2 + (-1) := ⟨_, rfl⟩
      replace hf := bnd_of ex_11 hf
      refine lv_iinc (v := x_11) (lv' := [(2, .int x_11), (0, .ref (a 6)), (1, .int p1)]) hx hb dX1_takerBefore_49 hl (k := 2) rfl (by rw [ex_11]; rfl) (by decide) rfl (fun ls hl => ?_)
      refine lv_goto (tgt := 4) hx hb dX1_takerBefore_52 (by decide) ?_
      have e_12 := Option.some.inj hf
      exact hz1_0_4 _ e_12.symm _ _ _ hw (lv_sub hl [1, 2, 0] rfl)
    · replace hf := if_t c_10 hf
      refine lv_aload_n hx hb dX1_takerBefore_21 rfl (lv_at hl 0 rfl) ?_
      refine va_get (D := G.1) (ci := 1) (v := .ref (a 22)) (C := RX1) (T := TX1) (N := 7) hx hb hts hin1 hown hG.1 hw.1 6 rfl rfl 3 (by decide) (hts (.fieldLink RX1 11 "DutyDesk$Calls" "list" "[LDutyDesk$Call;") (List.mem_of_getElem? (i := 1) rfl)) (fun _ h9 => h9) rfl dX1_takerBefore_22 ?_
      refine lv_iload_n hx hb dX1_takerBefore_25 rfl (lv_at hl 2 rfl) ?_
      obtain ⟨h_13, hf⟩ := gd_of hf
      obtain ⟨h_15, hf⟩ := gd_of hf
      refine x_ald22 hx hb hG hw h_13 h_15 dX1_takerBefore_26 ?_
      obtain ⟨k_14, ek_14⟩ : ∃ z : Nat, z = v_2.toNatClampNeg := ⟨_, rfl⟩
      rw [← ek_14]
      replace hf := bnd_of ek_14 hf
      have hc_16 : k_14 < nC S := by rw [ek_14]; exact x_lt h_15
      refine lv_aload_n hx hb dX1_takerBefore_27 rfl (lv_at hl 0 rfl) ?_
      refine va_get (D := G.1) (ci := 1) (v := .ref (a 22)) (C := RX1) (T := TX1) (N := 7) hx hb hts hin1 hown hG.1 hw.1 6 rfl rfl 3 (by decide) (hts (.fieldLink RX1 11 "DutyDesk$Calls" "list" "[LDutyDesk$Call;") (List.mem_of_getElem? (i := 1) rfl)) (fun _ h9 => h9) rfl dX1_takerBefore_28 ?_
      refine lv_iload_n hx hb dX1_takerBefore_31 rfl (lv_at hl 1 rfl) ?_
      obtain ⟨h_17, hf⟩ := gd_of hf
      obtain ⟨h_19, hf⟩ := gd_of hf
      refine x_ald22 hx hb hG hw h_17 h_19 dX1_takerBefore_32 ?_
      obtain ⟨k_18, ek_18⟩ : ∃ z : Nat, z = p1.toNatClampNeg := ⟨_, rfl⟩
      rw [← ek_18]
      replace hf := bnd_of ek_18 hf
      have hc_20 : k_18 < nC S := by rw [ek_18]; exact x_lt h_19
      obtain ⟨r_22, h_21, hf⟩ := bind_of hf
      refine cVN (As := [.ref (a (50 + k_18))]) (rest := []) ⟨hx, hb, hml, hown, hts⟩ hG hA hw (c_X0_isForSame G l a ha R S k_14 k_18 r_22 h_21) ⟨va_cnB 1 hts gX1_takerBefore_X0_isForSame_n95 rfl rfl rfl (hG.2.1 (.methodLinkNest "DutyDesk$Calls" 95 yX0_isForSame "DutyDesk") (List.mem_of_getElem? (i := 92) rfl)) (hts (.initialized RX0) (List.mem_of_getElem? (i := 3) rfl)) (by decide +kernel) ⟨Nat.le_of_ble_eq_true rfl, Nat.le_of_ble_eq_true rfl⟩, hts (.instanceMethod yX0_isForSame) (List.mem_of_getElem? (i := 2) rfl), hts (.selects RX0 yX0_isForSame yX0_isForSame) (List.mem_of_getElem? (i := 4) rfl)⟩ (va_recv hG.1 hw.1 (ci := 0) (q0 := 45 + k_14) rfl (xw_atC hc_16)) rfl hl.1 rfl (Nat.le_of_ble_eq_true rfl) dX1_takerBefore_33 ⟨Nat.zero_le _, Nat.zero_le _⟩ (fun H locs hw => ?_)
      refine lv_if_eq (tgt := 49) hx hb dX1_takerBefore_36 (by decide) (fun c_23 => ?_) (fun c_23 => ?_)
      · replace hf := if_t c_23 hf
        obtain ⟨x_24, ex_24⟩ : ∃ z : Int32, z = v_2 + (-1) := ⟨_, rfl⟩
        replace hf := bnd_of ex_24 hf
        refine lv_iinc (v := x_24) (lv' := [(2, .int x_24), (0, .ref (a 6)), (1, .int p1)]) hx hb dX1_takerBefore_49 hl (k := 2) rfl (by rw [ex_24]; rfl) (by decide) rfl (fun ls hl => ?_)
        refine lv_goto (tgt := 4) hx hb dX1_takerBefore_52 (by decide) ?_
        have e_25 := Option.some.inj hf
        exact hz1_0_4 _ e_25.symm _ _ _ hw (lv_sub hl [1, 2, 0] rfl)
      · replace hf := if_f c_23 hf
        refine lv_aload_n hx hb dX1_takerBefore_39 rfl (lv_at hl 0 rfl) ?_
        refine va_get (D := G.1) (ci := 1) (v := .ref (a 22)) (C := RX1) (T := TX1) (N := 7) hx hb hts hin1 hown hG.1 hw.1 6 rfl rfl 3 (by decide) (hts (.fieldLink RX1 11 "DutyDesk$Calls" "list" "[LDutyDesk$Call;") (List.mem_of_getElem? (i := 1) rfl)) (fun _ h9 => h9) rfl dX1_takerBefore_40 ?_
        refine lv_iload_n hx hb dX1_takerBefore_43 rfl (lv_at hl 2 rfl) ?_
        obtain ⟨h_26, hf⟩ := gd_of hf
        obtain ⟨h_28, hf⟩ := gd_of hf
        refine x_ald22 hx hb hG hw h_26 h_28 dX1_takerBefore_44 ?_
        obtain ⟨k_27, ek_27⟩ : ∃ z : Nat, z = v_2.toNatClampNeg := ⟨_, rfl⟩
        rw [← ek_27]
        replace hf := bnd_of ek_27 hf
        have hc_29 : k_27 < nC S := by rw [ek_27]; exact x_lt h_28
        refine va_getN (D := G.1) (ci := 0) (v := .int (gC S k_27 10)) (C := RX0) (T := TX0) (N := 15) (host := "DutyDesk") hx hb hts hin0 hown hG.1 hw.1 (45 + k_27) (xw_atC hc_29) rfl 10 (by decide) (va_Nw.use rfl (hG.2.1 (.fieldLinkNest "DutyDesk$Calls" 99 "DutyDesk$Call" "taker" "I" "DutyDesk") (List.mem_of_getElem? (i := 37) rfl))) (fun _ h9 => h9) rfl dX1_takerBefore_45 ?_
        have e_30 := Option.some.inj hf
        have e_31 := hz2_0_4 _ e_30.symm
        subst e_31
        exact wd_iret hx hb hr hlocks hw dX1_takerBefore_48
/-! DutyDesk$Calls.firstByOrder(LDutyDesk$Call;II)I -/
def rm_X1_firstByOrder : Room := { frames := 2, cells := 0, slots := 0, locals := 45 }
def f_X1_firstByOrder_J72 (y_1 : Nat) (y_3 : Int32) (z_4 : Nat) (S_5 : St) (y_11 : Int32) (y_12 : Int32) (y_13 : Int32) (z_14 : Int32) : Option ((Int32 × Int32 × Int32) ⊕ (Int32 × St)) :=
  gn y_1 (nC S_5) (ga z_4 ((f_X7_hasBit y_3 y_13).bind (fun r_18 => (if r_18 = 0 then
    bnd (y_13 + 1) fun x_20 => some (.inl (y_11, y_12, x_20))
  else
    (if y_11 = (-1) then
    bnd (y_13 + 1) fun x_23 => some (.inl (y_13, z_14, x_23))
  else
    (if y_12 ≤ z_14 then
    bnd (y_13 + 1) fun x_26 => some (.inl (y_11, y_12, x_26))
  else
    bnd (y_13 + 1) fun x_28 => some (.inl (y_13, z_14, x_28))))))))
def f_X1_firstByOrder_J57 (y_1 : Nat) (y_3 : Int32) (z_4 : Nat) (S_5 : St) (y_30 : Int32) (y_31 : Int32) (y_32 : Int32) : Option ((Int32 × Int32 × Int32) ⊕ (Int32 × St)) :=
  gn y_1 (nC S_5) (ga z_4 (gd y_32 24 (f_X1_firstByOrder_J72 y_1 y_3 z_4 S_5 y_30 y_31 y_32 (gM S_5 z_4 y_32.toNatClampNeg))))
def f_X1_firstByOrder_L36 (y_1 : Nat) (y_2 : Int32) (y_3 : Int32) (z_4 : Nat) (S_5 : St) : (Int32 × Int32 × Int32) → Option ((Int32 × Int32 × Int32) ⊕ (Int32 × St))
  | (v_8, v_9, v_10) =>
  (if (gI S_5 11) ≤ v_10 then
    some (.inr ((v_8, S_5)))
  else
    (if y_2 = 0 then
    f_X1_firstByOrder_J57 y_1 y_3 z_4 S_5 v_8 v_9 v_10
  else
    (if y_2 = 1 then
    f_X1_firstByOrder_J57 y_1 y_3 z_4 S_5 v_8 v_9 v_10
  else
    (f_X1_minutesTo S_5 y_1 v_10).bind (fun r_42 => f_X1_firstByOrder_J72 y_1 y_3 z_4 S_5 v_8 v_9 v_10 r_42))))
def f_X1_firstByOrder_J25 (y_1 : Nat) (y_2 : Int32) (y_3 : Int32) (z_4 : Nat) (S_5 : St) : Option (Int32 × St) :=
  gn y_1 (nC S_5) (ga z_4 (loopF (f_X1_firstByOrder_L36 y_1 y_2 y_3 z_4 S_5) FU ((-1), 0, 0)))
def f_X1_firstByOrder (S : St) (p1 : Nat) (p2 : Int32) (p3 : Int32) : Option (Int32 × St) :=
  gn p1 (nC S) ((if p2 = 0 then
    (f_X2_tallyUpTo S (gC S p1 0)).bind (fun S_46 => gn p1 (nC S_46) (f_X1_firstByOrder_J25 p1 p2 p3 20 S_46))
  else
    f_X1_firstByOrder_J25 p1 p2 p3 14 S))
set_option maxHeartbeats 4000000 in
set_option maxRecDepth 100000 in
theorem c_X1_firstByOrder (G : GP) (l : Launch) (a : Nat → Nat) (ha : a 45 = G.2.2.1) (R : va_W) (S : St) (p1 : Nat) (p2 : Int32) (p3 : Int32) (r0 : Int32) (S9 : St) (hf : f_X1_firstByOrder S p1 p2 p3 = some (r0, S9)) : MC G l yX1_firstByOrder wsX1_firstByOrder rm_X1_firstByOrder [.ref (a 6), .ref (a (50 + p1)), .int p2, .int p3] (xw G.2.1 a R S) (xw G.2.1 a R S9) (some (.int r0)) 0 0 := by
  refine MC.mk (cc := cX1_firstByOrder) (maxL := 9) (ret := (some .int)) (by decide) rfl (Nat.le_of_ble_eq_true rfl) ?_
  intro p e s m below meth c A ls ⟨hx, hb, hr, hml, hown, hlocks, _, hts⟩ hw hG hA hl
  have hl : lv_has ls 9 [(0, .ref (a 6)), (1, .ref (a (50 + p1))), (2, .int p2), (3, .int p3)] := hl
  have hin0 : ∀ w ∈ u_ws RX0 TX0 15, w ∈ wsX1_firstByOrder := by decide +kernel
  have hin1 : ∀ w ∈ u_ws RX1 TX1 7, w ∈ wsX1_firstByOrder := by decide +kernel
  have hin3 : ∀ w ∈ u_ws RX3 TX3 8, w ∈ wsX1_firstByOrder := by decide +kernel
  rw [f_X1_firstByOrder] at hf
  have j25 : ∀ (y_1 : Nat) (y_2 : Int32) (y_3 : Int32) (z_4 : Nat) (S_5 : St) (H : Heap) (locs : List Loc) (ls : Array Slot), f_X1_firstByOrder_J25 y_1 y_2 y_3 z_4 S_5 = some (r0, S9) → Wd G A s H locs (xw G.2.1 a R S_5) → lv_has ls 9 [(0, .ref (a 6)), (1, .ref (a (50 + y_1))), (2, .int y_2), (3, .int y_3)] → WQ p l e rm_X1_firstByOrder s m [.ref (a 6), .ref (a (50 + p1)), .int p2, .int p3] below meth c G A (xw G.2.1 a R S9) (some (.int r0)) 0 0 H locs 0 0 (F0 m 25 ls [.ref (a z_4)]) := by
    intro y_1 y_2 y_3 z_4 S_5 H locs ls hf hw hl
    rw [f_X1_firstByOrder_J25] at hf
    obtain ⟨hc_6, hf⟩ := gn_of hf
    obtain ⟨hv_7, hf⟩ := ga_of hf
    refine lv_astore (lv' := [(4, .ref (a z_4)), (0, .ref (a 6)), (1, .ref (a (50 + y_1))), (2, .int y_2), (3, .int y_3)]) hx hb dX1_firstByOrder_25 hl (by decide) rfl (fun ls hl => ?_)
    refine lv_iconst (v := (-1)) hx hb dX1_firstByOrder_27 (by decide) ?_
    refine lv_istore (lv' := [(5, .int (-1)), (4, .ref (a z_4)), (0, .ref (a 6)), (1, .ref (a (50 + y_1))), (2, .int y_2), (3, .int y_3)]) hx hb dX1_firstByOrder_28 hl (by decide) rfl (fun ls hl => ?_)
    refine lv_iconst (v := 0) hx hb dX1_firstByOrder_30 (by decide) ?_
    refine lv_istore (lv' := [(6, .int 0), (5, .int (-1)), (4, .ref (a z_4)), (0, .ref (a 6)), (1, .ref (a (50 + y_1))), (2, .int y_2), (3, .int y_3)]) hx hb dX1_firstByOrder_31 hl (by decide) rfl (fun ls hl => ?_)
    refine lv_iconst (v := 0) hx hb dX1_firstByOrder_33 (by decide) ?_
    refine lv_istore (lv' := [(7, .int 0), (6, .int 0), (5, .int (-1)), (4, .ref (a z_4)), (0, .ref (a 6)), (1, .ref (a (50 + y_1))), (2, .int y_2), (3, .int y_3)]) hx hb dX1_firstByOrder_34 hl (by decide) rfl (fun ls hl => ?_)
    refine loopF_ind (body := f_X1_firstByOrder_L36 y_1 y_2 y_3 z_4 S_5) (fun (q : Int32 × Int32 × Int32) => match q with | (v_8, v_9, v_10) => ∀ (H : Heap) (locs : List Loc) (ls : Array Slot), Wd G A s H locs (xw G.2.1 a R S_5) → lv_has ls 9 [(0, .ref (a 6)), (1, .ref (a (50 + y_1))), (2, .int y_2), (3, .int y_3), (4, .ref (a z_4)), (5, .int v_8), (6, .int v_9), (7, .int v_10)] → WQ p l e rm_X1_firstByOrder s m [.ref (a 6), .ref (a (50 + p1)), .int p2, .int p3] below meth c G A (xw G.2.1 a R S9) (some (.int r0)) 0 0 H locs 0 0 (F0 m 36 ls [])) ?_ FU ((-1), 0, 0) hf _ _ _ hw (lv_sub hl [4, 5, 6, 7, 3, 2, 1, 0] rfl)
    clear hf hw hl
    intro ⟨v_8, v_9, v_10⟩ t0_36 hf hz1_0_36 hz2_0_36 H locs ls hw hl
    rw [f_X1_firstByOrder_L36] at hf
    have j72 : ∀ (y_11 : Int32) (y_12 : Int32) (y_13 : Int32) (z_14 : Int32) (H : Heap) (locs : List Loc) (ls : Array Slot), f_X1_firstByOrder_J72 y_1 y_3 z_4 S_5 y_11 y_12 y_13 z_14 = some t0_36 → Wd G A s H locs (xw G.2.1 a R S_5) → lv_has ls 9 [(0, .ref (a 6)), (1, .ref (a (50 + y_1))), (2, .int y_2), (3, .int y_3), (4, .ref (a z_4)), (5, .int y_11), (6, .int y_12), (7, .int y_13)] → WQ p l e rm_X1_firstByOrder s m [.ref (a 6), .ref (a (50 + p1)), .int p2, .int p3] below meth c G A (xw G.2.1 a R S9) (some (.int r0)) 0 0 H locs 0 0 (F0 m 72 ls [.int z_14]) := by
      intro y_11 y_12 y_13 z_14 H locs ls hf hw hl
      rw [f_X1_firstByOrder_J72] at hf
      obtain ⟨hc_15, hf⟩ := gn_of hf
      obtain ⟨hv_16, hf⟩ := ga_of hf
      refine lv_istore (lv' := [(8, .int z_14), (0, .ref (a 6)), (1, .ref (a (50 + y_1))), (2, .int y_2), (3, .int y_3), (4, .ref (a z_4)), (5, .int y_11), (6, .int y_12), (7, .int y_13)]) hx hb dX1_firstByOrder_72 hl (by decide) rfl (fun ls hl => ?_)
      refine lv_iload_n hx hb dX1_firstByOrder_74 rfl (lv_at hl 4 rfl) ?_
      refine lv_iload hx hb dX1_firstByOrder_75 (lv_at hl 8 rfl) ?_
      obtain ⟨r_18, h_17, hf⟩ := bind_of hf
      refine cSN (As := [.int y_3, .int y_13]) (rest := []) ⟨hx, hb, hml, hown, hts⟩ hG hA hw (c_X7_hasBit G l _ y_3 y_13 r_18 h_17) ⟨va_cnB 2 hts gX1_firstByOrder_X7_hasBit_n73 rfl rfl rfl (hG.2.1 (.methodLinkNest "DutyDesk$Calls" 73 yX7_hasBit "DutyDesk") (List.mem_of_getElem? (i := 86) rfl)) (hts (.initialized RX7) (List.mem_of_getElem? (i := 29) rfl)) (by decide +kernel) ⟨Nat.le_of_ble_eq_true rfl, Nat.le_of_ble_eq_true rfl⟩, hts (.static yX7_hasBit) (List.mem_of_getElem? (i := 28) rfl), trivial⟩ rfl hl.1 rfl (Nat.le_of_ble_eq_true rfl) dX1_firstByOrder_77 ⟨Nat.zero_le _, Nat.zero_le _⟩ (fun H locs hw => ?_)
      refine lv_if_eq (tgt := 104) hx hb dX1_firstByOrder_80 (by decide) (fun c_19 => ?_) (fun c_19 => ?_)
      · replace hf := if_t c_19 hf
        obtain ⟨x_20, ex_20⟩ : ∃ z : Int32, z = y_13 + 1 := ⟨_, rfl⟩
        replace hf := bnd_of ex_20 hf
        refine lv_iinc (v := x_20) (lv' := [(7, .int x_20), (8, .int z_14), (0, .ref (a 6)), (1, .ref (a (50 + y_1))), (2, .int y_2), (3, .int y_3), (4, .ref (a z_4)), (5, .int y_11), (6, .int y_12)]) hx hb dX1_firstByOrder_104 hl (k := 8) rfl (by rw [ex_20]; rfl) (by decide) rfl (fun ls hl => ?_)
        refine lv_goto (tgt := 36) hx hb dX1_firstByOrder_107 (by decide) ?_
        have e_21 := Option.some.inj hf
        exact hz1_0_36 _ e_21.symm _ _ _ hw (lv_sub hl [2, 3, 4, 5, 6, 7, 8, 0] rfl)
      · replace hf := if_f c_19 hf
        refine lv_iload hx hb dX1_firstByOrder_83 (lv_at hl 6 rfl) ?_
        refine lv_iconst (v := (-1)) hx hb dX1_firstByOrder_85 (by decide) ?_
        refine lv_icmp_eq (tgt := 96) hx hb dX1_firstByOrder_86 (by decide) (fun c_22 => ?_) (fun c_22 => ?_)
        · replace hf := if_t c_22 hf
          refine lv_iload hx hb dX1_firstByOrder_96 (lv_at hl 8 rfl) ?_
          refine lv_istore (lv' := [(5, .int y_13), (8, .int z_14), (0, .ref (a 6)), (1, .ref (a (50 + y_1))), (2, .int y_2), (3, .int y_3), (4, .ref (a z_4)), (6, .int y_12), (7, .int y_13)]) hx hb dX1_firstByOrder_98 hl (by decide) rfl (fun ls hl => ?_)
          refine lv_iload hx hb dX1_firstByOrder_100 (lv_at hl 1 rfl) ?_
          refine lv_istore (lv' := [(6, .int z_14), (5, .int y_13), (8, .int z_14), (0, .ref (a 6)), (1, .ref (a (50 + y_1))), (2, .int y_2), (3, .int y_3), (4, .ref (a z_4)), (7, .int y_13)]) hx hb dX1_firstByOrder_102 hl (by decide) rfl (fun ls hl => ?_)
          obtain ⟨x_23, ex_23⟩ : ∃ z : Int32, z = y_13 + 1 := ⟨_, rfl⟩
          replace hf := bnd_of ex_23 hf
          refine lv_iinc (v := x_23) (lv' := [(7, .int x_23), (6, .int z_14), (5, .int y_13), (8, .int z_14), (0, .ref (a 6)), (1, .ref (a (50 + y_1))), (2, .int y_2), (3, .int y_3), (4, .ref (a z_4))]) hx hb dX1_firstByOrder_104 hl (k := 8) rfl (by rw [ex_23]; rfl) (by decide) rfl (fun ls hl => ?_)
          refine lv_goto (tgt := 36) hx hb dX1_firstByOrder_107 (by decide) ?_
          have e_24 := Option.some.inj hf
          exact hz1_0_36 _ e_24.symm _ _ _ hw (lv_sub hl [4, 5, 6, 7, 8, 2, 1, 0] rfl)
        · replace hf := if_f c_22 hf
          refine lv_iload hx hb dX1_firstByOrder_89 (lv_at hl 0 rfl) ?_
          refine lv_iload hx hb dX1_firstByOrder_91 (lv_at hl 7 rfl) ?_
          refine lv_icmp_ge (tgt := 104) hx hb dX1_firstByOrder_93 (by decide) (fun c_25 => ?_) (fun c_25 => ?_)
          · replace hf := if_t c_25 hf
            obtain ⟨x_26, ex_26⟩ : ∃ z : Int32, z = y_13 + 1 := ⟨_, rfl⟩
            replace hf := bnd_of ex_26 hf
            refine lv_iinc (v := x_26) (lv' := [(7, .int x_26), (8, .int z_14), (0, .ref (a 6)), (1, .ref (a (50 + y_1))), (2, .int y_2), (3, .int y_3), (4, .ref (a z_4)), (5, .int y_11), (6, .int y_12)]) hx hb dX1_firstByOrder_104 hl (k := 8) rfl (by rw [ex_26]; rfl) (by decide) rfl (fun ls hl => ?_)
            refine lv_goto (tgt := 36) hx hb dX1_firstByOrder_107 (by decide) ?_
            have e_27 := Option.some.inj hf
            exact hz1_0_36 _ e_27.symm _ _ _ hw (lv_sub hl [2, 3, 4, 5, 6, 7, 8, 0] rfl)
          · replace hf := if_f c_25 hf
            refine lv_iload hx hb dX1_firstByOrder_96 (lv_at hl 8 rfl) ?_
            refine lv_istore (lv' := [(5, .int y_13), (8, .int z_14), (0, .ref (a 6)), (1, .ref (a (50 + y_1))), (2, .int y_2), (3, .int y_3), (4, .ref (a z_4)), (6, .int y_12), (7, .int y_13)]) hx hb dX1_firstByOrder_98 hl (by decide) rfl (fun ls hl => ?_)
            refine lv_iload hx hb dX1_firstByOrder_100 (lv_at hl 1 rfl) ?_
            refine lv_istore (lv' := [(6, .int z_14), (5, .int y_13), (8, .int z_14), (0, .ref (a 6)), (1, .ref (a (50 + y_1))), (2, .int y_2), (3, .int y_3), (4, .ref (a z_4)), (7, .int y_13)]) hx hb dX1_firstByOrder_102 hl (by decide) rfl (fun ls hl => ?_)
            obtain ⟨x_28, ex_28⟩ : ∃ z : Int32, z = y_13 + 1 := ⟨_, rfl⟩
            replace hf := bnd_of ex_28 hf
            refine lv_iinc (v := x_28) (lv' := [(7, .int x_28), (6, .int z_14), (5, .int y_13), (8, .int z_14), (0, .ref (a 6)), (1, .ref (a (50 + y_1))), (2, .int y_2), (3, .int y_3), (4, .ref (a z_4))]) hx hb dX1_firstByOrder_104 hl (k := 8) rfl (by rw [ex_28]; rfl) (by decide) rfl (fun ls hl => ?_)
            refine lv_goto (tgt := 36) hx hb dX1_firstByOrder_107 (by decide) ?_
            have e_29 := Option.some.inj hf
            exact hz1_0_36 _ e_29.symm _ _ _ hw (lv_sub hl [4, 5, 6, 7, 8, 2, 1, 0] rfl)
    have j57 : ∀ (y_30 : Int32) (y_31 : Int32) (y_32 : Int32) (H : Heap) (locs : List Loc) (ls : Array Slot), f_X1_firstByOrder_J57 y_1 y_3 z_4 S_5 y_30 y_31 y_32 = some t0_36 → Wd G A s H locs (xw G.2.1 a R S_5) → lv_has ls 9 [(0, .ref (a 6)), (1, .ref (a (50 + y_1))), (2, .int y_2), (3, .int y_3), (4, .ref (a z_4)), (5, .int y_30), (6, .int y_31), (7, .int y_32)] → WQ p l e rm_X1_firstByOrder s m [.ref (a 6), .ref (a (50 + p1)), .int p2, .int p3] below meth c G A (xw G.2.1 a R S9) (some (.int r0)) 0 0 H locs 0 0 (F0 m 57 ls []) := by
      intro y_30 y_31 y_32 H locs ls hf hw hl
      rw [f_X1_firstByOrder_J57] at hf
      obtain ⟨hc_33, hf⟩ := gn_of hf
      obtain ⟨hv_34, hf⟩ := ga_of hf
      refine lv_aload hx hb dX1_firstByOrder_57 (lv_at hl 4 rfl) ?_
      refine lv_iload hx hb dX1_firstByOrder_59 (lv_at hl 7 rfl) ?_
      obtain ⟨h_35, hf⟩ := gd_of hf
      refine va_iald hx hb hG.1 hw.1 z_4 1 (xw_at24 hv_34) rfl h_35 dX1_firstByOrder_61 ?_
      refine lv_goto (tgt := 72) hx hb dX1_firstByOrder_62 (by decide) ?_
      exact j72 y_30 y_31 y_32 (gM S_5 z_4 y_32.toNatClampNeg) _ _ _ hf hw (lv_sub hl [0, 1, 2, 3, 4, 5, 6, 7] rfl)
    refine lv_iload hx hb dX1_firstByOrder_36 (lv_at hl 7 rfl) ?_
    refine lv_aload_n hx hb dX1_firstByOrder_38 rfl (lv_at hl 0 rfl) ?_
    refine va_get (D := G.1) (ci := 1) (v := .ref (a 3)) (C := RX1) (T := TX1) (N := 7) hx hb hts hin1 hown hG.1 hw.1 6 rfl rfl 0 (by decide) (hts (.fieldLink RX1 24 "DutyDesk$Calls" "people" "LDutyDesk$People;") (List.mem_of_getElem? (i := 2) rfl)) (fun _ h9 => h9) rfl dX1_firstByOrder_39 ?_
    refine va_getN (D := G.1) (ci := 3) (v := .int (gI S_5 11)) (C := RX3) (T := TX3) (N := 8) (host := "DutyDesk") hx hb hts hin3 hown hG.1 hw.1 3 rfl rfl 7 (by decide) (va_Nw.use rfl (hG.2.1 (.fieldLinkNest "DutyDesk$Calls" 89 "DutyDesk$People" "size" "I" "DutyDesk") (List.mem_of_getElem? (i := 14) rfl))) (fun _ h9 => h9) rfl dX1_firstByOrder_42 ?_
    refine lv_icmp_ge (tgt := 110) hx hb dX1_firstByOrder_45 (by decide) (fun c_36 => ?_) (fun c_36 => ?_)
    · replace hf := if_t c_36 hf
      refine lv_iload hx hb dX1_firstByOrder_110 (lv_at hl 5 rfl) ?_
      have e_37 := Option.some.inj hf
      have e_38 := hz2_0_36 _ e_37.symm
      obtain ⟨rfl, rfl⟩ := Prod.mk.inj e_38
      exact wd_iret hx hb hr hlocks hw dX1_firstByOrder_112
    · replace hf := if_f c_36 hf
      refine lv_iload_n hx hb dX1_firstByOrder_48 rfl (lv_at hl 2 rfl) ?_
      refine lv_if_eq (tgt := 57) hx hb dX1_firstByOrder_49 (by decide) (fun c_39 => ?_) (fun c_39 => ?_)
      · replace hf := if_t c_39 hf
        exact j57 v_8 v_9 v_10 _ _ _ hf hw (lv_sub hl [0, 1, 2, 3, 4, 5, 6, 7] rfl)
      · replace hf := if_f c_39 hf
        refine lv_iload_n hx hb dX1_firstByOrder_52 rfl (lv_at hl 2 rfl) ?_
        refine lv_iconst (v := 1) hx hb dX1_firstByOrder_53 (by decide) ?_
        refine lv_icmp_ne (tgt := 65) hx hb dX1_firstByOrder_54 (by decide) (fun c_40 => ?_) (fun c_40 => ?_)
        · replace hf := if_f c_40 hf
          refine lv_aload_n hx hb dX1_firstByOrder_65 rfl (lv_at hl 0 rfl) ?_
          refine lv_aload_n hx hb dX1_firstByOrder_66 rfl (lv_at hl 1 rfl) ?_
          refine lv_iload hx hb dX1_firstByOrder_67 (lv_at hl 7 rfl) ?_
          obtain ⟨r_42, h_41, hf⟩ := bind_of hf
          refine cV (As := [.ref (a (50 + y_1)), .int v_10]) (rest := []) ⟨hx, hb, hml, hown, hts⟩ hG hA hw (c_X1_minutesTo G l a ha R S_5 y_1 v_10 r_42 h_41) (cwV 2 hts gX1_firstByOrder_X1_minutesTo rfl rfl rfl (by decide +kernel) ⟨Nat.le_of_ble_eq_true rfl, Nat.le_of_ble_eq_true rfl⟩) (va_recv hG.1 hw.1 (ci := 1) (q0 := 6) rfl rfl) rfl hl.1 rfl (Nat.le_of_ble_eq_true rfl) dX1_firstByOrder_69 ⟨Nat.zero_le _, Nat.zero_le _⟩ (fun H locs hw => ?_)
          exact j72 v_8 v_9 v_10 r_42 _ _ _ hf hw (lv_sub hl [0, 1, 2, 3, 4, 5, 6, 7] rfl)
        · replace hf := if_t c_40 hf
          exact j57 v_8 v_9 v_10 _ _ _ hf hw (lv_sub hl [0, 1, 2, 3, 4, 5, 6, 7] rfl)
  obtain ⟨hc_43, hf⟩ := gn_of hf
  refine lv_iload_n hx hb dX1_firstByOrder_0 rfl (lv_at hl 2 rfl) ?_
  refine lv_if_ne (tgt := 18) hx hb dX1_firstByOrder_1 (by decide) (fun c_44 => ?_) (fun c_44 => ?_)
  · replace hf := if_f c_44 hf
    refine lv_aload_n hx hb dX1_firstByOrder_18 rfl (lv_at hl 0 rfl) ?_
    refine va_get (D := G.1) (ci := 1) (v := .ref (a 3)) (C := RX1) (T := TX1) (N := 7) hx hb hts hin1 hown hG.1 hw.1 6 rfl rfl 0 (by decide) (hts (.fieldLink RX1 24 "DutyDesk$Calls" "people" "LDutyDesk$People;") (List.mem_of_getElem? (i := 2) rfl)) (fun _ h9 => h9) rfl dX1_firstByOrder_19 ?_
    refine va_getN (D := G.1) (ci := 3) (v := .ref (a 14)) (C := RX3) (T := TX3) (N := 8) (host := "DutyDesk") hx hb hts hin3 hown hG.1 hw.1 3 rfl rfl 4 (by decide) (va_Nw.use rfl (hG.2.1 (.fieldLinkNest "DutyDesk$Calls" 105 "DutyDesk$People" "taken" "[I" "DutyDesk") (List.mem_of_getElem? (i := 11) rfl))) (fun _ h9 => h9) rfl dX1_firstByOrder_22 ?_
    exact j25 p1 p2 p3 14 S _ _ _ hf hw (lv_sub hl [0, 1, 2, 3] rfl)
  · replace hf := if_t c_44 hf
    refine lv_aload_n hx hb dX1_firstByOrder_4 rfl (lv_at hl 0 rfl) ?_
    refine va_get (D := G.1) (ci := 1) (v := .ref (a 4)) (C := RX1) (T := TX1) (N := 7) hx hb hts hin1 hown hG.1 hw.1 6 rfl rfl 2 (by decide) (hts (.fieldLink RX1 32 "DutyDesk$Calls" "nights" "LDutyDesk$Nights;") (List.mem_of_getElem? (i := 1) rfl)) (fun _ h9 => h9) rfl dX1_firstByOrder_5 ?_
    refine lv_aload_n hx hb dX1_firstByOrder_8 rfl (lv_at hl 1 rfl) ?_
    refine va_getN (D := G.1) (ci := 0) (v := .int (gC S p1 0)) (C := RX0) (T := TX0) (N := 15) (host := "DutyDesk") hx hb hts hin0 hown hG.1 hw.1 (45 + p1) (xw_atC hc_43) rfl 0 (by decide) (va_Nw.use rfl (hG.2.1 (.fieldLinkNest "DutyDesk$Calls" 44 "DutyDesk$Call" "day" "I" "DutyDesk") (List.mem_of_getElem? (i := 23) rfl))) (fun _ h9 => h9) rfl dX1_firstByOrder_9 ?_
    obtain ⟨S_46, h_45, hf⟩ := bind_of hf
    refine cVN (As := [.int (gC S p1 0)]) (rest := []) ⟨hx, hb, hml, hown, hts⟩ hG hA hw (c_X2_tallyUpTo G l a ha R S (gC S p1 0) S_46 h_45) ⟨va_cnB 1 hts gX1_firstByOrder_X2_tallyUpTo_n102 rfl rfl rfl (hG.2.1 (.methodLinkNest "DutyDesk$Calls" 102 yX2_tallyUpTo "DutyDesk") (List.mem_of_getElem? (i := 94) rfl)) (hts (.initialized RX2) (List.mem_of_getElem? (i := 4) rfl)) (by decide +kernel) ⟨Nat.le_of_ble_eq_true rfl, Nat.le_of_ble_eq_true rfl⟩, hts (.instanceMethod yX2_tallyUpTo) (List.mem_of_getElem? (i := 3) rfl), hts (.selects RX2 yX2_tallyUpTo yX2_tallyUpTo) (List.mem_of_getElem? (i := 5) rfl)⟩ (va_recv hG.1 hw.1 (ci := 2) (q0 := 4) rfl rfl) rfl hl.1 rfl (Nat.le_of_ble_eq_true rfl) dX1_firstByOrder_12 ⟨Nat.zero_le _, Nat.zero_le _⟩ (fun H locs hw => ?_)
    obtain ⟨hc_47, hf⟩ := gn_of hf
    refine lv_goto (tgt := 25) hx hb dX1_firstByOrder_15 (by decide) ?_
    exact j25 p1 p2 p3 20 S_46 _ _ _ hf hw (lv_sub hl [0, 1, 2, 3] rfl)
/-! DutyDesk$Calls.whoIsNext(I)I -/
def rm_X1_whoIsNext : Room := { frames := 5, cells := 0, slots := 0, locals := 118 }
def f_X1_whoIsNext_J92 (y_1 : Nat) (y_2 : Nat) (y_3 : Int32) (S_4 : St) : Option (Int32 × St) :=
  gn y_1 (nC S_4) (gk y_2 (gd 9 12 ((f_X1_firstByOrder S_4 y_1 (gT S_4 y_2 (9 : Int32).toNatClampNeg) y_3).bind (fun (r_9, S_10) => gn y_1 (nC S_10) (some ((r_9, S_10)))))))
def f_X1_whoIsNext_J56 (y_13 : Nat) (y_14 : Nat) (y_15 : Int32) (S_16 : St) : Option (Int32 × St) :=
  gn y_13 (nC S_16) (gk y_14 ((f_X2_holder S_16 (gC S_16 y_13 1) (gC S_16 y_13 0)).bind (fun r_20 => (if r_20 = (-1) then
    f_X1_whoIsNext_J92 y_13 y_14 y_15 S_16
  else
    (f_X7_hasBit y_15 r_20).bind (fun r_23 => (if r_23 = 0 then
    f_X1_whoIsNext_J92 y_13 y_14 y_15 S_16
  else
    some ((r_20, S_16))))))))
def f_X1_whoIsNext (S : St) (p1 : Int32) : Option (Int32 × St) :=
  gd p1 150 (gd p1 (nC S) (bnd (p1.toNatClampNeg) fun k_27 => (f_X6_textNow S (gC S k_27 0)).bind (fun r_31 => gk r_31 (gd 10 12 ((f_X1_whoMayBeAsked S k_27 (gT S r_31 (10 : Int32).toNatClampNeg)).bind (fun r_35 => (f_X1_takerBefore S p1).bind (fun r_37 => (if r_37 = (-1) then
    f_X1_whoIsNext_J56 k_27 r_31 r_35 S
  else
    (f_X7_hasBit r_35 r_37).bind (fun r_40 => (if r_40 = 0 then
    f_X1_whoIsNext_J56 k_27 r_31 r_35 S
  else
    some ((r_37, S))))))))))))
set_option maxHeartbeats 4000000 in
set_option maxRecDepth 100000 in
theorem c_X1_whoIsNext (G : GP) (l : Launch) (a : Nat → Nat) (ha : a 45 = G.2.2.1) (R : va_W) (S : St) (p1 : Int32) (r0 : Int32) (S9 : St) (hf : f_X1_whoIsNext S p1 = some (r0, S9)) : MC G l yX1_whoIsNext wsX1_whoIsNext rm_X1_whoIsNext [.ref (a 6), .int p1] (xw G.2.1 a R S) (xw G.2.1 a R S9) (some (.int r0)) 0 0 := by
  refine MC.mk (cc := cX1_whoIsNext) (maxL := 7) (ret := (some .int)) (by decide) rfl (Nat.le_of_ble_eq_true rfl) ?_
  intro p e s m below meth c A ls ⟨hx, hb, hr, hml, hown, hlocks, _, hts⟩ hw hG hA hl
  have hl : lv_has ls 7 [(0, .ref (a 6)), (1, .int p1)] := hl
  have hin0 : ∀ w ∈ u_ws RX0 TX0 15, w ∈ wsX1_whoIsNext := by decide +kernel
  have hin1 : ∀ w ∈ u_ws RX1 TX1 7, w ∈ wsX1_whoIsNext := by decide +kernel
  rw [f_X1_whoIsNext] at hf
  have j92 : ∀ (y_1 : Nat) (y_2 : Nat) (y_3 : Int32) (S_4 : St) (H : Heap) (locs : List Loc) (ls : Array Slot), f_X1_whoIsNext_J92 y_1 y_2 y_3 S_4 = some (r0, S9) → Wd G A s H locs (xw G.2.1 a R S_4) → lv_has ls 7 [(0, .ref (a 6)), (2, .ref (a (50 + y_1))), (3, .ref (a y_2)), (4, .int y_3)] → WQ p l e rm_X1_whoIsNext s m [.ref (a 6), .int p1] below meth c G A (xw G.2.1 a R S9) (some (.int r0)) 0 0 H locs 0 0 (F0 m 92 ls []) := by
    intro y_1 y_2 y_3 S_4 H locs ls hf hw hl
    rw [f_X1_whoIsNext_J92] at hf
    obtain ⟨hc_5, hf⟩ := gn_of hf
    obtain ⟨ht_6, hf⟩ := gk_of hf
    refine lv_aload_n hx hb dX1_whoIsNext_92 rfl (lv_at hl 0 rfl) ?_
    refine lv_aload_n hx hb dX1_whoIsNext_93 rfl (lv_at hl 1 rfl) ?_
    refine lv_aload_n hx hb dX1_whoIsNext_94 rfl (lv_at hl 2 rfl) ?_
    refine lv_bipush (v := 9) hx hb dX1_whoIsNext_95 (by decide) ?_
    obtain ⟨h_7, hf⟩ := gd_of hf
    refine x_tald hx hb ha hG hw ht_6 h_7 dX1_whoIsNext_97 ?_
    refine lv_iload hx hb dX1_whoIsNext_98 (lv_at hl 3 rfl) ?_
    obtain ⟨⟨r_9, S_10⟩, h_8, hf⟩ := bind_of hf
    replace hf : _ = some _ := hf
    refine cV (As := [.ref (a (50 + y_1)), .int (gT S_4 y_2 (9 : Int32).toNatClampNeg), .int y_3]) (rest := []) ⟨hx, hb, hml, hown, hts⟩ hG hA hw (c_X1_firstByOrder G l a ha R S_4 y_1 (gT S_4 y_2 (9 : Int32).toNatClampNeg) y_3 r_9 S_10 h_8) (cwV 3 hts gX1_whoIsNext_X1_firstByOrder rfl rfl rfl (by decide +kernel) ⟨Nat.le_of_ble_eq_true rfl, Nat.le_of_ble_eq_true rfl⟩) (va_recv hG.1 hw.1 (ci := 1) (q0 := 6) rfl rfl) rfl hl.1 rfl (Nat.le_of_ble_eq_true rfl) dX1_whoIsNext_100 ⟨Nat.zero_le _, Nat.zero_le _⟩ (fun H locs hw => ?_)
    obtain ⟨hc_11, hf⟩ := gn_of hf
    have e_12 := Option.some.inj hf
    obtain ⟨rfl, rfl⟩ := Prod.mk.inj e_12
    exact wd_iret hx hb hr hlocks hw dX1_whoIsNext_103
  have j56 : ∀ (y_13 : Nat) (y_14 : Nat) (y_15 : Int32) (S_16 : St) (H : Heap) (locs : List Loc) (ls : Array Slot), f_X1_whoIsNext_J56 y_13 y_14 y_15 S_16 = some (r0, S9) → Wd G A s H locs (xw G.2.1 a R S_16) → lv_has ls 7 [(0, .ref (a 6)), (2, .ref (a (50 + y_13))), (3, .ref (a y_14)), (4, .int y_15)] → WQ p l e rm_X1_whoIsNext s m [.ref (a 6), .int p1] below meth c G A (xw G.2.1 a R S9) (some (.int r0)) 0 0 H locs 0 0 (F0 m 56 ls []) := by
    intro y_13 y_14 y_15 S_16 H locs ls hf hw hl
    rw [f_X1_whoIsNext_J56] at hf
    obtain ⟨hc_17, hf⟩ := gn_of hf
    obtain ⟨ht_18, hf⟩ := gk_of hf
    refine lv_aload_n hx hb dX1_whoIsNext_56 rfl (lv_at hl 0 rfl) ?_
    refine va_get (D := G.1) (ci := 1) (v := .ref (a 4)) (C := RX1) (T := TX1) (N := 7) hx hb hts hin1 hown hG.1 hw.1 6 rfl rfl 2 (by decide) (hts (.fieldLink RX1 32 "DutyDesk$Calls" "nights" "LDutyDesk$Nights;") (List.mem_of_getElem? (i := 3) rfl)) (fun _ h9 => h9) rfl dX1_whoIsNext_57 ?_
    refine lv_aload_n hx hb dX1_whoIsNext_60 rfl (lv_at hl 1 rfl) ?_
    refine va_getN (D := G.1) (ci := 0) (v := .int (gC S_16 y_13 1)) (C := RX0) (T := TX0) (N := 15) (host := "DutyDesk") hx hb hts hin0 hown hG.1 hw.1 (45 + y_13) (xw_atC hc_17) rfl 1 (by decide) (va_Nw.use rfl (hG.2.1 (.fieldLinkNest "DutyDesk$Calls" 76 "DutyDesk$Call" "panel" "I" "DutyDesk") (List.mem_of_getElem? (i := 25) rfl))) (fun _ h9 => h9) rfl dX1_whoIsNext_61 ?_
    refine lv_aload_n hx hb dX1_whoIsNext_64 rfl (lv_at hl 1 rfl) ?_
    refine va_getN (D := G.1) (ci := 0) (v := .int (gC S_16 y_13 0)) (C := RX0) (T := TX0) (N := 15) (host := "DutyDesk") hx hb hts hin0 hown hG.1 hw.1 (45 + y_13) (xw_atC hc_17) rfl 0 (by decide) (va_Nw.use rfl (hG.2.1 (.fieldLinkNest "DutyDesk$Calls" 44 "DutyDesk$Call" "day" "I" "DutyDesk") (List.mem_of_getElem? (i := 23) rfl))) (fun _ h9 => h9) rfl dX1_whoIsNext_65 ?_
    obtain ⟨r_20, h_19, hf⟩ := bind_of hf
    refine cVN (As := [.int (gC S_16 y_13 1), .int (gC S_16 y_13 0)]) (rest := []) ⟨hx, hb, hml, hown, hts⟩ hG hA hw (c_X2_holder G l a ha R S_16 (gC S_16 y_13 1) (gC S_16 y_13 0) r_20 h_19) ⟨va_cnB 2 hts gX1_whoIsNext_X2_holder_n79 rfl rfl rfl (hG.2.1 (.methodLinkNest "DutyDesk$Calls" 79 yX2_holder "DutyDesk") (List.mem_of_getElem? (i := 93) rfl)) (hts (.initialized RX2) (List.mem_of_getElem? (i := 82) rfl)) (by decide +kernel) ⟨Nat.le_of_ble_eq_true rfl, Nat.le_of_ble_eq_true rfl⟩, hts (.instanceMethod yX2_holder) (List.mem_of_getElem? (i := 81) rfl), hts (.selects RX2 yX2_holder yX2_holder) (List.mem_of_getElem? (i := 83) rfl)⟩ (va_recv hG.1 hw.1 (ci := 2) (q0 := 4) rfl rfl) rfl hl.1 rfl (Nat.le_of_ble_eq_true rfl) dX1_whoIsNext_68 ⟨Nat.zero_le _, Nat.zero_le _⟩ (fun H locs hw => ?_)
    refine lv_istore (lv' := [(6, .int r_20), (0, .ref (a 6)), (2, .ref (a (50 + y_13))), (3, .ref (a y_14)), (4, .int y_15)]) hx hb dX1_whoIsNext_71 hl (by decide) rfl (fun ls hl => ?_)
    refine lv_iload hx hb dX1_whoIsNext_73 (lv_at hl 0 rfl) ?_
    refine lv_iconst (v := (-1)) hx hb dX1_whoIsNext_75 (by decide) ?_
    refine lv_icmp_eq (tgt := 92) hx hb dX1_whoIsNext_76 (by decide) (fun c_21 => ?_) (fun c_21 => ?_)
    · replace hf := if_t c_21 hf
      exact j92 y_13 y_14 y_15 S_16 _ _ _ hf hw (lv_sub hl [1, 2, 3, 4] rfl)
    · replace hf := if_f c_21 hf
      refine lv_iload hx hb dX1_whoIsNext_79 (lv_at hl 4 rfl) ?_
      refine lv_iload hx hb dX1_whoIsNext_81 (lv_at hl 0 rfl) ?_
      obtain ⟨r_23, h_22, hf⟩ := bind_of hf
      refine cSN (As := [.int y_15, .int r_20]) (rest := []) ⟨hx, hb, hml, hown, hts⟩ hG hA hw (c_X7_hasBit G l _ y_15 r_20 r_23 h_22) ⟨va_cnB 2 hts gX1_whoIsNext_X7_hasBit_n73 rfl rfl rfl (hG.2.1 (.methodLinkNest "DutyDesk$Calls" 73 yX7_hasBit "DutyDesk") (List.mem_of_getElem? (i := 86) rfl)) (hts (.initialized RX7) (List.mem_of_getElem? (i := 25) rfl)) (by decide +kernel) ⟨Nat.le_of_ble_eq_true rfl, Nat.le_of_ble_eq_true rfl⟩, hts (.static yX7_hasBit) (List.mem_of_getElem? (i := 24) rfl), trivial⟩ rfl hl.1 rfl (Nat.le_of_ble_eq_true rfl) dX1_whoIsNext_83 ⟨Nat.zero_le _, Nat.zero_le _⟩ (fun H locs hw => ?_)
      refine lv_if_eq (tgt := 92) hx hb dX1_whoIsNext_86 (by decide) (fun c_24 => ?_) (fun c_24 => ?_)
      · replace hf := if_t c_24 hf
        exact j92 y_13 y_14 y_15 S_16 _ _ _ hf hw (lv_sub hl [1, 2, 3, 4] rfl)
      · replace hf := if_f c_24 hf
        refine lv_iload hx hb dX1_whoIsNext_89 (lv_at hl 0 rfl) ?_
        have e_25 := Option.some.inj hf
        obtain ⟨rfl, rfl⟩ := Prod.mk.inj e_25
        exact wd_iret hx hb hr hlocks hw dX1_whoIsNext_91
  refine lv_aload_n hx hb dX1_whoIsNext_0 rfl (lv_at hl 0 rfl) ?_
  refine va_get (D := G.1) (ci := 1) (v := .ref (a 22)) (C := RX1) (T := TX1) (N := 7) hx hb hts hin1 hown hG.1 hw.1 6 rfl rfl 3 (by decide) (hts (.fieldLink RX1 11 "DutyDesk$Calls" "list" "[LDutyDesk$Call;") (List.mem_of_getElem? (i := 1) rfl)) (fun _ h9 => h9) rfl dX1_whoIsNext_1 ?_
  refine lv_iload_n hx hb dX1_whoIsNext_4 rfl (lv_at hl 1 rfl) ?_
  obtain ⟨h_26, hf⟩ := gd_of hf
  obtain ⟨h_28, hf⟩ := gd_of hf
  refine x_ald22 hx hb hG hw h_26 h_28 dX1_whoIsNext_5 ?_
  obtain ⟨k_27, ek_27⟩ : ∃ z : Nat, z = p1.toNatClampNeg := ⟨_, rfl⟩
  rw [← ek_27]
  replace hf := bnd_of ek_27 hf
  have hc_29 : k_27 < nC S := by rw [ek_27]; exact x_lt h_28
  refine lv_astore_n (lv' := [(2, .ref (a (50 + k_27))), (0, .ref (a 6)), (1, .int p1)]) hx hb dX1_whoIsNext_6 rfl hl (by decide) rfl (fun ls hl => ?_)
  refine lv_aload_n hx hb dX1_whoIsNext_7 rfl (lv_at hl 1 rfl) ?_
  refine va_get (D := G.1) (ci := 1) (v := .ref (a 2)) (C := RX1) (T := TX1) (N := 7) hx hb hts hin1 hown hG.1 hw.1 6 rfl rfl 1 (by decide) (hts (.fieldLink RX1 28 "DutyDesk$Calls" "statutes" "LDutyDesk$Statutes;") (List.mem_of_getElem? (i := 2) rfl)) (fun _ h9 => h9) rfl dX1_whoIsNext_8 ?_
  refine lv_aload_n hx hb dX1_whoIsNext_11 rfl (lv_at hl 0 rfl) ?_
  refine va_getN (D := G.1) (ci := 0) (v := .int (gC S k_27 0)) (C := RX0) (T := TX0) (N := 15) (host := "DutyDesk") hx hb hts hin0 hown hG.1 hw.1 (45 + k_27) (xw_atC hc_29) rfl 0 (by decide) (va_Nw.use rfl (hG.2.1 (.fieldLinkNest "DutyDesk$Calls" 44 "DutyDesk$Call" "day" "I" "DutyDesk") (List.mem_of_getElem? (i := 23) rfl))) (fun _ h9 => h9) rfl dX1_whoIsNext_12 ?_
  obtain ⟨r_31, h_30, hf⟩ := bind_of hf
  refine cVN (As := [.int (gC S k_27 0)]) (rest := []) ⟨hx, hb, hml, hown, hts⟩ hG hA hw (c_X6_textNow G l a ha R S (gC S k_27 0) r_31 h_30) ⟨va_cnB 1 hts gX1_whoIsNext_X6_textNow_n60 rfl rfl rfl (hG.2.1 (.methodLinkNest "DutyDesk$Calls" 60 yX6_textNow "DutyDesk") (List.mem_of_getElem? (i := 85) rfl)) (hts (.initialized RX6) (List.mem_of_getElem? (i := 5) rfl)) (by decide +kernel) ⟨Nat.le_of_ble_eq_true rfl, Nat.le_of_ble_eq_true rfl⟩, hts (.instanceMethod yX6_textNow) (List.mem_of_getElem? (i := 4) rfl), hts (.selects RX6 yX6_textNow yX6_textNow) (List.mem_of_getElem? (i := 6) rfl)⟩ (va_recv hG.1 hw.1 (ci := 6) (q0 := 2) rfl rfl) rfl hl.1 rfl (Nat.le_of_ble_eq_true rfl) dX1_whoIsNext_15 ⟨Nat.zero_le _, Nat.zero_le _⟩ (fun H locs hw => ?_)
  obtain ⟨ht_32, hf⟩ := gk_of hf
  refine lv_astore_n (lv' := [(3, .ref (a r_31)), (2, .ref (a (50 + k_27))), (0, .ref (a 6)), (1, .int p1)]) hx hb dX1_whoIsNext_18 rfl hl (by decide) rfl (fun ls hl => ?_)
  refine lv_aload_n hx hb dX1_whoIsNext_19 rfl (lv_at hl 2 rfl) ?_
  refine lv_aload_n hx hb dX1_whoIsNext_20 rfl (lv_at hl 1 rfl) ?_
  refine lv_aload_n hx hb dX1_whoIsNext_21 rfl (lv_at hl 0 rfl) ?_
  refine lv_bipush (v := 10) hx hb dX1_whoIsNext_22 (by decide) ?_
  obtain ⟨h_33, hf⟩ := gd_of hf
  refine x_tald hx hb ha hG hw ht_32 h_33 dX1_whoIsNext_24 ?_
  obtain ⟨r_35, h_34, hf⟩ := bind_of hf
  refine cV (As := [.ref (a (50 + k_27)), .int (gT S r_31 (10 : Int32).toNatClampNeg)]) (rest := []) ⟨hx, hb, hml, hown, hts⟩ hG hA hw (c_X1_whoMayBeAsked G l a ha R S k_27 (gT S r_31 (10 : Int32).toNatClampNeg) r_35 h_34) (cwV 2 hts gX1_whoIsNext_X1_whoMayBeAsked rfl rfl rfl (by decide +kernel) ⟨Nat.le_of_ble_eq_true rfl, Nat.le_of_ble_eq_true rfl⟩) (va_recv hG.1 hw.1 (ci := 1) (q0 := 6) rfl rfl) rfl hl.1 rfl (Nat.le_of_ble_eq_true rfl) dX1_whoIsNext_25 ⟨Nat.zero_le _, Nat.zero_le _⟩ (fun H locs hw => ?_)
  refine lv_istore (lv' := [(4, .int r_35), (3, .ref (a r_31)), (2, .ref (a (50 + k_27))), (0, .ref (a 6)), (1, .int p1)]) hx hb dX1_whoIsNext_28 hl (by decide) rfl (fun ls hl => ?_)
  refine lv_aload_n hx hb dX1_whoIsNext_30 rfl (lv_at hl 3 rfl) ?_
  refine lv_iload_n hx hb dX1_whoIsNext_31 rfl (lv_at hl 4 rfl) ?_
  obtain ⟨r_37, h_36, hf⟩ := bind_of hf
  refine cV (As := [.int p1]) (rest := []) ⟨hx, hb, hml, hown, hts⟩ hG hA hw (c_X1_takerBefore G l a ha R S p1 r_37 h_36) (cwV 1 hts gX1_whoIsNext_X1_takerBefore rfl rfl rfl (by decide +kernel) ⟨Nat.le_of_ble_eq_true rfl, Nat.le_of_ble_eq_true rfl⟩) (va_recv hG.1 hw.1 (ci := 1) (q0 := 6) rfl rfl) rfl hl.1 rfl (Nat.le_of_ble_eq_true rfl) dX1_whoIsNext_32 ⟨Nat.zero_le _, Nat.zero_le _⟩ (fun H locs hw => ?_)
  refine lv_istore (lv' := [(5, .int r_37), (4, .int r_35), (3, .ref (a r_31)), (2, .ref (a (50 + k_27))), (0, .ref (a 6)), (1, .int p1)]) hx hb dX1_whoIsNext_35 hl (by decide) rfl (fun ls hl => ?_)
  refine lv_iload hx hb dX1_whoIsNext_37 (lv_at hl 0 rfl) ?_
  refine lv_iconst (v := (-1)) hx hb dX1_whoIsNext_39 (by decide) ?_
  refine lv_icmp_eq (tgt := 56) hx hb dX1_whoIsNext_40 (by decide) (fun c_38 => ?_) (fun c_38 => ?_)
  · replace hf := if_t c_38 hf
    exact j56 k_27 r_31 r_35 S _ _ _ hf hw (lv_sub hl [4, 3, 2, 1] rfl)
  · replace hf := if_f c_38 hf
    refine lv_iload hx hb dX1_whoIsNext_43 (lv_at hl 1 rfl) ?_
    refine lv_iload hx hb dX1_whoIsNext_45 (lv_at hl 0 rfl) ?_
    obtain ⟨r_40, h_39, hf⟩ := bind_of hf
    refine cSN (As := [.int r_35, .int r_37]) (rest := []) ⟨hx, hb, hml, hown, hts⟩ hG hA hw (c_X7_hasBit G l _ r_35 r_37 r_40 h_39) ⟨va_cnB 2 hts gX1_whoIsNext_X7_hasBit_n73 rfl rfl rfl (hG.2.1 (.methodLinkNest "DutyDesk$Calls" 73 yX7_hasBit "DutyDesk") (List.mem_of_getElem? (i := 86) rfl)) (hts (.initialized RX7) (List.mem_of_getElem? (i := 25) rfl)) (by decide +kernel) ⟨Nat.le_of_ble_eq_true rfl, Nat.le_of_ble_eq_true rfl⟩, hts (.static yX7_hasBit) (List.mem_of_getElem? (i := 24) rfl), trivial⟩ rfl hl.1 rfl (Nat.le_of_ble_eq_true rfl) dX1_whoIsNext_47 ⟨Nat.zero_le _, Nat.zero_le _⟩ (fun H locs hw => ?_)
    refine lv_if_eq (tgt := 56) hx hb dX1_whoIsNext_50 (by decide) (fun c_41 => ?_) (fun c_41 => ?_)
    · replace hf := if_t c_41 hf
      exact j56 k_27 r_31 r_35 S _ _ _ hf hw (lv_sub hl [4, 3, 2, 1] rfl)
    · replace hf := if_f c_41 hf
      refine lv_iload hx hb dX1_whoIsNext_53 (lv_at hl 0 rfl) ?_
      have e_42 := Option.some.inj hf
      obtain ⟨rfl, rfl⟩ := Prod.mk.inj e_42
      exact wd_iret hx hb hr hlocks hw dX1_whoIsNext_55
/-! DutyDesk$Calls.askNext(I)I -/
def rm_X1_askNext : Room := { frames := 6, cells := 0, slots := 0, locals := 144 }
def f_X1_askNext (S : St) (p1 : Int32) : Option (Int32 × St) :=
  gd p1 150 (gd p1 (nC S) (bnd (p1.toNatClampNeg) fun k_2 => (f_X1_whoIsNext S p1).bind (fun (r_6, S_7) => gn k_2 (nC S_7) (bnd (sC S_7 k_2 7 r_6) fun S_9 => (if (gC S_9 k_2 7) = (-1) then
    bnd (sC S_9 k_2 6 2) fun S_15 => some ((gC S_15 k_2 7, S_15))
  else
    bnd (sC S_9 k_2 8 ((gC S_9 k_2 8) ||| ((1 : Int32) <<< ((gC S_9 k_2 7) &&& 31)))) fun S_12 => some ((gC S_12 k_2 7, S_12)))))))
set_option maxHeartbeats 4000000 in
set_option maxRecDepth 100000 in
theorem c_X1_askNext (G : GP) (l : Launch) (a : Nat → Nat) (ha : a 45 = G.2.2.1) (R : va_W) (S : St) (p1 : Int32) (r0 : Int32) (S9 : St) (hf : f_X1_askNext S p1 = some (r0, S9)) : MC G l yX1_askNext wsX1_askNext rm_X1_askNext [.ref (a 6), .int p1] (xw G.2.1 a R S) (xw G.2.1 a R S9) (some (.int r0)) 0 0 := by
  refine MC.mk (cc := cX1_askNext) (maxL := 3) (ret := (some .int)) (by decide) rfl (Nat.le_of_ble_eq_true rfl) ?_
  intro p e s m below meth c A ls ⟨hx, hb, hr, hml, hown, hlocks, _, hts⟩ hw hG hA hl
  have hl : lv_has ls 3 [(0, .ref (a 6)), (1, .int p1)] := hl
  have hin0 : ∀ w ∈ u_ws RX0 TX0 15, w ∈ wsX1_askNext := by decide +kernel
  have hin1 : ∀ w ∈ u_ws RX1 TX1 7, w ∈ wsX1_askNext := by decide +kernel
  rw [f_X1_askNext] at hf
  refine lv_aload_n hx hb dX1_askNext_0 rfl (lv_at hl 0 rfl) ?_
  refine va_get (D := G.1) (ci := 1) (v := .ref (a 22)) (C := RX1) (T := TX1) (N := 7) hx hb hts hin1 hown hG.1 hw.1 6 rfl rfl 3 (by decide) (hts (.fieldLink RX1 11 "DutyDesk$Calls" "list" "[LDutyDesk$Call;") (List.mem_of_getElem? (i := 1) rfl)) (fun _ h9 => h9) rfl dX1_askNext_1 ?_
  refine lv_iload_n hx hb dX1_askNext_4 rfl (lv_at hl 1 rfl) ?_
  obtain ⟨h_1, hf⟩ := gd_of hf
  obtain ⟨h_3, hf⟩ := gd_of hf
  refine x_ald22 hx hb hG hw h_1 h_3 dX1_askNext_5 ?_
  obtain ⟨k_2, ek_2⟩ : ∃ z : Nat, z = p1.toNatClampNeg := ⟨_, rfl⟩
  rw [← ek_2]
  replace hf := bnd_of ek_2 hf
  have hc_4 : k_2 < nC S := by rw [ek_2]; exact x_lt h_3
  refine lv_astore_n (lv' := [(2, .ref (a (50 + k_2))), (0, .ref (a 6)), (1, .int p1)]) hx hb dX1_askNext_6 rfl hl (by decide) rfl (fun ls hl => ?_)
  refine lv_aload_n hx hb dX1_askNext_7 rfl (lv_at hl 0 rfl) ?_
  refine lv_aload_n hx hb dX1_askNext_8 rfl (lv_at hl 1 rfl) ?_
  refine lv_iload_n hx hb dX1_askNext_9 rfl (lv_at hl 2 rfl) ?_
  obtain ⟨⟨r_6, S_7⟩, h_5, hf⟩ := bind_of hf
  replace hf : _ = some _ := hf
  refine cV (As := [.int p1]) (rest := [.ref (a (50 + k_2))]) ⟨hx, hb, hml, hown, hts⟩ hG hA hw (c_X1_whoIsNext G l a ha R S p1 r_6 S_7 h_5) (cwV 1 hts gX1_askNext_X1_whoIsNext rfl rfl rfl (by decide +kernel) ⟨Nat.le_of_ble_eq_true rfl, Nat.le_of_ble_eq_true rfl⟩) (va_recv hG.1 hw.1 (ci := 1) (q0 := 6) rfl rfl) rfl hl.1 rfl (Nat.le_of_ble_eq_true rfl) dX1_askNext_10 ⟨Nat.zero_le _, Nat.zero_le _⟩ (fun H locs hw => ?_)
  obtain ⟨hc_8, hf⟩ := gn_of hf
  refine va_putN (D := G.1) (ci := 0) (v := .int r_6) (ty := .int) (C := RX0) (T := TX0) (N := 15) (host := "DutyDesk") hx hb hts hin0 tyX0 tyX0_ok nmX0 hown hG.1 hw.1 hw.2.1 hw.2.2 (45 + k_2) (xw_atC hc_8) rfl 7 (by decide) (va_Nw.use rfl (hG.2.1 (.fieldLinkNest "DutyDesk$Calls" 51 "DutyDesk$Call" "asked" "I" "DutyDesk") (List.mem_of_getElem? (i := 32) rfl))) (fun _ h9 => h9) rfl (by decide +kernel) rfl rfl (Nat.le_of_ble_eq_true rfl) dX1_askNext_13 (fun H locs hP hD hS => ?_)
  obtain ⟨S_9, eS_9⟩ : ∃ z : St, z = sC S_7 k_2 7 r_6 := ⟨_, rfl⟩
  replace hf := bnd_of eS_9 hf
  have hw : Wd G A s H locs (xw G.2.1 a R S_9) := wd_eq (by rw [eS_9]; exact xw_upC hc_8 7 (by decide) _) hP hD hS
  have hc_10 : k_2 < nC S_9 := by rw [eS_9]; exact hc_8
  refine lv_aload_n hx hb dX1_askNext_16 rfl (lv_at hl 0 rfl) ?_
  refine va_getN (D := G.1) (ci := 0) (v := .int (gC S_9 k_2 7)) (C := RX0) (T := TX0) (N := 15) (host := "DutyDesk") hx hb hts hin0 hown hG.1 hw.1 (45 + k_2) (xw_atC hc_10) rfl 7 (by decide) (va_Nw.use rfl (hG.2.1 (.fieldLinkNest "DutyDesk$Calls" 51 "DutyDesk$Call" "asked" "I" "DutyDesk") (List.mem_of_getElem? (i := 32) rfl))) (fun _ h9 => h9) rfl dX1_askNext_17 ?_
  refine lv_iconst (v := (-1)) hx hb dX1_askNext_20 (by decide) ?_
  refine lv_icmp_ne (tgt := 32) hx hb dX1_askNext_21 (by decide) (fun c_11 => ?_) (fun c_11 => ?_)
  · replace hf := if_f c_11 hf
    refine lv_aload_n hx hb dX1_askNext_32 rfl (lv_at hl 0 rfl) ?_
    refine lv_dup hx hb dX1_askNext_33 rfl ?_
    refine va_getN (D := G.1) (ci := 0) (v := .int (gC S_9 k_2 8)) (C := RX0) (T := TX0) (N := 15) (host := "DutyDesk") hx hb hts hin0 hown hG.1 hw.1 (45 + k_2) (xw_atC hc_10) rfl 8 (by decide) (va_Nw.use rfl (hG.2.1 (.fieldLinkNest "DutyDesk$Calls" 57 "DutyDesk$Call" "askedBits" "I" "DutyDesk") (List.mem_of_getElem? (i := 34) rfl))) (fun _ h9 => h9) rfl dX1_askNext_34 ?_
    refine lv_iconst (v := 1) hx hb dX1_askNext_37 (by decide) ?_
    refine lv_aload_n hx hb dX1_askNext_38 rfl (lv_at hl 0 rfl) ?_
    refine va_getN (D := G.1) (ci := 0) (v := .int (gC S_9 k_2 7)) (C := RX0) (T := TX0) (N := 15) (host := "DutyDesk") hx hb hts hin0 hown hG.1 hw.1 (45 + k_2) (xw_atC hc_10) rfl 7 (by decide) (va_Nw.use rfl (hG.2.1 (.fieldLinkNest "DutyDesk$Calls" 51 "DutyDesk$Call" "asked" "I" "DutyDesk") (List.mem_of_getElem? (i := 32) rfl))) (fun _ h9 => h9) rfl dX1_askNext_39 ?_
    refine lv_ishl hx hb dX1_askNext_42 ?_
    refine lv_ior hx hb dX1_askNext_43 ?_
    refine va_putN (D := G.1) (ci := 0) (v := .int ((gC S_9 k_2 8) ||| ((1 : Int32) <<< ((gC S_9 k_2 7) &&& 31)))) (ty := .int) (C := RX0) (T := TX0) (N := 15) (host := "DutyDesk") hx hb hts hin0 tyX0 tyX0_ok nmX0 hown hG.1 hw.1 hw.2.1 hw.2.2 (45 + k_2) (xw_atC hc_10) rfl 8 (by decide) (va_Nw.use rfl (hG.2.1 (.fieldLinkNest "DutyDesk$Calls" 57 "DutyDesk$Call" "askedBits" "I" "DutyDesk") (List.mem_of_getElem? (i := 34) rfl))) (fun _ h9 => h9) rfl (by decide +kernel) rfl rfl (Nat.le_of_ble_eq_true rfl) dX1_askNext_44 (fun H locs hP hD hS => ?_)
    obtain ⟨S_12, eS_12⟩ : ∃ z : St, z = sC S_9 k_2 8 ((gC S_9 k_2 8) ||| ((1 : Int32) <<< ((gC S_9 k_2 7) &&& 31))) := ⟨_, rfl⟩
    replace hf := bnd_of eS_12 hf
    have hw : Wd G A s H locs (xw G.2.1 a R S_12) := wd_eq (by rw [eS_12]; exact xw_upC hc_10 8 (by decide) _) hP hD hS
    have hc_13 : k_2 < nC S_12 := by rw [eS_12]; exact hc_10
    refine lv_aload_n hx hb dX1_askNext_47 rfl (lv_at hl 0 rfl) ?_
    refine va_getN (D := G.1) (ci := 0) (v := .int (gC S_12 k_2 7)) (C := RX0) (T := TX0) (N := 15) (host := "DutyDesk") hx hb hts hin0 hown hG.1 hw.1 (45 + k_2) (xw_atC hc_13) rfl 7 (by decide) (va_Nw.use rfl (hG.2.1 (.fieldLinkNest "DutyDesk$Calls" 51 "DutyDesk$Call" "asked" "I" "DutyDesk") (List.mem_of_getElem? (i := 32) rfl))) (fun _ h9 => h9) rfl dX1_askNext_48 ?_
    have e_14 := Option.some.inj hf
    obtain ⟨rfl, rfl⟩ := Prod.mk.inj e_14
    exact wd_iret hx hb hr hlocks hw dX1_askNext_51
  · replace hf := if_t c_11 hf
    refine lv_aload_n hx hb dX1_askNext_24 rfl (lv_at hl 0 rfl) ?_
    refine lv_iconst (v := 2) hx hb dX1_askNext_25 (by decide) ?_
    refine va_putN (D := G.1) (ci := 0) (v := .int 2) (ty := .int) (C := RX0) (T := TX0) (N := 15) (host := "DutyDesk") hx hb hts hin0 tyX0 tyX0_ok nmX0 hown hG.1 hw.1 hw.2.1 hw.2.2 (45 + k_2) (xw_atC hc_10) rfl 6 (by decide) (va_Nw.use rfl (hG.2.1 (.fieldLinkNest "DutyDesk$Calls" 54 "DutyDesk$Call" "state" "I" "DutyDesk") (List.mem_of_getElem? (i := 30) rfl))) (fun _ h9 => h9) rfl (by decide +kernel) rfl rfl (Nat.le_of_ble_eq_true rfl) dX1_askNext_26 (fun H locs hP hD hS => ?_)
    obtain ⟨S_15, eS_15⟩ : ∃ z : St, z = sC S_9 k_2 6 2 := ⟨_, rfl⟩
    replace hf := bnd_of eS_15 hf
    have hw : Wd G A s H locs (xw G.2.1 a R S_15) := wd_eq (by rw [eS_15]; exact xw_upC hc_10 6 (by decide) _) hP hD hS
    have hc_16 : k_2 < nC S_15 := by rw [eS_15]; exact hc_10
    refine lv_goto (tgt := 47) hx hb dX1_askNext_29 (by decide) ?_
    refine lv_aload_n hx hb dX1_askNext_47 rfl (lv_at hl 0 rfl) ?_
    refine va_getN (D := G.1) (ci := 0) (v := .int (gC S_15 k_2 7)) (C := RX0) (T := TX0) (N := 15) (host := "DutyDesk") hx hb hts hin0 hown hG.1 hw.1 (45 + k_2) (xw_atC hc_16) rfl 7 (by decide) (va_Nw.use rfl (hG.2.1 (.fieldLinkNest "DutyDesk$Calls" 51 "DutyDesk$Call" "asked" "I" "DutyDesk") (List.mem_of_getElem? (i := 32) rfl))) (fun _ h9 => h9) rfl dX1_askNext_48 ?_
    have e_17 := Option.some.inj hf
    obtain ⟨rfl, rfl⟩ := Prod.mk.inj e_17
    exact wd_iret hx hb hr hlocks hw dX1_askNext_51
/-! DutyDesk$Calls.take(I)V -/
def rm_X1_take : Room := { frames := 2, cells := 0, slots := 0, locals := 47 }
def f_X1_take_J93 (y_1 : Int32) (z_2 : Int32) (z_3 : Nat) (S_4 : St) : Option (St) :=
  gn z_3 (nC S_4) (gz z_2 (bnd (sC S_4 z_3 13 z_2) fun S_6 => gd y_1 24 (gd y_1 24 (bnd (sM S_6 14 (y_1.toNatClampNeg) ((gM S_6 14 y_1.toNatClampNeg) + 1)) fun S_11 => some (S_11)))))
def f_X1_take (S : St) (p1 : Int32) : Option (St) :=
  gd p1 150 (gd p1 (nC S) (bnd (p1.toNatClampNeg) fun k_15 => bnd (gC S k_15 7) fun x_18 => bnd (sC S k_15 6 1) fun S_19 => bnd (sC S_19 k_15 7 (-1)) fun S_21 => bnd (sC S_21 k_15 10 x_18) fun S_23 => (f_X1_minutesTo S_23 k_15 x_18).bind (fun r_26 => bnd (sC S_23 k_15 11 (if 0 < r_26 then r_26 else 0)) fun S_27 => (f_X6_textNow S_27 (gC S_27 k_15 0)).bind (fun r_30 => gk r_30 (gd 1 12 (bnd (sC S_27 k_15 12 (((gT S_27 r_30 (1 : Int32).toNatClampNeg) * (gC S_27 k_15 9)) + (gC S_27 k_15 11))) fun S_33 => (f_X2_holder S_33 (gC S_33 k_15 1) (gC S_33 k_15 0)).bind (fun r_36 => (if r_36 = x_18 then
    f_X1_take_J93 x_18 1 k_15 S_33
  else
    f_X1_take_J93 x_18 0 k_15 S_33))))))))
set_option maxHeartbeats 4000000 in
set_option maxRecDepth 100000 in
theorem c_X1_take (G : GP) (l : Launch) (a : Nat → Nat) (ha : a 45 = G.2.2.1) (R : va_W) (S : St) (p1 : Int32) (S9 : St) (hf : f_X1_take S p1 = some S9) : MC G l yX1_take wsX1_take rm_X1_take [.ref (a 6), .int p1] (xw G.2.1 a R S) (xw G.2.1 a R S9) none 0 0 := by
  refine MC.mk (cc := cX1_take) (maxL := 4) (ret := none) (by decide) rfl (Nat.le_of_ble_eq_true rfl) ?_
  intro p e s m below meth c A ls ⟨hx, hb, hr, hml, hown, hlocks, _, hts⟩ hw hG hA hl
  have hl : lv_has ls 4 [(0, .ref (a 6)), (1, .int p1)] := hl
  have hin0 : ∀ w ∈ u_ws RX0 TX0 15, w ∈ wsX1_take := by decide +kernel
  have hin1 : ∀ w ∈ u_ws RX1 TX1 7, w ∈ wsX1_take := by decide +kernel
  have hin3 : ∀ w ∈ u_ws RX3 TX3 8, w ∈ wsX1_take := by decide +kernel
  rw [f_X1_take] at hf
  have j93 : ∀ (y_1 : Int32) (z_2 : Int32) (z_3 : Nat) (S_4 : St) (H : Heap) (locs : List Loc) (ls : Array Slot), f_X1_take_J93 y_1 z_2 z_3 S_4 = some S9 → Wd G A s H locs (xw G.2.1 a R S_4) → lv_has ls 4 [(0, .ref (a 6)), (3, .int y_1)] → WQ p l e rm_X1_take s m [.ref (a 6), .int p1] below meth c G A (xw G.2.1 a R S9) none 0 0 H locs 0 0 (F0 m 93 ls [.int z_2, .ref (a (50 + z_3))]) := by
    intro y_1 z_2 z_3 S_4 H locs ls hf hw hl
    rw [f_X1_take_J93] at hf
    obtain ⟨hc_5, hf⟩ := gn_of hf
    obtain ⟨h_7, hf⟩ := gz_of hf
    refine va_putN (D := G.1) (ci := 0) (v := .int z_2) (ty := .boolean) (C := RX0) (T := TX0) (N := 15) (host := "DutyDesk") hx hb hts hin0 tyX0 tyX0_ok nmX0 hown hG.1 hw.1 hw.2.1 hw.2.2 (45 + z_3) (xw_atC hc_5) rfl 13 (by decide) (va_Nw.use rfl (hG.2.1 (.fieldLinkNest "DutyDesk$Calls" 161 "DutyDesk$Call" "wasDuty" "Z" "DutyDesk") (List.mem_of_getElem? (i := 42) rfl))) (fun _ h9 => h9) rfl (by decide +kernel) h_7 (fits_z h_7) (Nat.le_of_ble_eq_true rfl) dX1_take_93 (fun H locs hP hD hS => ?_)
    obtain ⟨S_6, eS_6⟩ : ∃ z : St, z = sC S_4 z_3 13 z_2 := ⟨_, rfl⟩
    replace hf := bnd_of eS_6 hf
    have hw : Wd G A s H locs (xw G.2.1 a R S_6) := wd_eq (by rw [eS_6]; exact xw_upC hc_5 13 (by decide) _) hP hD hS
    have hc_8 : z_3 < nC S_6 := by rw [eS_6]; exact hc_5
    refine lv_aload_n hx hb dX1_take_96 rfl (lv_at hl 0 rfl) ?_
    refine va_get (D := G.1) (ci := 1) (v := .ref (a 3)) (C := RX1) (T := TX1) (N := 7) hx hb hts hin1 hown hG.1 hw.1 6 rfl rfl 0 (by decide) (hts (.fieldLink RX1 24 "DutyDesk$Calls" "people" "LDutyDesk$People;") (List.mem_of_getElem? (i := 8) rfl)) (fun _ h9 => h9) rfl dX1_take_97 ?_
    refine va_getN (D := G.1) (ci := 3) (v := .ref (a 14)) (C := RX3) (T := TX3) (N := 8) (host := "DutyDesk") hx hb hts hin3 hown hG.1 hw.1 3 rfl rfl 4 (by decide) (va_Nw.use rfl (hG.2.1 (.fieldLinkNest "DutyDesk$Calls" 105 "DutyDesk$People" "taken" "[I" "DutyDesk") (List.mem_of_getElem? (i := 11) rfl))) (fun _ h9 => h9) rfl dX1_take_100 ?_
    refine lv_iload_n hx hb dX1_take_103 rfl (lv_at hl 1 rfl) ?_
    refine lv_dup2_11 hx hb dX1_take_104 rfl rfl ?_
    obtain ⟨h_9, hf⟩ := gd_of hf
    refine va_iald hx hb hG.1 hw.1 14 1 (xw_atM (k := 14) rfl) rfl h_9 dX1_take_105 ?_
    refine lv_iconst (v := 1) hx hb dX1_take_106 (by decide) ?_
    refine lv_iadd hx hb dX1_take_107 ?_
    obtain ⟨h_10, hf⟩ := gd_of hf
    refine va_iast hx hb hG.1 hw.1 hw.2.1 hw.2.2 14 1 (xw_atM (k := 14) rfl) rfl h_10 dX1_take_108 (fun H locs hP hD hS => ?_)
    obtain ⟨S_11, eS_11⟩ : ∃ z : St, z = sM S_6 14 (y_1.toNatClampNeg) ((gM S_6 14 y_1.toNatClampNeg) + 1) := ⟨_, rfl⟩
    replace hf := bnd_of eS_11 hf
    have hw : Wd G A s H locs (xw G.2.1 a R S_11) := wd_eq (by rw [eS_11]; exact xw_upM (k := 14) rfl _) hP hD hS
    have hc_12 : z_3 < nC S_11 := by rw [eS_11]; exact hc_8
    have e_13 := Option.some.inj hf
    subst e_13
    exact wd_vret hx hb hr hlocks hw dX1_take_109
  refine lv_aload_n hx hb dX1_take_0 rfl (lv_at hl 0 rfl) ?_
  refine va_get (D := G.1) (ci := 1) (v := .ref (a 22)) (C := RX1) (T := TX1) (N := 7) hx hb hts hin1 hown hG.1 hw.1 6 rfl rfl 3 (by decide) (hts (.fieldLink RX1 11 "DutyDesk$Calls" "list" "[LDutyDesk$Call;") (List.mem_of_getElem? (i := 1) rfl)) (fun _ h9 => h9) rfl dX1_take_1 ?_
  refine lv_iload_n hx hb dX1_take_4 rfl (lv_at hl 1 rfl) ?_
  obtain ⟨h_14, hf⟩ := gd_of hf
  obtain ⟨h_16, hf⟩ := gd_of hf
  refine x_ald22 hx hb hG hw h_14 h_16 dX1_take_5 ?_
  obtain ⟨k_15, ek_15⟩ : ∃ z : Nat, z = p1.toNatClampNeg := ⟨_, rfl⟩
  rw [← ek_15]
  replace hf := bnd_of ek_15 hf
  have hc_17 : k_15 < nC S := by rw [ek_15]; exact x_lt h_16
  refine lv_astore_n (lv' := [(2, .ref (a (50 + k_15))), (0, .ref (a 6)), (1, .int p1)]) hx hb dX1_take_6 rfl hl (by decide) rfl (fun ls hl => ?_)
  refine lv_aload_n hx hb dX1_take_7 rfl (lv_at hl 0 rfl) ?_
  refine va_getN (D := G.1) (ci := 0) (v := .int (gC S k_15 7)) (C := RX0) (T := TX0) (N := 15) (host := "DutyDesk") hx hb hts hin0 hown hG.1 hw.1 (45 + k_15) (xw_atC hc_17) rfl 7 (by decide) (va_Nw.use rfl (hG.2.1 (.fieldLinkNest "DutyDesk$Calls" 51 "DutyDesk$Call" "asked" "I" "DutyDesk") (List.mem_of_getElem? (i := 32) rfl))) (fun _ h9 => h9) rfl dX1_take_8 ?_
  refine lv_topi (fun x_18 ex_18 => ?_)
  replace hf := bnd_of ex_18 hf
  refine lv_istore_n (lv' := [(3, .int x_18), (2, .ref (a (50 + k_15))), (0, .ref (a 6)), (1, .int p1)]) hx hb dX1_take_11 rfl hl (by decide) rfl (fun ls hl => ?_)
  refine lv_aload_n hx hb dX1_take_12 rfl (lv_at hl 1 rfl) ?_
  refine lv_iconst (v := 1) hx hb dX1_take_13 (by decide) ?_
  refine va_putN (D := G.1) (ci := 0) (v := .int 1) (ty := .int) (C := RX0) (T := TX0) (N := 15) (host := "DutyDesk") hx hb hts hin0 tyX0 tyX0_ok nmX0 hown hG.1 hw.1 hw.2.1 hw.2.2 (45 + k_15) (xw_atC hc_17) rfl 6 (by decide) (va_Nw.use rfl (hG.2.1 (.fieldLinkNest "DutyDesk$Calls" 54 "DutyDesk$Call" "state" "I" "DutyDesk") (List.mem_of_getElem? (i := 30) rfl))) (fun _ h9 => h9) rfl (by decide +kernel) rfl rfl (Nat.le_of_ble_eq_true rfl) dX1_take_14 (fun H locs hP hD hS => ?_)
  obtain ⟨S_19, eS_19⟩ : ∃ z : St, z = sC S k_15 6 1 := ⟨_, rfl⟩
  replace hf := bnd_of eS_19 hf
  have hw : Wd G A s H locs (xw G.2.1 a R S_19) := wd_eq (by rw [eS_19]; exact xw_upC hc_17 6 (by decide) _) hP hD hS
  have hc_20 : k_15 < nC S_19 := by rw [eS_19]; exact hc_17
  refine lv_aload_n hx hb dX1_take_17 rfl (lv_at hl 1 rfl) ?_
  refine lv_iconst (v := (-1)) hx hb dX1_take_18 (by decide) ?_
  refine va_putN (D := G.1) (ci := 0) (v := .int (-1)) (ty := .int) (C := RX0) (T := TX0) (N := 15) (host := "DutyDesk") hx hb hts hin0 tyX0 tyX0_ok nmX0 hown hG.1 hw.1 hw.2.1 hw.2.2 (45 + k_15) (xw_atC hc_20) rfl 7 (by decide) (va_Nw.use rfl (hG.2.1 (.fieldLinkNest "DutyDesk$Calls" 51 "DutyDesk$Call" "asked" "I" "DutyDesk") (List.mem_of_getElem? (i := 32) rfl))) (fun _ h9 => h9) rfl (by decide +kernel) rfl rfl (Nat.le_of_ble_eq_true rfl) dX1_take_19 (fun H locs hP hD hS => ?_)
  obtain ⟨S_21, eS_21⟩ : ∃ z : St, z = sC S_19 k_15 7 (-1) := ⟨_, rfl⟩
  replace hf := bnd_of eS_21 hf
  have hw : Wd G A s H locs (xw G.2.1 a R S_21) := wd_eq (by rw [eS_21]; exact xw_upC hc_20 7 (by decide) _) hP hD hS
  have hc_22 : k_15 < nC S_21 := by rw [eS_21]; exact hc_20
  refine lv_aload_n hx hb dX1_take_22 rfl (lv_at hl 1 rfl) ?_
  refine lv_iload_n hx hb dX1_take_23 rfl (lv_at hl 0 rfl) ?_
  refine va_putN (D := G.1) (ci := 0) (v := .int x_18) (ty := .int) (C := RX0) (T := TX0) (N := 15) (host := "DutyDesk") hx hb hts hin0 tyX0 tyX0_ok nmX0 hown hG.1 hw.1 hw.2.1 hw.2.2 (45 + k_15) (xw_atC hc_22) rfl 10 (by decide) (va_Nw.use rfl (hG.2.1 (.fieldLinkNest "DutyDesk$Calls" 99 "DutyDesk$Call" "taker" "I" "DutyDesk") (List.mem_of_getElem? (i := 37) rfl))) (fun _ h9 => h9) rfl (by decide +kernel) rfl rfl (Nat.le_of_ble_eq_true rfl) dX1_take_24 (fun H locs hP hD hS => ?_)
  obtain ⟨S_23, eS_23⟩ : ∃ z : St, z = sC S_21 k_15 10 x_18 := ⟨_, rfl⟩
  replace hf := bnd_of eS_23 hf
  have hw : Wd G A s H locs (xw G.2.1 a R S_23) := wd_eq (by rw [eS_23]; exact xw_upC hc_22 10 (by decide) _) hP hD hS
  have hc_24 : k_15 < nC S_23 := by rw [eS_23]; exact hc_22
  refine lv_aload_n hx hb dX1_take_27 rfl (lv_at hl 1 rfl) ?_
  refine lv_iconst (v := 0) hx hb dX1_take_28 (by decide) ?_
  refine lv_aload_n hx hb dX1_take_29 rfl (lv_at hl 2 rfl) ?_
  refine lv_aload_n hx hb dX1_take_30 rfl (lv_at hl 1 rfl) ?_
  refine lv_iload_n hx hb dX1_take_31 rfl (lv_at hl 0 rfl) ?_
  obtain ⟨r_26, h_25, hf⟩ := bind_of hf
  refine cV (As := [.ref (a (50 + k_15)), .int x_18]) (rest := [.int 0, .ref (a (50 + k_15))]) ⟨hx, hb, hml, hown, hts⟩ hG hA hw (c_X1_minutesTo G l a ha R S_23 k_15 x_18 r_26 h_25) (cwV 2 hts gX1_take_X1_minutesTo rfl rfl rfl (by decide +kernel) ⟨Nat.le_of_ble_eq_true rfl, Nat.le_of_ble_eq_true rfl⟩) (va_recv hG.1 hw.1 (ci := 1) (q0 := 6) rfl rfl) rfl hl.1 rfl (Nat.le_of_ble_eq_true rfl) dX1_take_32 ⟨Nat.zero_le _, Nat.zero_le _⟩ (fun H locs hw => ?_)
  refine va_mmax hx hb (by rw [hml]; exact hl.1.symm) hown (hts (.methodLink RX1 147 Lib.Math.max.name) (List.mem_of_getElem? (i := 2) rfl)) (hts (.static Lib.Math.max.name) (List.mem_of_getElem? (i := 3) rfl)) (hts (.initialized "java/lang/Math") (List.mem_of_getElem? (i := 4) rfl)) (hts (.code Lib.Math.max.name Lib.Math.max.code 2 (some .int)) (List.mem_of_getElem? (i := 5) rfl)) (Nat.le_of_ble_eq_true rfl) (Nat.le_of_ble_eq_true rfl) (Nat.zero_le _) (Nat.zero_le _) dX1_take_35 ?_
  refine va_putN (D := G.1) (ci := 0) (v := .int (if 0 < r_26 then r_26 else 0)) (ty := .int) (C := RX0) (T := TX0) (N := 15) (host := "DutyDesk") hx hb hts hin0 tyX0 tyX0_ok nmX0 hown hG.1 hw.1 hw.2.1 hw.2.2 (45 + k_15) (xw_atC hc_24) rfl 11 (by decide) (va_Nw.use rfl (hG.2.1 (.fieldLinkNest "DutyDesk$Calls" 152 "DutyDesk$Call" "minutesThere" "I" "DutyDesk") (List.mem_of_getElem? (i := 39) rfl))) (fun _ h9 => h9) rfl (by decide +kernel) rfl rfl (Nat.le_of_ble_eq_true rfl) dX1_take_38 (fun H locs hP hD hS => ?_)
  obtain ⟨S_27, eS_27⟩ : ∃ z : St, z = sC S_23 k_15 11 (if 0 < r_26 then r_26 else 0) := ⟨_, rfl⟩
  replace hf := bnd_of eS_27 hf
  have hw : Wd G A s H locs (xw G.2.1 a R S_27) := wd_eq (by rw [eS_27]; exact xw_upC hc_24 11 (by decide) _) hP hD hS
  have hc_28 : k_15 < nC S_27 := by rw [eS_27]; exact hc_24
  refine lv_aload_n hx hb dX1_take_41 rfl (lv_at hl 1 rfl) ?_
  refine lv_aload_n hx hb dX1_take_42 rfl (lv_at hl 2 rfl) ?_
  refine va_get (D := G.1) (ci := 1) (v := .ref (a 2)) (C := RX1) (T := TX1) (N := 7) hx hb hts hin1 hown hG.1 hw.1 6 rfl rfl 1 (by decide) (hts (.fieldLink RX1 28 "DutyDesk$Calls" "statutes" "LDutyDesk$Statutes;") (List.mem_of_getElem? (i := 6) rfl)) (fun _ h9 => h9) rfl dX1_take_43 ?_
  refine lv_aload_n hx hb dX1_take_46 rfl (lv_at hl 1 rfl) ?_
  refine va_getN (D := G.1) (ci := 0) (v := .int (gC S_27 k_15 0)) (C := RX0) (T := TX0) (N := 15) (host := "DutyDesk") hx hb hts hin0 hown hG.1 hw.1 (45 + k_15) (xw_atC hc_28) rfl 0 (by decide) (va_Nw.use rfl (hG.2.1 (.fieldLinkNest "DutyDesk$Calls" 44 "DutyDesk$Call" "day" "I" "DutyDesk") (List.mem_of_getElem? (i := 23) rfl))) (fun _ h9 => h9) rfl dX1_take_47 ?_
  obtain ⟨r_30, h_29, hf⟩ := bind_of hf
  refine cVN (As := [.int (gC S_27 k_15 0)]) (rest := [.ref (a (50 + k_15))]) ⟨hx, hb, hml, hown, hts⟩ hG hA hw (c_X6_textNow G l a ha R S_27 (gC S_27 k_15 0) r_30 h_29) ⟨va_cnB 1 hts gX1_take_X6_textNow_n60 rfl rfl rfl (hG.2.1 (.methodLinkNest "DutyDesk$Calls" 60 yX6_textNow "DutyDesk") (List.mem_of_getElem? (i := 85) rfl)) (hts (.initialized RX6) (List.mem_of_getElem? (i := 20) rfl)) (by decide +kernel) ⟨Nat.le_of_ble_eq_true rfl, Nat.le_of_ble_eq_true rfl⟩, hts (.instanceMethod yX6_textNow) (List.mem_of_getElem? (i := 19) rfl), hts (.selects RX6 yX6_textNow yX6_textNow) (List.mem_of_getElem? (i := 21) rfl)⟩ (va_recv hG.1 hw.1 (ci := 6) (q0 := 2) rfl rfl) rfl hl.1 rfl (Nat.le_of_ble_eq_true rfl) dX1_take_50 ⟨Nat.zero_le _, Nat.zero_le _⟩ (fun H locs hw => ?_)
  obtain ⟨ht_31, hf⟩ := gk_of hf
  refine lv_iconst (v := 1) hx hb dX1_take_53 (by decide) ?_
  obtain ⟨h_32, hf⟩ := gd_of hf
  refine x_tald hx hb ha hG hw ht_31 h_32 dX1_take_54 ?_
  refine lv_aload_n hx hb dX1_take_55 rfl (lv_at hl 1 rfl) ?_
  refine va_getN (D := G.1) (ci := 0) (v := .int (gC S_27 k_15 9)) (C := RX0) (T := TX0) (N := 15) (host := "DutyDesk") hx hb hts hin0 hown hG.1 hw.1 (45 + k_15) (xw_atC hc_28) rfl 9 (by decide) (va_Nw.use rfl (hG.2.1 (.fieldLinkNest "DutyDesk$Calls" 155 "DutyDesk$Call" "refused" "I" "DutyDesk") (List.mem_of_getElem? (i := 35) rfl))) (fun _ h9 => h9) rfl dX1_take_56 ?_
  refine lv_imul hx hb dX1_take_59 ?_
  refine lv_aload_n hx hb dX1_take_60 rfl (lv_at hl 1 rfl) ?_
  refine va_getN (D := G.1) (ci := 0) (v := .int (gC S_27 k_15 11)) (C := RX0) (T := TX0) (N := 15) (host := "DutyDesk") hx hb hts hin0 hown hG.1 hw.1 (45 + k_15) (xw_atC hc_28) rfl 11 (by decide) (va_Nw.use rfl (hG.2.1 (.fieldLinkNest "DutyDesk$Calls" 152 "DutyDesk$Call" "minutesThere" "I" "DutyDesk") (List.mem_of_getElem? (i := 39) rfl))) (fun _ h9 => h9) rfl dX1_take_61 ?_
  refine lv_iadd hx hb dX1_take_64 ?_
  refine va_putN (D := G.1) (ci := 0) (v := .int (((gT S_27 r_30 (1 : Int32).toNatClampNeg) * (gC S_27 k_15 9)) + (gC S_27 k_15 11))) (ty := .int) (C := RX0) (T := TX0) (N := 15) (host := "DutyDesk") hx hb hts hin0 tyX0 tyX0_ok nmX0 hown hG.1 hw.1 hw.2.1 hw.2.2 (45 + k_15) (xw_atC hc_28) rfl 12 (by decide) (va_Nw.use rfl (hG.2.1 (.fieldLinkNest "DutyDesk$Calls" 158 "DutyDesk$Call" "delay" "I" "DutyDesk") (List.mem_of_getElem? (i := 40) rfl))) (fun _ h9 => h9) rfl (by decide +kernel) rfl rfl (Nat.le_of_ble_eq_true rfl) dX1_take_65 (fun H locs hP hD hS => ?_)
  obtain ⟨S_33, eS_33⟩ : ∃ z : St, z = sC S_27 k_15 12 (((gT S_27 r_30 (1 : Int32).toNatClampNeg) * (gC S_27 k_15 9)) + (gC S_27 k_15 11)) := ⟨_, rfl⟩
  replace hf := bnd_of eS_33 hf
  have hw : Wd G A s H locs (xw G.2.1 a R S_33) := wd_eq (by rw [eS_33]; exact xw_upC hc_28 12 (by decide) _) hP hD hS
  have hc_34 : k_15 < nC S_33 := by rw [eS_33]; exact hc_28
  refine lv_aload_n hx hb dX1_take_68 rfl (lv_at hl 1 rfl) ?_
  refine lv_aload_n hx hb dX1_take_69 rfl (lv_at hl 2 rfl) ?_
  refine va_get (D := G.1) (ci := 1) (v := .ref (a 4)) (C := RX1) (T := TX1) (N := 7) hx hb hts hin1 hown hG.1 hw.1 6 rfl rfl 2 (by decide) (hts (.fieldLink RX1 32 "DutyDesk$Calls" "nights" "LDutyDesk$Nights;") (List.mem_of_getElem? (i := 7) rfl)) (fun _ h9 => h9) rfl dX1_take_70 ?_
  refine lv_aload_n hx hb dX1_take_73 rfl (lv_at hl 1 rfl) ?_
  refine va_getN (D := G.1) (ci := 0) (v := .int (gC S_33 k_15 1)) (C := RX0) (T := TX0) (N := 15) (host := "DutyDesk") hx hb hts hin0 hown hG.1 hw.1 (45 + k_15) (xw_atC hc_34) rfl 1 (by decide) (va_Nw.use rfl (hG.2.1 (.fieldLinkNest "DutyDesk$Calls" 76 "DutyDesk$Call" "panel" "I" "DutyDesk") (List.mem_of_getElem? (i := 25) rfl))) (fun _ h9 => h9) rfl dX1_take_74 ?_
  refine lv_aload_n hx hb dX1_take_77 rfl (lv_at hl 1 rfl) ?_
  refine va_getN (D := G.1) (ci := 0) (v := .int (gC S_33 k_15 0)) (C := RX0) (T := TX0) (N := 15) (host := "DutyDesk") hx hb hts hin0 hown hG.1 hw.1 (45 + k_15) (xw_atC hc_34) rfl 0 (by decide) (va_Nw.use rfl (hG.2.1 (.fieldLinkNest "DutyDesk$Calls" 44 "DutyDesk$Call" "day" "I" "DutyDesk") (List.mem_of_getElem? (i := 23) rfl))) (fun _ h9 => h9) rfl dX1_take_78 ?_
  obtain ⟨r_36, h_35, hf⟩ := bind_of hf
  refine cVN (As := [.int (gC S_33 k_15 1), .int (gC S_33 k_15 0)]) (rest := [.ref (a (50 + k_15))]) ⟨hx, hb, hml, hown, hts⟩ hG hA hw (c_X2_holder G l a ha R S_33 (gC S_33 k_15 1) (gC S_33 k_15 0) r_36 h_35) ⟨va_cnB 2 hts gX1_take_X2_holder_n79 rfl rfl rfl (hG.2.1 (.methodLinkNest "DutyDesk$Calls" 79 yX2_holder "DutyDesk") (List.mem_of_getElem? (i := 93) rfl)) (hts (.initialized RX2) (List.mem_of_getElem? (i := 34) rfl)) (by decide +kernel) ⟨Nat.le_of_ble_eq_true rfl, Nat.le_of_ble_eq_true rfl⟩, hts (.instanceMethod yX2_holder) (List.mem_of_getElem? (i := 33) rfl), hts (.selects RX2 yX2_holder yX2_holder) (List.mem_of_getElem? (i := 35) rfl)⟩ (va_recv hG.1 hw.1 (ci := 2) (q0 := 4) rfl rfl) rfl hl.1 rfl (Nat.le_of_ble_eq_true rfl) dX1_take_81 ⟨Nat.zero_le _, Nat.zero_le _⟩ (fun H locs hw => ?_)
  refine lv_iload_n hx hb dX1_take_84 rfl (lv_at hl 0 rfl) ?_
  refine lv_icmp_ne (tgt := 92) hx hb dX1_take_85 (by decide) (fun c_37 => ?_) (fun c_37 => ?_)
  · replace hf := if_f c_37 hf
    refine lv_iconst (v := 0) hx hb dX1_take_92 (by decide) ?_
    exact j93 x_18 0 k_15 S_33 _ _ _ hf hw (lv_sub hl [2, 0] rfl)
  · replace hf := if_t c_37 hf
    refine lv_iconst (v := 1) hx hb dX1_take_88 (by decide) ?_
    refine lv_goto (tgt := 93) hx hb dX1_take_89 (by decide) ?_
    exact j93 x_18 1 k_15 S_33 _ _ _ hf hw (lv_sub hl [2, 0] rfl)
/-! DutyDesk$Calls.settledFor(I)I -/
def rm_X1_settledFor : Room := { frames := 0, cells := 0, slots := 0, locals := 0 }
def f_X1_settledFor_L4 (S : St) (p1 : Int32) : (Int32 × Int32) → Option ((Int32 × Int32) ⊕ (Int32))
  | (v_1, v_2) =>
  (if (gI S 12) ≤ v_2 then
    some (.inr (v_1))
  else
    gd v_2 150 (gd v_2 (nC S) (bnd (v_2.toNatClampNeg) fun k_7 => (if (gC S k_7 10) = p1 then
    gd v_2 150 (gd v_2 (nC S) (bnd (v_2.toNatClampNeg) fun k_14 => bnd (v_1 + (gC S k_14 14)) fun x_17 => bnd (v_2 + 1) fun x_18 => some (.inl (x_17, x_18))))
  else
    bnd (v_2 + 1) fun x_11 => some (.inl (v_1, x_11))))))
def f_X1_settledFor (S : St) (p1 : Int32) : Option (Int32) :=
  loopF (f_X1_settledFor_L4 S p1) FU (0, 0)
set_option maxHeartbeats 4000000 in
set_option maxRecDepth 100000 in
theorem c_X1_settledFor (G : GP) (l : Launch) (a : Nat → Nat) (ha : a 45 = G.2.2.1) (R : va_W) (S : St) (p1 : Int32) (r0 : Int32) (hf : f_X1_settledFor S p1 = some r0) : MC G l yX1_settledFor wsX1_settledFor rm_X1_settledFor [.ref (a 6), .int p1] (xw G.2.1 a R S) (xw G.2.1 a R S) (some (.int r0)) 0 0 := by
  refine MC.mk (cc := cX1_settledFor) (maxL := 4) (ret := (some .int)) (by decide) rfl (Nat.le_of_ble_eq_true rfl) ?_
  intro p e s m below meth c A ls ⟨hx, hb, hr, hml, hown, hlocks, _, hts⟩ hw hG hA hl
  have hl : lv_has ls 4 [(0, .ref (a 6)), (1, .int p1)] := hl
  have hin0 : ∀ w ∈ u_ws RX0 TX0 15, w ∈ wsX1_settledFor := by decide +kernel
  have hin1 : ∀ w ∈ u_ws RX1 TX1 7, w ∈ wsX1_settledFor := by decide +kernel
  rw [f_X1_settledFor] at hf
  refine lv_iconst (v := 0) hx hb dX1_settledFor_0 (by decide) ?_
  refine lv_istore_n (lv' := [(2, .int 0), (0, .ref (a 6)), (1, .int p1)]) hx hb dX1_settledFor_1 rfl hl (by decide) rfl (fun ls hl => ?_)
  refine lv_iconst (v := 0) hx hb dX1_settledFor_2 (by decide) ?_
  refine lv_istore_n (lv' := [(3, .int 0), (2, .int 0), (0, .ref (a 6)), (1, .int p1)]) hx hb dX1_settledFor_3 rfl hl (by decide) rfl (fun ls hl => ?_)
  refine loopF_ind (body := f_X1_settledFor_L4 S p1) (fun (q : Int32 × Int32) => match q with | (v_1, v_2) => ∀ (H : Heap) (locs : List Loc) (ls : Array Slot), Wd G A s H locs (xw G.2.1 a R S) → lv_has ls 4 [(0, .ref (a 6)), (1, .int p1), (2, .int v_1), (3, .int v_2)] → WQ p l e rm_X1_settledFor s m [.ref (a 6), .int p1] below meth c G A (xw G.2.1 a R S) (some (.int r0)) 0 0 H locs 0 0 (F0 m 4 ls [])) ?_ FU (0, 0) hf _ _ _ hw (lv_sub hl [2, 3, 1, 0] rfl)
  clear hf hw hl
  intro ⟨v_1, v_2⟩ t0_4 hf hz1_0_4 hz2_0_4 H locs ls hw hl
  rw [f_X1_settledFor_L4] at hf
  refine lv_iload_n hx hb dX1_settledFor_4 rfl (lv_at hl 3 rfl) ?_
  refine lv_aload_n hx hb dX1_settledFor_5 rfl (lv_at hl 0 rfl) ?_
  refine va_get (D := G.1) (ci := 1) (v := .int (gI S 12)) (C := RX1) (T := TX1) (N := 7) hx hb hts hin1 hown hG.1 hw.1 6 rfl rfl 4 (by decide) (hts (.fieldLink RX1 36 "DutyDesk$Calls" "size" "I") (List.mem_of_getElem? (i := 1) rfl)) (fun _ h9 => h9) rfl dX1_settledFor_6 ?_
  refine lv_icmp_ge (tgt := 43) hx hb dX1_settledFor_9 (by decide) (fun c_3 => ?_) (fun c_3 => ?_)
  · replace hf := if_t c_3 hf
    refine lv_iload_n hx hb dX1_settledFor_43 rfl (lv_at hl 2 rfl) ?_
    have e_4 := Option.some.inj hf
    have e_5 := hz2_0_4 _ e_4.symm
    subst e_5
    exact wd_iret hx hb hr hlocks hw dX1_settledFor_44
  · replace hf := if_f c_3 hf
    refine lv_aload_n hx hb dX1_settledFor_12 rfl (lv_at hl 0 rfl) ?_
    refine va_get (D := G.1) (ci := 1) (v := .ref (a 22)) (C := RX1) (T := TX1) (N := 7) hx hb hts hin1 hown hG.1 hw.1 6 rfl rfl 3 (by decide) (hts (.fieldLink RX1 11 "DutyDesk$Calls" "list" "[LDutyDesk$Call;") (List.mem_of_getElem? (i := 2) rfl)) (fun _ h9 => h9) rfl dX1_settledFor_13 ?_
    refine lv_iload_n hx hb dX1_settledFor_16 rfl (lv_at hl 3 rfl) ?_
    obtain ⟨h_6, hf⟩ := gd_of hf
    obtain ⟨h_8, hf⟩ := gd_of hf
    refine x_ald22 hx hb hG hw h_6 h_8 dX1_settledFor_17 ?_
    obtain ⟨k_7, ek_7⟩ : ∃ z : Nat, z = v_2.toNatClampNeg := ⟨_, rfl⟩
    rw [← ek_7]
    replace hf := bnd_of ek_7 hf
    have hc_9 : k_7 < nC S := by rw [ek_7]; exact x_lt h_8
    refine va_getN (D := G.1) (ci := 0) (v := .int (gC S k_7 10)) (C := RX0) (T := TX0) (N := 15) (host := "DutyDesk") hx hb hts hin0 hown hG.1 hw.1 (45 + k_7) (xw_atC hc_9) rfl 10 (by decide) (va_Nw.use rfl (hG.2.1 (.fieldLinkNest "DutyDesk$Calls" 99 "DutyDesk$Call" "taker" "I" "DutyDesk") (List.mem_of_getElem? (i := 37) rfl))) (fun _ h9 => h9) rfl dX1_settledFor_18 ?_
    refine lv_iload_n hx hb dX1_settledFor_21 rfl (lv_at hl 1 rfl) ?_
    refine lv_icmp_ne (tgt := 37) hx hb dX1_settledFor_22 (by decide) (fun c_10 => ?_) (fun c_10 => ?_)
    · replace hf := if_f c_10 hf
      obtain ⟨x_11, ex_11⟩ : ∃ z : Int32, z = v_2 + 1 := ⟨_, rfl⟩
      replace hf := bnd_of ex_11 hf
      refine lv_iinc (v := x_11) (lv' := [(3, .int x_11), (0, .ref (a 6)), (1, .int p1), (2, .int v_1)]) hx hb dX1_settledFor_37 hl (k := 3) rfl (by rw [ex_11]; rfl) (by decide) rfl (fun ls hl => ?_)
      refine lv_goto (tgt := 4) hx hb dX1_settledFor_40 (by decide) ?_
      have e_12 := Option.some.inj hf
      exact hz1_0_4 _ e_12.symm _ _ _ hw (lv_sub hl [1, 2, 3, 0] rfl)
    · replace hf := if_t c_10 hf
      refine lv_iload_n hx hb dX1_settledFor_25 rfl (lv_at hl 2 rfl) ?_
      refine lv_aload_n hx hb dX1_settledFor_26 rfl (lv_at hl 0 rfl) ?_
      refine va_get (D := G.1) (ci := 1) (v := .ref (a 22)) (C := RX1) (T := TX1) (N := 7) hx hb hts hin1 hown hG.1 hw.1 6 rfl rfl 3 (by decide) (hts (.fieldLink RX1 11 "DutyDesk$Calls" "list" "[LDutyDesk$Call;") (List.mem_of_getElem? (i := 2) rfl)) (fun _ h9 => h9) rfl dX1_settledFor_27 ?_
      refine lv_iload_n hx hb dX1_settledFor_30 rfl (lv_at hl 3 rfl) ?_
      obtain ⟨h_13, hf⟩ := gd_of hf
      obtain ⟨h_15, hf⟩ := gd_of hf
      refine x_ald22 hx hb hG hw h_13 h_15 dX1_settledFor_31 ?_
      obtain ⟨k_14, ek_14⟩ : ∃ z : Nat, z = v_2.toNatClampNeg := ⟨_, rfl⟩
      rw [← ek_14]
      replace hf := bnd_of ek_14 hf
      have hc_16 : k_14 < nC S := by rw [ek_14]; exact x_lt h_15
      refine va_getN (D := G.1) (ci := 0) (v := .int (gC S k_14 14)) (C := RX0) (T := TX0) (N := 15) (host := "DutyDesk") hx hb hts hin0 hown hG.1 hw.1 (45 + k_14) (xw_atC hc_16) rfl 14 (by decide) (va_Nw.use rfl (hG.2.1 (.fieldLinkNest "DutyDesk$Calls" 165 "DutyDesk$Call" "settled" "I" "DutyDesk") (List.mem_of_getElem? (i := 44) rfl))) (fun _ h9 => h9) rfl dX1_settledFor_32 ?_
      refine lv_iadd hx hb dX1_settledFor_35 ?_
      refine lv_topi (fun x_17 ex_17 => ?_)
      replace hf := bnd_of ex_17 hf
      refine lv_istore_n (lv' := [(2, .int x_17), (0, .ref (a 6)), (1, .int p1), (3, .int v_2)]) hx hb dX1_settledFor_36 rfl hl (by decide) rfl (fun ls hl => ?_)
      obtain ⟨x_18, ex_18⟩ : ∃ z : Int32, z = v_2 + 1 := ⟨_, rfl⟩
      replace hf := bnd_of ex_18 hf
      refine lv_iinc (v := x_18) (lv' := [(3, .int x_18), (2, .int x_17), (0, .ref (a 6)), (1, .int p1)]) hx hb dX1_settledFor_37 hl (k := 3) rfl (by rw [ex_18]; rfl) (by decide) rfl (fun ls hl => ?_)
      refine lv_goto (tgt := 4) hx hb dX1_settledFor_40 (by decide) ?_
      have e_19 := Option.some.inj hf
      exact hz1_0_4 _ e_19.symm _ _ _ hw (lv_sub hl [2, 3, 1, 0] rfl)
/-! DutyDesk$Calls.inState(I)I -/
def rm_X1_inState : Room := { frames := 0, cells := 0, slots := 0, locals := 0 }
def f_X1_inState_L4 (S : St) (p1 : Int32) : (Int32 × Int32) → Option ((Int32 × Int32) ⊕ (Int32))
  | (v_1, v_2) =>
  (if (gI S 12) ≤ v_2 then
    some (.inr (v_1))
  else
    gd v_2 150 (gd v_2 (nC S) (bnd (v_2.toNatClampNeg) fun k_7 => (if (gC S k_7 6) = p1 then
    bnd (v_1 + 1) fun x_13 => bnd (v_2 + 1) fun x_14 => some (.inl (x_13, x_14))
  else
    bnd (v_2 + 1) fun x_11 => some (.inl (v_1, x_11))))))
def f_X1_inState (S : St) (p1 : Int32) : Option (Int32) :=
  loopF (f_X1_inState_L4 S p1) FU (0, 0)
set_option maxHeartbeats 4000000 in
set_option maxRecDepth 100000 in
theorem c_X1_inState (G : GP) (l : Launch) (a : Nat → Nat) (ha : a 45 = G.2.2.1) (R : va_W) (S : St) (p1 : Int32) (r0 : Int32) (hf : f_X1_inState S p1 = some r0) : MC G l yX1_inState wsX1_inState rm_X1_inState [.ref (a 6), .int p1] (xw G.2.1 a R S) (xw G.2.1 a R S) (some (.int r0)) 0 0 := by
  refine MC.mk (cc := cX1_inState) (maxL := 4) (ret := (some .int)) (by decide) rfl (Nat.le_of_ble_eq_true rfl) ?_
  intro p e s m below meth c A ls ⟨hx, hb, hr, hml, hown, hlocks, _, hts⟩ hw hG hA hl
  have hl : lv_has ls 4 [(0, .ref (a 6)), (1, .int p1)] := hl
  have hin0 : ∀ w ∈ u_ws RX0 TX0 15, w ∈ wsX1_inState := by decide +kernel
  have hin1 : ∀ w ∈ u_ws RX1 TX1 7, w ∈ wsX1_inState := by decide +kernel
  rw [f_X1_inState] at hf
  refine lv_iconst (v := 0) hx hb dX1_inState_0 (by decide) ?_
  refine lv_istore_n (lv' := [(2, .int 0), (0, .ref (a 6)), (1, .int p1)]) hx hb dX1_inState_1 rfl hl (by decide) rfl (fun ls hl => ?_)
  refine lv_iconst (v := 0) hx hb dX1_inState_2 (by decide) ?_
  refine lv_istore_n (lv' := [(3, .int 0), (2, .int 0), (0, .ref (a 6)), (1, .int p1)]) hx hb dX1_inState_3 rfl hl (by decide) rfl (fun ls hl => ?_)
  refine loopF_ind (body := f_X1_inState_L4 S p1) (fun (q : Int32 × Int32) => match q with | (v_1, v_2) => ∀ (H : Heap) (locs : List Loc) (ls : Array Slot), Wd G A s H locs (xw G.2.1 a R S) → lv_has ls 4 [(0, .ref (a 6)), (1, .int p1), (2, .int v_1), (3, .int v_2)] → WQ p l e rm_X1_inState s m [.ref (a 6), .int p1] below meth c G A (xw G.2.1 a R S) (some (.int r0)) 0 0 H locs 0 0 (F0 m 4 ls [])) ?_ FU (0, 0) hf _ _ _ hw (lv_sub hl [2, 3, 1, 0] rfl)
  clear hf hw hl
  intro ⟨v_1, v_2⟩ t0_4 hf hz1_0_4 hz2_0_4 H locs ls hw hl
  rw [f_X1_inState_L4] at hf
  refine lv_iload_n hx hb dX1_inState_4 rfl (lv_at hl 3 rfl) ?_
  refine lv_aload_n hx hb dX1_inState_5 rfl (lv_at hl 0 rfl) ?_
  refine va_get (D := G.1) (ci := 1) (v := .int (gI S 12)) (C := RX1) (T := TX1) (N := 7) hx hb hts hin1 hown hG.1 hw.1 6 rfl rfl 4 (by decide) (hts (.fieldLink RX1 36 "DutyDesk$Calls" "size" "I") (List.mem_of_getElem? (i := 1) rfl)) (fun _ h9 => h9) rfl dX1_inState_6 ?_
  refine lv_icmp_ge (tgt := 34) hx hb dX1_inState_9 (by decide) (fun c_3 => ?_) (fun c_3 => ?_)
  · replace hf := if_t c_3 hf
    refine lv_iload_n hx hb dX1_inState_34 rfl (lv_at hl 2 rfl) ?_
    have e_4 := Option.some.inj hf
    have e_5 := hz2_0_4 _ e_4.symm
    subst e_5
    exact wd_iret hx hb hr hlocks hw dX1_inState_35
  · replace hf := if_f c_3 hf
    refine lv_aload_n hx hb dX1_inState_12 rfl (lv_at hl 0 rfl) ?_
    refine va_get (D := G.1) (ci := 1) (v := .ref (a 22)) (C := RX1) (T := TX1) (N := 7) hx hb hts hin1 hown hG.1 hw.1 6 rfl rfl 3 (by decide) (hts (.fieldLink RX1 11 "DutyDesk$Calls" "list" "[LDutyDesk$Call;") (List.mem_of_getElem? (i := 2) rfl)) (fun _ h9 => h9) rfl dX1_inState_13 ?_
    refine lv_iload_n hx hb dX1_inState_16 rfl (lv_at hl 3 rfl) ?_
    obtain ⟨h_6, hf⟩ := gd_of hf
    obtain ⟨h_8, hf⟩ := gd_of hf
    refine x_ald22 hx hb hG hw h_6 h_8 dX1_inState_17 ?_
    obtain ⟨k_7, ek_7⟩ : ∃ z : Nat, z = v_2.toNatClampNeg := ⟨_, rfl⟩
    rw [← ek_7]
    replace hf := bnd_of ek_7 hf
    have hc_9 : k_7 < nC S := by rw [ek_7]; exact x_lt h_8
    refine va_getN (D := G.1) (ci := 0) (v := .int (gC S k_7 6)) (C := RX0) (T := TX0) (N := 15) (host := "DutyDesk") hx hb hts hin0 hown hG.1 hw.1 (45 + k_7) (xw_atC hc_9) rfl 6 (by decide) (va_Nw.use rfl (hG.2.1 (.fieldLinkNest "DutyDesk$Calls" 54 "DutyDesk$Call" "state" "I" "DutyDesk") (List.mem_of_getElem? (i := 30) rfl))) (fun _ h9 => h9) rfl dX1_inState_18 ?_
    refine lv_iload_n hx hb dX1_inState_21 rfl (lv_at hl 1 rfl) ?_
    refine lv_icmp_ne (tgt := 28) hx hb dX1_inState_22 (by decide) (fun c_10 => ?_) (fun c_10 => ?_)
    · replace hf := if_f c_10 hf
      obtain ⟨x_11, ex_11⟩ : ∃ z : Int32, z = v_2 + 1 := ⟨_, rfl⟩
      replace hf := bnd_of ex_11 hf
      refine lv_iinc (v := x_11) (lv' := [(3, .int x_11), (0, .ref (a 6)), (1, .int p1), (2, .int v_1)]) hx hb dX1_inState_28 hl (k := 3) rfl (by rw [ex_11]; rfl) (by decide) rfl (fun ls hl => ?_)
      refine lv_goto (tgt := 4) hx hb dX1_inState_31 (by decide) ?_
      have e_12 := Option.some.inj hf
      exact hz1_0_4 _ e_12.symm _ _ _ hw (lv_sub hl [1, 2, 3, 0] rfl)
    · replace hf := if_t c_10 hf
      obtain ⟨x_13, ex_13⟩ : ∃ z : Int32, z = v_1 + 1 := ⟨_, rfl⟩
      replace hf := bnd_of ex_13 hf
      refine lv_iinc (v := x_13) (lv' := [(2, .int x_13), (0, .ref (a 6)), (1, .int p1), (3, .int v_2)]) hx hb dX1_inState_25 hl (k := 2) rfl (by rw [ex_13]; rfl) (by decide) rfl (fun ls hl => ?_)
      obtain ⟨x_14, ex_14⟩ : ∃ z : Int32, z = v_2 + 1 := ⟨_, rfl⟩
      replace hf := bnd_of ex_14 hf
      refine lv_iinc (v := x_14) (lv' := [(3, .int x_14), (2, .int x_13), (0, .ref (a 6)), (1, .int p1)]) hx hb dX1_inState_28 hl (k := 3) rfl (by rw [ex_14]; rfl) (by decide) rfl (fun ls hl => ?_)
      refine lv_goto (tgt := 4) hx hb dX1_inState_31 (by decide) ?_
      have e_15 := Option.some.inj hf
      exact hz1_0_4 _ e_15.symm _ _ _ hw (lv_sub hl [2, 3, 1, 0] rfl)
