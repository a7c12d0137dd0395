/-! DutyDesk$Call.isForSame(LDutyDesk$Call;)Z -/
def rm_X0_isForSame : Room := { frames := 0, cells := 0, slots := 0, locals := 0 }
def f_X0_isForSame (S : St) (i0 : Nat) (p1 : Nat) : Option (Int32) :=
  gn i0 (nC S) (gn p1 (nC S) ((if (gC S i0 4) = (gC S p1 4) then
    (if (gC S i0 5) = (gC S p1 5) then
    some (1)
  else
    some (0))
  else
    some (0))))
set_option maxHeartbeats 4000000 in
set_option maxRecDepth 100000 in
theorem c_X0_isForSame (G : GP) (l : Launch) (a : Nat → Nat) (ha : a 45 = G.2.2.1) (R : va_W) (S : St) (i0 : Nat) (p1 : Nat) (r0 : Int32) (hf : f_X0_isForSame S i0 p1 = some r0) : MC G l yX0_isForSame wsX0_isForSame rm_X0_isForSame [.ref (a (50 + i0)), .ref (a (50 + p1))] (xw G.2.1 a R S) (xw G.2.1 a R S) (some (.int r0)) 0 0 := by
  refine MC.mk (cc := cX0_isForSame) (maxL := 2) (ret := (some .boolean)) (by decide) rfl (Nat.le_of_ble_eq_true rfl) ?_
  intro p e s m below meth c A ls ⟨hx, hb, hr, hml, hown, hlocks, _, hts⟩ hw hG hA hl
  have hl : lv_has ls 2 [(0, .ref (a (50 + i0))), (1, .ref (a (50 + p1)))] := hl
  have hin0 : ∀ w ∈ u_ws RX0 TX0 15, w ∈ wsX0_isForSame := by decide +kernel
  rw [f_X0_isForSame] at hf
  obtain ⟨hc_1, hf⟩ := gn_of hf
  obtain ⟨hc_2, hf⟩ := gn_of hf
  refine lv_aload_n hx hb dX0_isForSame_0 rfl (lv_at hl 0 rfl) ?_
  refine va_get (D := G.1) (ci := 0) (v := .int (gC S i0 4)) (C := RX0) (T := TX0) (N := 15) hx hb hts hin0 hown hG.1 hw.1 (45 + i0) (xw_atC hc_1) rfl 4 (by decide) (hts (.fieldLink RX0 33 "DutyDesk$Call" "ofCase" "I") (List.mem_of_getElem? (i := 1) rfl)) (fun _ h9 => h9) rfl dX0_isForSame_1 ?_
  refine lv_aload_n hx hb dX0_isForSame_4 rfl (lv_at hl 1 rfl) ?_
  refine va_get (D := G.1) (ci := 0) (v := .int (gC S p1 4)) (C := RX0) (T := TX0) (N := 15) hx hb hts hin0 hown hG.1 hw.1 (45 + p1) (xw_atC hc_2) rfl 4 (by decide) (hts (.fieldLink RX0 33 "DutyDesk$Call" "ofCase" "I") (List.mem_of_getElem? (i := 1) rfl)) (fun _ h9 => h9) rfl dX0_isForSame_5 ?_
  refine lv_icmp_ne (tgt := 26) hx hb dX0_isForSame_8 (by decide) (fun c_3 => ?_) (fun c_3 => ?_)
  · replace hf := if_f c_3 hf
    refine lv_iconst (v := 0) hx hb dX0_isForSame_26 (by decide) ?_
    have e_4 := Option.some.inj hf
    subst e_4
    exact wd_zret hx hb hr rfl hlocks hw dX0_isForSame_27
  · replace hf := if_t c_3 hf
    refine lv_aload_n hx hb dX0_isForSame_11 rfl (lv_at hl 0 rfl) ?_
    refine va_get (D := G.1) (ci := 0) (v := .int (gC S i0 5)) (C := RX0) (T := TX0) (N := 15) hx hb hts hin0 hown hG.1 hw.1 (45 + i0) (xw_atC hc_1) rfl 5 (by decide) (hts (.fieldLink RX0 36 "DutyDesk$Call" "accused" "I") (List.mem_of_getElem? (i := 2) rfl)) (fun _ h9 => h9) rfl dX0_isForSame_12 ?_
    refine lv_aload_n hx hb dX0_isForSame_15 rfl (lv_at hl 1 rfl) ?_
    refine va_get (D := G.1) (ci := 0) (v := .int (gC S p1 5)) (C := RX0) (T := TX0) (N := 15) hx hb hts hin0 hown hG.1 hw.1 (45 + p1) (xw_atC hc_2) rfl 5 (by decide) (hts (.fieldLink RX0 36 "DutyDesk$Call" "accused" "I") (List.mem_of_getElem? (i := 2) rfl)) (fun _ h9 => h9) rfl dX0_isForSame_16 ?_
    refine lv_icmp_ne (tgt := 26) hx hb dX0_isForSame_19 (by decide) (fun c_5 => ?_) (fun c_5 => ?_)
    · replace hf := if_f c_5 hf
      refine lv_iconst (v := 0) hx hb dX0_isForSame_26 (by decide) ?_
      have e_6 := Option.some.inj hf
      subst e_6
      exact wd_zret hx hb hr rfl hlocks hw dX0_isForSame_27
    · replace hf := if_t c_5 hf
      refine lv_iconst (v := 1) hx hb dX0_isForSame_22 (by decide) ?_
      refine lv_goto (tgt := 27) hx hb dX0_isForSame_23 (by decide) ?_
      have e_7 := Option.some.inj hf
      subst e_7
      exact wd_zret hx hb hr rfl hlocks hw dX0_isForSame_27
/-! DutyDesk$Call.isFellowOf(LDutyDesk$Call;)Z -/
def rm_X0_isFellowOf : Room := { frames := 0, cells := 0, slots := 0, locals := 0 }
def f_X0_isFellowOf (S : St) (i0 : Nat) (p1 : Nat) : Option (Int32) :=
  gn i0 (nC S) (gn p1 (nC S) ((if (gC S i0 4) = (gC S p1 4) then
    (if (gC S i0 5) = (gC S p1 5) then
    some (0)
  else
    some (1))
  else
    some (0))))
set_option maxHeartbeats 4000000 in
set_option maxRecDepth 100000 in
theorem c_X0_isFellowOf (G : GP) (l : Launch) (a : Nat → Nat) (ha : a 45 = G.2.2.1) (R : va_W) (S : St) (i0 : Nat) (p1 : Nat) (r0 : Int32) (hf : f_X0_isFellowOf S i0 p1 = some r0) : MC G l yX0_isFellowOf wsX0_isFellowOf rm_X0_isFellowOf [.ref (a (50 + i0)), .ref (a (50 + p1))] (xw G.2.1 a R S) (xw G.2.1 a R S) (some (.int r0)) 0 0 := by
  refine MC.mk (cc := cX0_isFellowOf) (maxL := 2) (ret := (some .boolean)) (by decide) rfl (Nat.le_of_ble_eq_true rfl) ?_
  intro p e s m below meth c A ls ⟨hx, hb, hr, hml, hown, hlocks, _, hts⟩ hw hG hA hl
  have hl : lv_has ls 2 [(0, .ref (a (50 + i0))), (1, .ref (a (50 + p1)))] := hl
  have hin0 : ∀ w ∈ u_ws RX0 TX0 15, w ∈ wsX0_isFellowOf := by decide +kernel
  rw [f_X0_isFellowOf] at hf
  obtain ⟨hc_1, hf⟩ := gn_of hf
  obtain ⟨hc_2, hf⟩ := gn_of hf
  refine lv_aload_n hx hb dX0_isFellowOf_0 rfl (lv_at hl 0 rfl) ?_
  refine va_get (D := G.1) (ci := 0) (v := .int (gC S i0 4)) (C := RX0) (T := TX0) (N := 15) hx hb hts hin0 hown hG.1 hw.1 (45 + i0) (xw_atC hc_1) rfl 4 (by decide) (hts (.fieldLink RX0 33 "DutyDesk$Call" "ofCase" "I") (List.mem_of_getElem? (i := 1) rfl)) (fun _ h9 => h9) rfl dX0_isFellowOf_1 ?_
  refine lv_aload_n hx hb dX0_isFellowOf_4 rfl (lv_at hl 1 rfl) ?_
  refine va_get (D := G.1) (ci := 0) (v := .int (gC S p1 4)) (C := RX0) (T := TX0) (N := 15) hx hb hts hin0 hown hG.1 hw.1 (45 + p1) (xw_atC hc_2) rfl 4 (by decide) (hts (.fieldLink RX0 33 "DutyDesk$Call" "ofCase" "I") (List.mem_of_getElem? (i := 1) rfl)) (fun _ h9 => h9) rfl dX0_isFellowOf_5 ?_
  refine lv_icmp_ne (tgt := 26) hx hb dX0_isFellowOf_8 (by decide) (fun c_3 => ?_) (fun c_3 => ?_)
  · replace hf := if_f c_3 hf
    refine lv_iconst (v := 0) hx hb dX0_isFellowOf_26 (by decide) ?_
    have e_4 := Option.some.inj hf
    subst e_4
    exact wd_zret hx hb hr rfl hlocks hw dX0_isFellowOf_27
  · replace hf := if_t c_3 hf
    refine lv_aload_n hx hb dX0_isFellowOf_11 rfl (lv_at hl 0 rfl) ?_
    refine va_get (D := G.1) (ci := 0) (v := .int (gC S i0 5)) (C := RX0) (T := TX0) (N := 15) hx hb hts hin0 hown hG.1 hw.1 (45 + i0) (xw_atC hc_1) rfl 5 (by decide) (hts (.fieldLink RX0 36 "DutyDesk$Call" "accused" "I") (List.mem_of_getElem? (i := 2) rfl)) (fun _ h9 => h9) rfl dX0_isFellowOf_12 ?_
    refine lv_aload_n hx hb dX0_isFellowOf_15 rfl (lv_at hl 1 rfl) ?_
    refine va_get (D := G.1) (ci := 0) (v := .int (gC S p1 5)) (C := RX0) (T := TX0) (N := 15) hx hb hts hin0 hown hG.1 hw.1 (45 + p1) (xw_atC hc_2) rfl 5 (by decide) (hts (.fieldLink RX0 36 "DutyDesk$Call" "accused" "I") (List.mem_of_getElem? (i := 2) rfl)) (fun _ h9 => h9) rfl dX0_isFellowOf_16 ?_
    refine lv_icmp_eq (tgt := 26) hx hb dX0_isFellowOf_19 (by decide) (fun c_5 => ?_) (fun c_5 => ?_)
    · replace hf := if_t c_5 hf
      refine lv_iconst (v := 0) hx hb dX0_isFellowOf_26 (by decide) ?_
      have e_6 := Option.some.inj hf
      subst e_6
      exact wd_zret hx hb hr rfl hlocks hw dX0_isFellowOf_27
    · replace hf := if_f c_5 hf
      refine lv_iconst (v := 1) hx hb dX0_isFellowOf_22 (by decide) ?_
      refine lv_goto (tgt := 27) hx hb dX0_isFellowOf_23 (by decide) ?_
      have e_7 := Option.some.inj hf
      subst e_7
      exact wd_zret hx hb hr rfl hlocks hw dX0_isFellowOf_27
/-! DutyDesk$Call.isLate([I)Z -/
def rm_X0_isLate : Room := { frames := 0, cells := 0, slots := 0, locals := 0 }
def f_X0_isLate (S : St) (i0 : Nat) (p1 : Nat) : Option (Int32) :=
  gn i0 (nC S) (gk p1 (gd 0 12 ((if (gC S i0 12) ≤ (gT S p1 (0 : Int32).toNatClampNeg) then
    some (0)
  else
    some (1)))))
set_option maxHeartbeats 4000000 in
set_option maxRecDepth 100000 in
theorem c_X0_isLate (G : GP) (l : Launch) (a : Nat → Nat) (ha : a 45 = G.2.2.1) (R : va_W) (S : St) (i0 : Nat) (p1 : Nat) (r0 : Int32) (hf : f_X0_isLate S i0 p1 = some r0) : MC G l yX0_isLate wsX0_isLate rm_X0_isLate [.ref (a (50 + i0)), .ref (a p1)] (xw G.2.1 a R S) (xw G.2.1 a R S) (some (.int r0)) 0 0 := by
  refine MC.mk (cc := cX0_isLate) (maxL := 2) (ret := (some .boolean)) (by decide) rfl (Nat.le_of_ble_eq_true rfl) ?_
  intro p e s m below meth c A ls ⟨hx, hb, hr, hml, hown, hlocks, _, hts⟩ hw hG hA hl
  have hl : lv_has ls 2 [(0, .ref (a (50 + i0))), (1, .ref (a p1))] := hl
  have hin0 : ∀ w ∈ u_ws RX0 TX0 15, w ∈ wsX0_isLate := by decide +kernel
  rw [f_X0_isLate] at hf
  obtain ⟨hc_1, hf⟩ := gn_of hf
  obtain ⟨ht_2, hf⟩ := gk_of hf
  refine lv_aload_n hx hb dX0_isLate_0 rfl (lv_at hl 0 rfl) ?_
  refine va_get (D := G.1) (ci := 0) (v := .int (gC S i0 12)) (C := RX0) (T := TX0) (N := 15) hx hb hts hin0 hown hG.1 hw.1 (45 + i0) (xw_atC hc_1) rfl 12 (by decide) (hts (.fieldLink RX0 39 "DutyDesk$Call" "delay" "I") (List.mem_of_getElem? (i := 1) rfl)) (fun _ h9 => h9) rfl dX0_isLate_1 ?_
  refine lv_aload_n hx hb dX0_isLate_4 rfl (lv_at hl 1 rfl) ?_
  refine lv_iconst (v := 0) hx hb dX0_isLate_5 (by decide) ?_
  obtain ⟨h_3, hf⟩ := gd_of hf
  refine x_tald hx hb ha hG hw ht_2 h_3 dX0_isLate_6 ?_
  refine lv_icmp_le (tgt := 14) hx hb dX0_isLate_7 (by decide) (fun c_4 => ?_) (fun c_4 => ?_)
  · replace hf := if_t c_4 hf
    refine lv_iconst (v := 0) hx hb dX0_isLate_14 (by decide) ?_
    have e_5 := Option.some.inj hf
    subst e_5
    exact wd_zret hx hb hr rfl hlocks hw dX0_isLate_15
  · replace hf := if_f c_4 hf
    refine lv_iconst (v := 1) hx hb dX0_isLate_10 (by decide) ?_
    refine lv_goto (tgt := 15) hx hb dX0_isLate_11 (by decide) ?_
    have e_6 := Option.some.inj hf
    subst e_6
    exact wd_zret hx hb hr rfl hlocks hw dX0_isLate_15
/-! DutyDesk$Call.lineBeforeCap([II)I -/
def rm_X0_lineBeforeCap : Room := { frames := 1, cells := 0, slots := 0, locals := 21 }
def f_X0_lineBeforeCap (S : St) (i0 : Nat) (p1 : Nat) (p2 : Int32) : Option (Int32) :=
  gn i0 (nC S) (gk p1 ((if p2 = 0 then
    (if (gC S i0 13) = 0 then
    some (0)
  else
    gd 4 12 (some ((gT S p1 (4 : Int32).toNatClampNeg))))
  else
    (if p2 = 1 then
    gd 5 12 (some ((gT S p1 (5 : Int32).toNatClampNeg)))
  else
    (if p2 = 2 then
    gd 6 12 (some ((((gT S p1 (6 : Int32).toNatClampNeg) * (gC S i0 11)) * 2)))
  else
    (f_X0_isLate S i0 p1).bind (fun r_15 => (if r_15 = 0 then
    some (0)
  else
    gd 7 12 (some ((-(gT S p1 (7 : Int32).toNatClampNeg)))))))))))
set_option maxHeartbeats 4000000 in
set_option maxRecDepth 100000 in
theorem c_X0_lineBeforeCap (G : GP) (l : Launch) (a : Nat → Nat) (ha : a 45 = G.2.2.1) (R : va_W) (S : St) (i0 : Nat) (p1 : Nat) (p2 : Int32) (r0 : Int32) (hf : f_X0_lineBeforeCap S i0 p1 p2 = some r0) : MC G l yX0_lineBeforeCap wsX0_lineBeforeCap rm_X0_lineBeforeCap [.ref (a (50 + i0)), .ref (a p1), .int p2] (xw G.2.1 a R S) (xw G.2.1 a R S) (some (.int r0)) 0 0 := by
  refine MC.mk (cc := cX0_lineBeforeCap) (maxL := 3) (ret := (some .int)) (by decide) rfl (Nat.le_of_ble_eq_true rfl) ?_
  intro p e s m below meth c A ls ⟨hx, hb, hr, hml, hown, hlocks, _, hts⟩ hw hG hA hl
  have hl : lv_has ls 3 [(0, .ref (a (50 + i0))), (1, .ref (a p1)), (2, .int p2)] := hl
  have hin0 : ∀ w ∈ u_ws RX0 TX0 15, w ∈ wsX0_lineBeforeCap := by decide +kernel
  rw [f_X0_lineBeforeCap] at hf
  obtain ⟨hc_1, hf⟩ := gn_of hf
  obtain ⟨ht_2, hf⟩ := gk_of hf
  refine lv_iload_n hx hb dX0_lineBeforeCap_0 rfl (lv_at hl 2 rfl) ?_
  by_cases c_3 : p2 = 0
  · replace hf := if_t c_3 hf
    refine lv_tableIn (off := 27) (tgt := 28) hx hb dX0_lineBeforeCap_1 (by rw [c_3]; decide) (by rw [c_3]; decide) (by rw [c_3]; rfl) (by decide) ?_
    refine lv_aload_n hx hb dX0_lineBeforeCap_28 rfl (lv_at hl 0 rfl) ?_
    refine va_get (D := G.1) (ci := 0) (v := .int (gC S i0 13)) (C := RX0) (T := TX0) (N := 15) hx hb hts hin0 hown hG.1 hw.1 (45 + i0) (xw_atC hc_1) rfl 13 (by decide) (hts (.fieldLink RX0 56 "DutyDesk$Call" "wasDuty" "Z") (List.mem_of_getElem? (i := 1) rfl)) (fun _ h9 => h9) rfl dX0_lineBeforeCap_29 ?_
    refine lv_if_eq (tgt := 41) hx hb dX0_lineBeforeCap_32 (by decide) (fun c_4 => ?_) (fun c_4 => ?_)
    · replace hf := if_t c_4 hf
      refine lv_iconst (v := 0) hx hb dX0_lineBeforeCap_41 (by decide) ?_
      have e_5 := Option.some.inj hf
      subst e_5
      exact wd_iret hx hb hr hlocks hw dX0_lineBeforeCap_42
    · replace hf := if_f c_4 hf
      refine lv_aload_n hx hb dX0_lineBeforeCap_35 rfl (lv_at hl 1 rfl) ?_
      refine lv_iconst (v := 4) hx hb dX0_lineBeforeCap_36 (by decide) ?_
      obtain ⟨h_6, hf⟩ := gd_of hf
      refine x_tald hx hb ha hG hw ht_2 h_6 dX0_lineBeforeCap_37 ?_
      refine lv_goto (tgt := 42) hx hb dX0_lineBeforeCap_38 (by decide) ?_
      have e_7 := Option.some.inj hf
      subst e_7
      exact wd_iret hx hb hr hlocks hw dX0_lineBeforeCap_42
  · replace hf := if_f c_3 hf
    by_cases c_8 : p2 = 1
    · replace hf := if_t c_8 hf
      refine lv_tableIn (off := 42) (tgt := 43) hx hb dX0_lineBeforeCap_1 (by rw [c_8]; decide) (by rw [c_8]; decide) (by rw [c_8]; rfl) (by decide) ?_
      refine lv_aload_n hx hb dX0_lineBeforeCap_43 rfl (lv_at hl 1 rfl) ?_
      refine lv_iconst (v := 5) hx hb dX0_lineBeforeCap_44 (by decide) ?_
      obtain ⟨h_9, hf⟩ := gd_of hf
      refine x_tald hx hb ha hG hw ht_2 h_9 dX0_lineBeforeCap_45 ?_
      have e_10 := Option.some.inj hf
      subst e_10
      exact wd_iret hx hb hr hlocks hw dX0_lineBeforeCap_46
    · replace hf := if_f c_8 hf
      by_cases c_11 : p2 = 2
      · replace hf := if_t c_11 hf
        refine lv_tableIn (off := 46) (tgt := 47) hx hb dX0_lineBeforeCap_1 (by rw [c_11]; decide) (by rw [c_11]; decide) (by rw [c_11]; rfl) (by decide) ?_
        refine lv_aload_n hx hb dX0_lineBeforeCap_47 rfl (lv_at hl 1 rfl) ?_
        refine lv_bipush (v := 6) hx hb dX0_lineBeforeCap_48 (by decide) ?_
        obtain ⟨h_12, hf⟩ := gd_of hf
        refine x_tald hx hb ha hG hw ht_2 h_12 dX0_lineBeforeCap_50 ?_
        refine lv_aload_n hx hb dX0_lineBeforeCap_51 rfl (lv_at hl 0 rfl) ?_
        refine va_get (D := G.1) (ci := 0) (v := .int (gC S i0 11)) (C := RX0) (T := TX0) (N := 15) hx hb hts hin0 hown hG.1 hw.1 (45 + i0) (xw_atC hc_1) rfl 11 (by decide) (hts (.fieldLink RX0 60 "DutyDesk$Call" "minutesThere" "I") (List.mem_of_getElem? (i := 2) rfl)) (fun _ h9 => h9) rfl dX0_lineBeforeCap_52 ?_
        refine lv_imul hx hb dX0_lineBeforeCap_55 ?_
        refine lv_iconst (v := 2) hx hb dX0_lineBeforeCap_56 (by decide) ?_
        refine lv_imul hx hb dX0_lineBeforeCap_57 ?_
        have e_13 := Option.some.inj hf
        subst e_13
        exact wd_iret hx hb hr hlocks hw dX0_lineBeforeCap_58
      · replace hf := if_f c_11 hf
        have nc_3 := lv_neT c_3 (show Int32.toInt 0 = 0 from rfl)
        have nc_8 := lv_neT c_8 (show Int32.toInt 1 = 1 from rfl)
        have nc_11 := lv_neT c_11 (show Int32.toInt 2 = 2 from rfl)
        refine lv_tableOut (tgt := 59) hx hb dX0_lineBeforeCap_1 (by omega) (by decide) ?_
        refine lv_aload_n hx hb dX0_lineBeforeCap_59 rfl (lv_at hl 0 rfl) ?_
        refine lv_aload_n hx hb dX0_lineBeforeCap_60 rfl (lv_at hl 1 rfl) ?_
        obtain ⟨r_15, h_14, hf⟩ := bind_of hf
        refine cV (As := [.ref (a p1)]) (rest := []) ⟨hx, hb, hml, hown, hts⟩ hG hA hw (c_X0_isLate G l a ha R S i0 p1 r_15 h_14) (cwV 1 hts gX0_lineBeforeCap_X0_isLate rfl rfl rfl (by decide +kernel) ⟨Nat.le_of_ble_eq_true rfl, Nat.le_of_ble_eq_true rfl⟩) (va_recv hG.1 hw.1 (ci := 0) (q0 := 45 + i0) rfl (xw_atC hc_1)) rfl hl.1 rfl (Nat.le_of_ble_eq_true rfl) dX0_lineBeforeCap_61 ⟨Nat.zero_le _, Nat.zero_le _⟩ (fun H locs hw => ?_)
        refine lv_if_eq (tgt := 75) hx hb dX0_lineBeforeCap_64 (by decide) (fun c_16 => ?_) (fun c_16 => ?_)
        · replace hf := if_t c_16 hf
          refine lv_iconst (v := 0) hx hb dX0_lineBeforeCap_75 (by decide) ?_
          have e_17 := Option.some.inj hf
          subst e_17
          exact wd_iret hx hb hr hlocks hw dX0_lineBeforeCap_76
        · replace hf := if_f c_16 hf
          refine lv_aload_n hx hb dX0_lineBeforeCap_67 rfl (lv_at hl 1 rfl) ?_
          refine lv_bipush (v := 7) hx hb dX0_lineBeforeCap_68 (by decide) ?_
          obtain ⟨h_18, hf⟩ := gd_of hf
          refine x_tald hx hb ha hG hw ht_2 h_18 dX0_lineBeforeCap_70 ?_
          refine lv_ineg hx hb dX0_lineBeforeCap_71 ?_
          refine lv_goto (tgt := 76) hx hb dX0_lineBeforeCap_72 (by decide) ?_
          have e_19 := Option.some.inj hf
          subst e_19
          exact wd_iret hx hb hr hlocks hw dX0_lineBeforeCap_76
/-! DutyDesk$Call.sumBeforeCap([I)I -/
def rm_X0_sumBeforeCap : Room := { frames := 2, cells := 0, slots := 0, locals := 43 }
def f_X0_sumBeforeCap_L4 (S : St) (i0 : Nat) (p1 : Nat) : (Int32 × Int32) → Option ((Int32 × Int32) ⊕ (Int32))
  | (v_3, v_4) =>
  (if 4 ≤ v_4 then
    some (.inr (v_3))
  else
    (f_X0_lineBeforeCap S i0 p1 v_4).bind (fun r_9 => bnd (v_3 + r_9) fun x_10 => bnd (v_4 + 1) fun x_11 => some (.inl (x_10, x_11))))
def f_X0_sumBeforeCap (S : St) (i0 : Nat) (p1 : Nat) : Option (Int32) :=
  gn i0 (nC S) (gk p1 (loopF (f_X0_sumBeforeCap_L4 S i0 p1) FU (0, 0)))
set_option maxHeartbeats 4000000 in
set_option maxRecDepth 100000 in
theorem c_X0_sumBeforeCap (G : GP) (l : Launch) (a : Nat → Nat) (ha : a 45 = G.2.2.1) (R : va_W) (S : St) (i0 : Nat) (p1 : Nat) (r0 : Int32) (hf : f_X0_sumBeforeCap S i0 p1 = some r0) : MC G l yX0_sumBeforeCap wsX0_sumBeforeCap rm_X0_sumBeforeCap [.ref (a (50 + i0)), .ref (a p1)] (xw G.2.1 a R S) (xw G.2.1 a R S) (some (.int r0)) 0 0 := by
  refine MC.mk (cc := cX0_sumBeforeCap) (maxL := 4) (ret := (some .int)) (by decide) rfl (Nat.le_of_ble_eq_true rfl) ?_
  intro p e s m below meth c A ls ⟨hx, hb, hr, hml, hown, hlocks, _, hts⟩ hw hG hA hl
  have hl : lv_has ls 4 [(0, .ref (a (50 + i0))), (1, .ref (a p1))] := hl
  rw [f_X0_sumBeforeCap] at hf
  obtain ⟨hc_1, hf⟩ := gn_of hf
  obtain ⟨ht_2, hf⟩ := gk_of hf
  refine lv_iconst (v := 0) hx hb dX0_sumBeforeCap_0 (by decide) ?_
  refine lv_istore_n (lv' := [(2, .int 0), (0, .ref (a (50 + i0))), (1, .ref (a p1))]) hx hb dX0_sumBeforeCap_1 rfl hl (by decide) rfl (fun ls hl => ?_)
  refine lv_iconst (v := 0) hx hb dX0_sumBeforeCap_2 (by decide) ?_
  refine lv_istore_n (lv' := [(3, .int 0), (2, .int 0), (0, .ref (a (50 + i0))), (1, .ref (a p1))]) hx hb dX0_sumBeforeCap_3 rfl hl (by decide) rfl (fun ls hl => ?_)
  refine loopF_ind (body := f_X0_sumBeforeCap_L4 S i0 p1) (fun (q : Int32 × Int32) => match q with | (v_3, v_4) => ∀ (H : Heap) (locs : List Loc) (ls : Array Slot), Wd G A s H locs (xw G.2.1 a R S) → lv_has ls 4 [(0, .ref (a (50 + i0))), (1, .ref (a p1)), (2, .int v_3), (3, .int v_4)] → WQ p l e rm_X0_sumBeforeCap s m [.ref (a (50 + i0)), .ref (a p1)] below meth c G A (xw G.2.1 a R S) (some (.int r0)) 0 0 H locs 0 0 (F0 m 4 ls [])) ?_ FU (0, 0) hf _ _ _ hw (lv_sub hl [2, 3, 1, 0] rfl)
  clear hf hw hl
  intro ⟨v_3, v_4⟩ t0_4 hf hz1_0_4 hz2_0_4 H locs ls hw hl
  rw [f_X0_sumBeforeCap_L4] at hf
  refine lv_iload_n hx hb dX0_sumBeforeCap_4 rfl (lv_at hl 3 rfl) ?_
  refine lv_iconst (v := 4) hx hb dX0_sumBeforeCap_5 (by decide) ?_
  refine lv_icmp_ge (tgt := 24) hx hb dX0_sumBeforeCap_6 (by decide) (fun c_5 => ?_) (fun c_5 => ?_)
  · replace hf := if_t c_5 hf
    refine lv_iload_n hx hb dX0_sumBeforeCap_24 rfl (lv_at hl 2 rfl) ?_
    have e_6 := Option.some.inj hf
    have e_7 := hz2_0_4 _ e_6.symm
    subst e_7
    exact wd_iret hx hb hr hlocks hw dX0_sumBeforeCap_25
  · replace hf := if_f c_5 hf
    refine lv_iload_n hx hb dX0_sumBeforeCap_9 rfl (lv_at hl 2 rfl) ?_
    refine lv_aload_n hx hb dX0_sumBeforeCap_10 rfl (lv_at hl 0 rfl) ?_
    refine lv_aload_n hx hb dX0_sumBeforeCap_11 rfl (lv_at hl 1 rfl) ?_
    refine lv_iload_n hx hb dX0_sumBeforeCap_12 rfl (lv_at hl 3 rfl) ?_
    obtain ⟨r_9, h_8, hf⟩ := bind_of hf
    refine cV (As := [.ref (a p1), .int v_4]) (rest := [.int v_3]) ⟨hx, hb, hml, hown, hts⟩ hG hA hw (c_X0_lineBeforeCap G l a ha R S i0 p1 v_4 r_9 h_8) (cwV 2 hts gX0_sumBeforeCap_X0_lineBeforeCap rfl rfl rfl (by decide +kernel) ⟨Nat.le_of_ble_eq_true rfl, Nat.le_of_ble_eq_true rfl⟩) (va_recv hG.1 hw.1 (ci := 0) (q0 := 45 + i0) rfl (xw_atC hc_1)) rfl hl.1 rfl (Nat.le_of_ble_eq_true rfl) dX0_sumBeforeCap_13 ⟨Nat.zero_le _, Nat.zero_le _⟩ (fun H locs hw => ?_)
    refine lv_iadd hx hb dX0_sumBeforeCap_16 ?_
    refine lv_topi (fun x_10 ex_10 => ?_)
    replace hf := bnd_of ex_10 hf
    refine lv_istore_n (lv' := [(2, .int x_10), (0, .ref (a (50 + i0))), (1, .ref (a p1)), (3, .int v_4)]) hx hb dX0_sumBeforeCap_17 rfl hl (by decide) rfl (fun ls hl => ?_)
    obtain ⟨x_11, ex_11⟩ : ∃ z : Int32, z = v_4 + 1 := ⟨_, rfl⟩
    replace hf := bnd_of ex_11 hf
    refine lv_iinc (v := x_11) (lv' := [(3, .int x_11), (2, .int x_10), (0, .ref (a (50 + i0))), (1, .ref (a p1))]) hx hb dX0_sumBeforeCap_18 hl (k := 3) rfl (by rw [ex_11]; rfl) (by decide) rfl (fun ls hl => ?_)
    refine lv_goto (tgt := 4) hx hb dX0_sumBeforeCap_21 (by decide) ?_
    have e_12 := Option.some.inj hf
    exact hz1_0_4 _ e_12.symm _ _ _ hw (lv_sub hl [2, 3, 1, 0] rfl)
/-! DutyDesk$Call.lineDue([II)I -/
def rm_X0_lineDue : Room := { frames := 3, cells := 0, slots := 0, locals := 66 }
def f_X0_lineDue (S : St) (i0 : Nat) (p1 : Nat) (p2 : Int32) : Option (Int32) :=
  gn i0 (nC S) (gk p1 ((if 4 ≤ p2 then
    gd 8 12 ((f_X0_sumBeforeCap S i0 p1).bind (fun r_6 => some ((if ((gT S p1 (8 : Int32).toNatClampNeg) - r_6) < 0 then ((gT S p1 (8 : Int32).toNatClampNeg) - r_6) else 0))))
  else
    (f_X0_lineBeforeCap S i0 p1 p2).bind (fun r_9 => some (r_9)))))
set_option maxHeartbeats 4000000 in
set_option maxRecDepth 100000 in
theorem c_X0_lineDue (G : GP) (l : Launch) (a : Nat → Nat) (ha : a 45 = G.2.2.1) (R : va_W) (S : St) (i0 : Nat) (p1 : Nat) (p2 : Int32) (r0 : Int32) (hf : f_X0_lineDue S i0 p1 p2 = some r0) : MC G l yX0_lineDue wsX0_lineDue rm_X0_lineDue [.ref (a (50 + i0)), .ref (a p1), .int p2] (xw G.2.1 a R S) (xw G.2.1 a R S) (some (.int r0)) 0 0 := by
  refine MC.mk (cc := cX0_lineDue) (maxL := 3) (ret := (some .int)) (by decide) rfl (Nat.le_of_ble_eq_true rfl) ?_
  intro p e s m below meth c A ls ⟨hx, hb, hr, hml, hown, hlocks, _, hts⟩ hw hG hA hl
  have hl : lv_has ls 3 [(0, .ref (a (50 + i0))), (1, .ref (a p1)), (2, .int p2)] := hl
  rw [f_X0_lineDue] at hf
  obtain ⟨hc_1, hf⟩ := gn_of hf
  obtain ⟨ht_2, hf⟩ := gk_of hf
  refine lv_iload_n hx hb dX0_lineDue_0 rfl (lv_at hl 2 rfl) ?_
  refine lv_iconst (v := 4) hx hb dX0_lineDue_1 (by decide) ?_
  refine lv_icmp_ge (tgt := 12) hx hb dX0_lineDue_2 (by decide) (fun c_3 => ?_) (fun c_3 => ?_)
  · replace hf := if_t c_3 hf
    refine lv_iconst (v := 0) hx hb dX0_lineDue_12 (by decide) ?_
    refine lv_aload_n hx hb dX0_lineDue_13 rfl (lv_at hl 1 rfl) ?_
    refine lv_bipush (v := 8) hx hb dX0_lineDue_14 (by decide) ?_
    obtain ⟨h_4, hf⟩ := gd_of hf
    refine x_tald hx hb ha hG hw ht_2 h_4 dX0_lineDue_16 ?_
    refine lv_aload_n hx hb dX0_lineDue_17 rfl (lv_at hl 0 rfl) ?_
    refine lv_aload_n hx hb dX0_lineDue_18 rfl (lv_at hl 1 rfl) ?_
    obtain ⟨r_6, h_5, hf⟩ := bind_of hf
    refine cV (As := [.ref (a p1)]) (rest := [.int (gT S p1 (8 : Int32).toNatClampNeg), .int 0]) ⟨hx, hb, hml, hown, hts⟩ hG hA hw (c_X0_sumBeforeCap G l a ha R S i0 p1 r_6 h_5) (cwV 1 hts gX0_lineDue_X0_sumBeforeCap rfl rfl rfl (by decide +kernel) ⟨Nat.le_of_ble_eq_true rfl, Nat.le_of_ble_eq_true rfl⟩) (va_recv hG.1 hw.1 (ci := 0) (q0 := 45 + i0) rfl (xw_atC hc_1)) rfl hl.1 rfl (Nat.le_of_ble_eq_true rfl) dX0_lineDue_19 ⟨Nat.zero_le _, Nat.zero_le _⟩ (fun H locs hw => ?_)
    refine lv_isub hx hb dX0_lineDue_22 ?_
    refine va_mmin hx hb (by rw [hml]; exact hl.1.symm) hown (hts (.methodLink RX0 50 Lib.Math.min.name) (List.mem_of_getElem? (i := 1) rfl)) (hts (.static Lib.Math.min.name) (List.mem_of_getElem? (i := 2) rfl)) (hts (.initialized "java/lang/Math") (List.mem_of_getElem? (i := 3) rfl)) (hts (.code Lib.Math.min.name Lib.Math.min.code 2 (some .int)) (List.mem_of_getElem? (i := 4) rfl)) (Nat.le_of_ble_eq_true rfl) (Nat.le_of_ble_eq_true rfl) (Nat.zero_le _) (Nat.zero_le _) dX0_lineDue_23 ?_
    have e_7 := Option.some.inj hf
    subst e_7
    exact wd_iret hx hb hr hlocks hw dX0_lineDue_26
  · replace hf := if_f c_3 hf
    refine lv_aload_n hx hb dX0_lineDue_5 rfl (lv_at hl 0 rfl) ?_
    refine lv_aload_n hx hb dX0_lineDue_6 rfl (lv_at hl 1 rfl) ?_
    refine lv_iload_n hx hb dX0_lineDue_7 rfl (lv_at hl 2 rfl) ?_
    obtain ⟨r_9, h_8, hf⟩ := bind_of hf
    refine cV (As := [.ref (a p1), .int p2]) (rest := []) ⟨hx, hb, hml, hown, hts⟩ hG hA hw (c_X0_lineBeforeCap G l a ha R S i0 p1 p2 r_9 h_8) (cwV 2 hts gX0_lineDue_X0_lineBeforeCap rfl rfl rfl (by decide +kernel) ⟨Nat.le_of_ble_eq_true rfl, Nat.le_of_ble_eq_true rfl⟩) (va_recv hG.1 hw.1 (ci := 0) (q0 := 45 + i0) rfl (xw_atC hc_1)) rfl hl.1 rfl (Nat.le_of_ble_eq_true rfl) dX0_lineDue_8 ⟨Nat.zero_le _, Nat.zero_le _⟩ (fun H locs hw => ?_)
    have e_10 := Option.some.inj hf
    subst e_10
    exact wd_iret hx hb hr hlocks hw dX0_lineDue_11
/-! DutyDesk$Call.sumDue([I)I -/
def rm_X0_sumDue : Room := { frames := 3, cells := 0, slots := 0, locals := 66 }
def f_X0_sumDue (S : St) (i0 : Nat) (p1 : Nat) : Option (Int32) :=
  gn i0 (nC S) (gk p1 ((f_X0_sumBeforeCap S i0 p1).bind (fun r_4 => gd 8 12 (some ((if 0 < (if (gT S p1 (8 : Int32).toNatClampNeg) < r_4 then (gT S p1 (8 : Int32).toNatClampNeg) else r_4) then (if (gT S p1 (8 : Int32).toNatClampNeg) < r_4 then (gT S p1 (8 : Int32).toNatClampNeg) else r_4) else 0))))))
set_option maxHeartbeats 4000000 in
set_option maxRecDepth 100000 in
theorem c_X0_sumDue (G : GP) (l : Launch) (a : Nat → Nat) (ha : a 45 = G.2.2.1) (R : va_W) (S : St) (i0 : Nat) (p1 : Nat) (r0 : Int32) (hf : f_X0_sumDue S i0 p1 = some r0) : MC G l yX0_sumDue wsX0_sumDue rm_X0_sumDue [.ref (a (50 + i0)), .ref (a p1)] (xw G.2.1 a R S) (xw G.2.1 a R S) (some (.int r0)) 0 0 := by
  refine MC.mk (cc := cX0_sumDue) (maxL := 2) (ret := (some .int)) (by decide) rfl (Nat.le_of_ble_eq_true rfl) ?_
  intro p e s m below meth c A ls ⟨hx, hb, hr, hml, hown, hlocks, _, hts⟩ hw hG hA hl
  have hl : lv_has ls 2 [(0, .ref (a (50 + i0))), (1, .ref (a p1))] := hl
  rw [f_X0_sumDue] at hf
  obtain ⟨hc_1, hf⟩ := gn_of hf
  obtain ⟨ht_2, hf⟩ := gk_of hf
  refine lv_iconst (v := 0) hx hb dX0_sumDue_0 (by decide) ?_
  refine lv_aload_n hx hb dX0_sumDue_1 rfl (lv_at hl 0 rfl) ?_
  refine lv_aload_n hx hb dX0_sumDue_2 rfl (lv_at hl 1 rfl) ?_
  obtain ⟨r_4, h_3, hf⟩ := bind_of hf
  refine cV (As := [.ref (a p1)]) (rest := [.int 0]) ⟨hx, hb, hml, hown, hts⟩ hG hA hw (c_X0_sumBeforeCap G l a ha R S i0 p1 r_4 h_3) (cwV 1 hts gX0_sumDue_X0_sumBeforeCap rfl rfl rfl (by decide +kernel) ⟨Nat.le_of_ble_eq_true rfl, Nat.le_of_ble_eq_true rfl⟩) (va_recv hG.1 hw.1 (ci := 0) (q0 := 45 + i0) rfl (xw_atC hc_1)) rfl hl.1 rfl (Nat.le_of_ble_eq_true rfl) dX0_sumDue_3 ⟨Nat.zero_le _, Nat.zero_le _⟩ (fun H locs hw => ?_)
  refine lv_aload_n hx hb dX0_sumDue_6 rfl (lv_at hl 1 rfl) ?_
  refine lv_bipush (v := 8) hx hb dX0_sumDue_7 (by decide) ?_
  obtain ⟨h_5, hf⟩ := gd_of hf
  refine x_tald hx hb ha hG hw ht_2 h_5 dX0_sumDue_9 ?_
  refine va_mmin hx hb (by rw [hml]; exact hl.1.symm) hown (hts (.methodLink RX0 50 Lib.Math.min.name) (List.mem_of_getElem? (i := 1) rfl)) (hts (.static Lib.Math.min.name) (List.mem_of_getElem? (i := 2) rfl)) (hts (.initialized "java/lang/Math") (List.mem_of_getElem? (i := 3) rfl)) (hts (.code Lib.Math.min.name Lib.Math.min.code 2 (some .int)) (List.mem_of_getElem? (i := 4) rfl)) (Nat.le_of_ble_eq_true rfl) (Nat.le_of_ble_eq_true rfl) (Nat.zero_le _) (Nat.zero_le _) dX0_sumDue_10 ?_
  refine va_mmax hx hb (by rw [hml]; exact hl.1.symm) hown (hts (.methodLink RX0 67 Lib.Math.max.name) (List.mem_of_getElem? (i := 5) rfl)) (hts (.static Lib.Math.max.name) (List.mem_of_getElem? (i := 6) rfl)) (hts (.initialized "java/lang/Math") (List.mem_of_getElem? (i := 3) rfl)) (hts (.code Lib.Math.max.name Lib.Math.max.code 2 (some .int)) (List.mem_of_getElem? (i := 7) rfl)) (Nat.le_of_ble_eq_true rfl) (Nat.le_of_ble_eq_true rfl) (Nat.zero_le _) (Nat.zero_le _) dX0_sumDue_13 ?_
  have e_6 := Option.some.inj hf
  subst e_6
  exact wd_iret hx hb hr hlocks hw dX0_sumDue_16
