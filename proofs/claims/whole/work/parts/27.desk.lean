/-! DutyDesk.feed(IIIII)I -/
def rm_X7_feed : Room := { frames := 1, cells := 0, slots := 0, locals := 22 }
def f_X7_feed (S : St) (p1 : Int32) (p2 : Int32) (p3 : Int32) (p4 : Int32) (p5 : Int32) : Option (Int32 × St) :=
  (if ((gI S 0) + 20) ≤ 1000 then
    (f_X5_append S p1).bind (fun S_3 => (f_X5_append S_3 p2).bind (fun S_5 => (f_X5_append S_5 p3).bind (fun S_7 => (f_X5_append S_7 p4).bind (fun S_9 => (f_X5_append S_9 p5).bind (fun S_11 => some ((gI S_11 0, S_11)))))))
  else
    some (((-3), S)))
set_option maxHeartbeats 4000000 in
set_option maxRecDepth 100000 in
theorem c_X7_feed (G : GP) (l : Launch) (a : Nat → Nat) (ha : a 45 = G.2.2.1) (R : va_W) (S : St) (p1 : Int32) (p2 : Int32) (p3 : Int32) (p4 : Int32) (p5 : Int32) (r0 : Int32) (S9 : St) (hf : f_X7_feed S p1 p2 p3 p4 p5 = some (r0, S9)) : MC G l yX7_feed wsX7_feed rm_X7_feed [.ref (a 0), .int p1, .int p2, .int p3, .int p4, .int p5] (xw G.2.1 a R S) (xw G.2.1 a R S9) (some (.int r0)) 0 0 := by
  refine MC.mk (cc := cX7_feed) (maxL := 6) (ret := (some .int)) (by decide) rfl (Nat.le_of_ble_eq_true rfl) ?_
  intro p e s m below meth c A ls ⟨hx, hb, hr, hml, hown, hlocks, _, hts⟩ hw hG hA hl
  have hl : lv_has ls 6 [(0, .ref (a 0)), (1, .int p1), (2, .int p2), (3, .int p3), (4, .int p4), (5, .int p5)] := hl
  have hin5 : ∀ w ∈ u_ws RX5 TX5 12, w ∈ wsX7_feed := by decide +kernel
  have hin7 : ∀ w ∈ u_ws RX7 TX7 6, w ∈ wsX7_feed := by decide +kernel
  rw [f_X7_feed] at hf
  refine lv_aload_n hx hb dX7_feed_0 rfl (lv_at hl 0 rfl) ?_
  refine va_get (D := G.1) (ci := 7) (v := .ref (a 1)) (C := RX7) (T := TX7) (N := 6) hx hb hts hin7 hown hG.1 hw.1 0 rfl rfl 0 (by decide) (hts (.fieldLink RX7 10 "DutyDesk" "reader" "LDutyDesk$Reader;") (List.mem_of_getElem? (i := 1) rfl)) (fun _ h9 => h9) rfl dX7_feed_1 ?_
  refine va_getN (D := G.1) (ci := 5) (v := .int (gI S 0)) (C := RX5) (T := TX5) (N := 12) (host := "DutyDesk") hx hb hts hin5 hown hG.1 hw.1 1 rfl rfl 1 (by decide) (va_Nw.use rfl (hG.2.1 (.fieldLinkNest "DutyDesk" 57 "DutyDesk$Reader" "length" "I" "DutyDesk") (List.mem_of_getElem? (i := 0) rfl))) (fun _ h9 => h9) rfl dX7_feed_4 ?_
  refine lv_bipush (v := 20) hx hb dX7_feed_7 (by decide) ?_
  refine lv_iadd hx hb dX7_feed_9 ?_
  refine lv_sipush (v := 1000) hx hb dX7_feed_10 (by decide) ?_
  refine lv_icmp_le (tgt := 19) hx hb dX7_feed_13 (by decide) (fun c_1 => ?_) (fun c_1 => ?_)
  · replace hf := if_t c_1 hf
    refine lv_aload_n hx hb dX7_feed_19 rfl (lv_at hl 0 rfl) ?_
    refine va_get (D := G.1) (ci := 7) (v := .ref (a 1)) (C := RX7) (T := TX7) (N := 6) hx hb hts hin7 hown hG.1 hw.1 0 rfl rfl 0 (by decide) (hts (.fieldLink RX7 10 "DutyDesk" "reader" "LDutyDesk$Reader;") (List.mem_of_getElem? (i := 1) rfl)) (fun _ h9 => h9) rfl dX7_feed_20 ?_
    refine lv_iload_n hx hb dX7_feed_23 rfl (lv_at hl 1 rfl) ?_
    obtain ⟨S_3, h_2, hf⟩ := bind_of hf
    refine cVN (As := [.int p1]) (rest := []) ⟨hx, hb, hml, hown, hts⟩ hG hA hw (c_X5_append G l a ha R S p1 S_3 h_2) ⟨va_cnB 1 hts gX7_feed_X5_append_n61 rfl rfl rfl (hG.2.1 (.methodLinkNest "DutyDesk" 61 yX5_append "DutyDesk") (List.mem_of_getElem? (i := 52) rfl)) (hts (.initialized RX5) (List.mem_of_getElem? (i := 3) rfl)) (by decide +kernel) ⟨Nat.le_of_ble_eq_true rfl, Nat.le_of_ble_eq_true rfl⟩, hts (.instanceMethod yX5_append) (List.mem_of_getElem? (i := 2) rfl), hts (.selects RX5 yX5_append yX5_append) (List.mem_of_getElem? (i := 4) rfl)⟩ (va_recv hG.1 hw.1 (ci := 5) (q0 := 1) rfl rfl) rfl hl.1 rfl (Nat.le_of_ble_eq_true rfl) dX7_feed_24 ⟨Nat.zero_le _, Nat.zero_le _⟩ (fun H locs hw => ?_)
    refine lv_aload_n hx hb dX7_feed_27 rfl (lv_at hl 0 rfl) ?_
    refine va_get (D := G.1) (ci := 7) (v := .ref (a 1)) (C := RX7) (T := TX7) (N := 6) hx hb hts hin7 hown hG.1 hw.1 0 rfl rfl 0 (by decide) (hts (.fieldLink RX7 10 "DutyDesk" "reader" "LDutyDesk$Reader;") (List.mem_of_getElem? (i := 1) rfl)) (fun _ h9 => h9) rfl dX7_feed_28 ?_
    refine lv_iload_n hx hb dX7_feed_31 rfl (lv_at hl 2 rfl) ?_
    obtain ⟨S_5, h_4, hf⟩ := bind_of hf
    refine cVN (As := [.int p2]) (rest := []) ⟨hx, hb, hml, hown, hts⟩ hG hA hw (c_X5_append G l a ha R S_3 p2 S_5 h_4) ⟨va_cnB 1 hts gX7_feed_X5_append_n61 rfl rfl rfl (hG.2.1 (.methodLinkNest "DutyDesk" 61 yX5_append "DutyDesk") (List.mem_of_getElem? (i := 52) rfl)) (hts (.initialized RX5) (List.mem_of_getElem? (i := 3) rfl)) (by decide +kernel) ⟨Nat.le_of_ble_eq_true rfl, Nat.le_of_ble_eq_true rfl⟩, hts (.instanceMethod yX5_append) (List.mem_of_getElem? (i := 2) rfl), hts (.selects RX5 yX5_append yX5_append) (List.mem_of_getElem? (i := 4) rfl)⟩ (va_recv hG.1 hw.1 (ci := 5) (q0 := 1) rfl rfl) rfl hl.1 rfl (Nat.le_of_ble_eq_true rfl) dX7_feed_32 ⟨Nat.zero_le _, Nat.zero_le _⟩ (fun H locs hw => ?_)
    refine lv_aload_n hx hb dX7_feed_35 rfl (lv_at hl 0 rfl) ?_
    refine va_get (D := G.1) (ci := 7) (v := .ref (a 1)) (C := RX7) (T := TX7) (N := 6) hx hb hts hin7 hown hG.1 hw.1 0 rfl rfl 0 (by decide) (hts (.fieldLink RX7 10 "DutyDesk" "reader" "LDutyDesk$Reader;") (List.mem_of_getElem? (i := 1) rfl)) (fun _ h9 => h9) rfl dX7_feed_36 ?_
    refine lv_iload_n hx hb dX7_feed_39 rfl (lv_at hl 3 rfl) ?_
    obtain ⟨S_7, h_6, hf⟩ := bind_of hf
    refine cVN (As := [.int p3]) (rest := []) ⟨hx, hb, hml, hown, hts⟩ hG hA hw (c_X5_append G l a ha R S_5 p3 S_7 h_6) ⟨va_cnB 1 hts gX7_feed_X5_append_n61 rfl rfl rfl (hG.2.1 (.methodLinkNest "DutyDesk" 61 yX5_append "DutyDesk") (List.mem_of_getElem? (i := 52) rfl)) (hts (.initialized RX5) (List.mem_of_getElem? (i := 3) rfl)) (by decide +kernel) ⟨Nat.le_of_ble_eq_true rfl, Nat.le_of_ble_eq_true rfl⟩, hts (.instanceMethod yX5_append) (List.mem_of_getElem? (i := 2) rfl), hts (.selects RX5 yX5_append yX5_append) (List.mem_of_getElem? (i := 4) rfl)⟩ (va_recv hG.1 hw.1 (ci := 5) (q0 := 1) rfl rfl) rfl hl.1 rfl (Nat.le_of_ble_eq_true rfl) dX7_feed_40 ⟨Nat.zero_le _, Nat.zero_le _⟩ (fun H locs hw => ?_)
    refine lv_aload_n hx hb dX7_feed_43 rfl (lv_at hl 0 rfl) ?_
    refine va_get (D := G.1) (ci := 7) (v := .ref (a 1)) (C := RX7) (T := TX7) (N := 6) hx hb hts hin7 hown hG.1 hw.1 0 rfl rfl 0 (by decide) (hts (.fieldLink RX7 10 "DutyDesk" "reader" "LDutyDesk$Reader;") (List.mem_of_getElem? (i := 1) rfl)) (fun _ h9 => h9) rfl dX7_feed_44 ?_
    refine lv_iload hx hb dX7_feed_47 (lv_at hl 4 rfl) ?_
    obtain ⟨S_9, h_8, hf⟩ := bind_of hf
    refine cVN (As := [.int p4]) (rest := []) ⟨hx, hb, hml, hown, hts⟩ hG hA hw (c_X5_append G l a ha R S_7 p4 S_9 h_8) ⟨va_cnB 1 hts gX7_feed_X5_append_n61 rfl rfl rfl (hG.2.1 (.methodLinkNest "DutyDesk" 61 yX5_append "DutyDesk") (List.mem_of_getElem? (i := 52) rfl)) (hts (.initialized RX5) (List.mem_of_getElem? (i := 3) rfl)) (by decide +kernel) ⟨Nat.le_of_ble_eq_true rfl, Nat.le_of_ble_eq_true rfl⟩, hts (.instanceMethod yX5_append) (List.mem_of_getElem? (i := 2) rfl), hts (.selects RX5 yX5_append yX5_append) (List.mem_of_getElem? (i := 4) rfl)⟩ (va_recv hG.1 hw.1 (ci := 5) (q0 := 1) rfl rfl) rfl hl.1 rfl (Nat.le_of_ble_eq_true rfl) dX7_feed_49 ⟨Nat.zero_le _, Nat.zero_le _⟩ (fun H locs hw => ?_)
    refine lv_aload_n hx hb dX7_feed_52 rfl (lv_at hl 0 rfl) ?_
    refine va_get (D := G.1) (ci := 7) (v := .ref (a 1)) (C := RX7) (T := TX7) (N := 6) hx hb hts hin7 hown hG.1 hw.1 0 rfl rfl 0 (by decide) (hts (.fieldLink RX7 10 "DutyDesk" "reader" "LDutyDesk$Reader;") (List.mem_of_getElem? (i := 1) rfl)) (fun _ h9 => h9) rfl dX7_feed_53 ?_
    refine lv_iload hx hb dX7_feed_56 (lv_at hl 5 rfl) ?_
    obtain ⟨S_11, h_10, hf⟩ := bind_of hf
    refine cVN (As := [.int p5]) (rest := []) ⟨hx, hb, hml, hown, hts⟩ hG hA hw (c_X5_append G l a ha R S_9 p5 S_11 h_10) ⟨va_cnB 1 hts gX7_feed_X5_append_n61 rfl rfl rfl (hG.2.1 (.methodLinkNest "DutyDesk" 61 yX5_append "DutyDesk") (List.mem_of_getElem? (i := 52) rfl)) (hts (.initialized RX5) (List.mem_of_getElem? (i := 3) rfl)) (by decide +kernel) ⟨Nat.le_of_ble_eq_true rfl, Nat.le_of_ble_eq_true rfl⟩, hts (.instanceMethod yX5_append) (List.mem_of_getElem? (i := 2) rfl), hts (.selects RX5 yX5_append yX5_append) (List.mem_of_getElem? (i := 4) rfl)⟩ (va_recv hG.1 hw.1 (ci := 5) (q0 := 1) rfl rfl) rfl hl.1 rfl (Nat.le_of_ble_eq_true rfl) dX7_feed_58 ⟨Nat.zero_le _, Nat.zero_le _⟩ (fun H locs hw => ?_)
    refine lv_aload_n hx hb dX7_feed_61 rfl (lv_at hl 0 rfl) ?_
    refine va_get (D := G.1) (ci := 7) (v := .ref (a 1)) (C := RX7) (T := TX7) (N := 6) hx hb hts hin7 hown hG.1 hw.1 0 rfl rfl 0 (by decide) (hts (.fieldLink RX7 10 "DutyDesk" "reader" "LDutyDesk$Reader;") (List.mem_of_getElem? (i := 1) rfl)) (fun _ h9 => h9) rfl dX7_feed_62 ?_
    refine va_getN (D := G.1) (ci := 5) (v := .int (gI S_11 0)) (C := RX5) (T := TX5) (N := 12) (host := "DutyDesk") hx hb hts hin5 hown hG.1 hw.1 1 rfl rfl 1 (by decide) (va_Nw.use rfl (hG.2.1 (.fieldLinkNest "DutyDesk" 57 "DutyDesk$Reader" "length" "I" "DutyDesk") (List.mem_of_getElem? (i := 0) rfl))) (fun _ h9 => h9) rfl dX7_feed_65 ?_
    have e_12 := Option.some.inj hf
    obtain ⟨rfl, rfl⟩ := Prod.mk.inj e_12
    exact wd_iret hx hb hr hlocks hw dX7_feed_68
  · replace hf := if_f c_1 hf
    refine lv_bipush (v := (-3)) hx hb dX7_feed_16 (by decide) ?_
    have e_13 := Option.some.inj hf
    obtain ⟨rfl, rfl⟩ := Prod.mk.inj e_13
    exact wd_iret hx hb hr hlocks hw dX7_feed_18
/-! DutyDesk.end(I)I -/
def rm_X7_end : Room := { frames := 0, cells := 0, slots := 0, locals := 0 }
def f_X7_end (S : St) (p1 : Int32) : Option (Int32 × St) :=
  (if p1 < 0 then
    some (((-1), S))
  else
    (if p1 ≤ (gI S 0) then
    bnd (sI S 0 p1) fun S_4 => some ((p1, S_4))
  else
    some (((-1), S))))
set_option maxHeartbeats 4000000 in
set_option maxRecDepth 100000 in
theorem c_X7_end (G : GP) (l : Launch) (a : Nat → Nat) (ha : a 45 = G.2.2.1) (R : va_W) (S : St) (p1 : Int32) (r0 : Int32) (S9 : St) (hf : f_X7_end S p1 = some (r0, S9)) : MC G l yX7_end wsX7_end rm_X7_end [.ref (a 0), .int p1] (xw G.2.1 a R S) (xw G.2.1 a R S9) (some (.int r0)) 0 0 := by
  refine MC.mk (cc := cX7_end) (maxL := 2) (ret := (some .int)) (by decide) rfl (Nat.le_of_ble_eq_true rfl) ?_
  intro p e s m below meth c A ls ⟨hx, hb, hr, hml, hown, hlocks, _, hts⟩ hw hG hA hl
  have hl : lv_has ls 2 [(0, .ref (a 0)), (1, .int p1)] := hl
  have hin5 : ∀ w ∈ u_ws RX5 TX5 12, w ∈ wsX7_end := by decide +kernel
  have hin7 : ∀ w ∈ u_ws RX7 TX7 6, w ∈ wsX7_end := by decide +kernel
  rw [f_X7_end] at hf
  refine lv_iload_n hx hb dX7_end_0 rfl (lv_at hl 1 rfl) ?_
  refine lv_if_lt (tgt := 15) hx hb dX7_end_1 (by decide) (fun c_1 => ?_) (fun c_1 => ?_)
  · replace hf := if_t c_1 hf
    refine lv_iconst (v := (-1)) hx hb dX7_end_15 (by decide) ?_
    have e_2 := Option.some.inj hf
    obtain ⟨rfl, rfl⟩ := Prod.mk.inj e_2
    exact wd_iret hx hb hr hlocks hw dX7_end_16
  · replace hf := if_f c_1 hf
    refine lv_iload_n hx hb dX7_end_4 rfl (lv_at hl 1 rfl) ?_
    refine lv_aload_n hx hb dX7_end_5 rfl (lv_at hl 0 rfl) ?_
    refine va_get (D := G.1) (ci := 7) (v := .ref (a 1)) (C := RX7) (T := TX7) (N := 6) hx hb hts hin7 hown hG.1 hw.1 0 rfl rfl 0 (by decide) (hts (.fieldLink RX7 10 "DutyDesk" "reader" "LDutyDesk$Reader;") (List.mem_of_getElem? (i := 1) rfl)) (fun _ h9 => h9) rfl dX7_end_6 ?_
    refine va_getN (D := G.1) (ci := 5) (v := .int (gI S 0)) (C := RX5) (T := TX5) (N := 12) (host := "DutyDesk") hx hb hts hin5 hown hG.1 hw.1 1 rfl rfl 1 (by decide) (va_Nw.use rfl (hG.2.1 (.fieldLinkNest "DutyDesk" 57 "DutyDesk$Reader" "length" "I" "DutyDesk") (List.mem_of_getElem? (i := 0) rfl))) (fun _ h9 => h9) rfl dX7_end_9 ?_
    refine lv_icmp_le (tgt := 17) hx hb dX7_end_12 (by decide) (fun c_3 => ?_) (fun c_3 => ?_)
    · replace hf := if_t c_3 hf
      refine lv_aload_n hx hb dX7_end_17 rfl (lv_at hl 0 rfl) ?_
      refine va_get (D := G.1) (ci := 7) (v := .ref (a 1)) (C := RX7) (T := TX7) (N := 6) hx hb hts hin7 hown hG.1 hw.1 0 rfl rfl 0 (by decide) (hts (.fieldLink RX7 10 "DutyDesk" "reader" "LDutyDesk$Reader;") (List.mem_of_getElem? (i := 1) rfl)) (fun _ h9 => h9) rfl dX7_end_18 ?_
      refine lv_iload_n hx hb dX7_end_21 rfl (lv_at hl 1 rfl) ?_
      refine va_putN (D := G.1) (ci := 5) (v := .int p1) (ty := .int) (C := RX5) (T := TX5) (N := 12) (host := "DutyDesk") hx hb hts hin5 tyX5 tyX5_ok nmX5 hown hG.1 hw.1 hw.2.1 hw.2.2 1 rfl rfl 1 (by decide) (va_Nw.use rfl (hG.2.1 (.fieldLinkNest "DutyDesk" 57 "DutyDesk$Reader" "length" "I" "DutyDesk") (List.mem_of_getElem? (i := 0) rfl))) (fun _ h9 => h9) rfl (by decide +kernel) rfl rfl (Nat.le_of_ble_eq_true rfl) dX7_end_22 (fun H locs hP hD hS => ?_)
      obtain ⟨S_4, eS_4⟩ : ∃ z : St, z = sI S 0 p1 := ⟨_, rfl⟩
      replace hf := bnd_of eS_4 hf
      have hw : Wd G A s H locs (xw G.2.1 a R S_4) := wd_eq (by rw [eS_4]; exact xw_upI0 _) hP hD hS
      refine lv_iload_n hx hb dX7_end_25 rfl (lv_at hl 1 rfl) ?_
      have e_5 := Option.some.inj hf
      obtain ⟨rfl, rfl⟩ := Prod.mk.inj e_5
      exact wd_iret hx hb hr hlocks hw dX7_end_26
    · replace hf := if_f c_3 hf
      refine lv_iconst (v := (-1)) hx hb dX7_end_15 (by decide) ?_
      have e_6 := Option.some.inj hf
      obtain ⟨rfl, rfl⟩ := Prod.mk.inj e_6
      exact wd_iret hx hb hr hlocks hw dX7_end_16
/-! DutyDesk.enter(III)I -/
def rm_X7_enter : Room := { frames := 1, cells := 0, slots := 0, locals := 23 }
def f_X7_enter (S : St) (p1 : Int32) (p2 : Int32) (p3 : Int32) : Option (Int32 × St) :=
  (f_X7_isBelow p1 10).bind (fun r_2 => (if r_2 = 0 then
    some (((-2), S))
  else
    (f_X7_isBelow p2 64).bind (fun r_6 => (if r_6 = 0 then
    some (((-2), S))
  else
    (f_X7_isBelow p3 256).bind (fun r_10 => (if r_10 = 0 then
    some (((-2), S))
  else
    (if (gI S 11) < 24 then
    (f_X3_add S p1 p2 p3).bind (fun (r_14, S_15) => some ((r_14, S_15)))
  else
    some (((-3), S)))))))))
set_option maxHeartbeats 4000000 in
set_option maxRecDepth 100000 in
theorem c_X7_enter (G : GP) (l : Launch) (a : Nat → Nat) (ha : a 45 = G.2.2.1) (R : va_W) (S : St) (p1 : Int32) (p2 : Int32) (p3 : Int32) (r0 : Int32) (S9 : St) (hf : f_X7_enter S p1 p2 p3 = some (r0, S9)) : MC G l yX7_enter wsX7_enter rm_X7_enter [.ref (a 0), .int p1, .int p2, .int p3] (xw G.2.1 a R S) (xw G.2.1 a R S9) (some (.int r0)) 0 0 := by
  refine MC.mk (cc := cX7_enter) (maxL := 4) (ret := (some .int)) (by decide) rfl (Nat.le_of_ble_eq_true rfl) ?_
  intro p e s m below meth c A ls ⟨hx, hb, hr, hml, hown, hlocks, _, hts⟩ hw hG hA hl
  have hl : lv_has ls 4 [(0, .ref (a 0)), (1, .int p1), (2, .int p2), (3, .int p3)] := hl
  have hin3 : ∀ w ∈ u_ws RX3 TX3 8, w ∈ wsX7_enter := by decide +kernel
  have hin7 : ∀ w ∈ u_ws RX7 TX7 6, w ∈ wsX7_enter := by decide +kernel
  rw [f_X7_enter] at hf
  refine lv_iload_n hx hb dX7_enter_0 rfl (lv_at hl 1 rfl) ?_
  refine lv_bipush (v := 10) hx hb dX7_enter_1 (by decide) ?_
  obtain ⟨r_2, h_1, hf⟩ := bind_of hf
  refine cS (As := [.int p1, .int 10]) (rest := []) ⟨hx, hb, hml, hown, hts⟩ hG hA hw (c_X7_isBelow G l _ p1 10 r_2 h_1) (va_cwS 2 hts gX7_enter_X7_isBelow rfl rfl rfl (by decide +kernel) ⟨Nat.le_of_ble_eq_true rfl, Nat.le_of_ble_eq_true rfl⟩) rfl hl.1 rfl (Nat.le_of_ble_eq_true rfl) dX7_enter_3 ⟨Nat.zero_le _, Nat.zero_le _⟩ (fun H locs hw => ?_)
  refine lv_if_eq (tgt := 28) hx hb dX7_enter_6 (by decide) (fun c_3 => ?_) (fun c_3 => ?_)
  · replace hf := if_t c_3 hf
    refine lv_bipush (v := (-2)) hx hb dX7_enter_28 (by decide) ?_
    have e_4 := Option.some.inj hf
    obtain ⟨rfl, rfl⟩ := Prod.mk.inj e_4
    exact wd_iret hx hb hr hlocks hw dX7_enter_30
  · replace hf := if_f c_3 hf
    refine lv_iload_n hx hb dX7_enter_9 rfl (lv_at hl 2 rfl) ?_
    refine lv_bipush (v := 64) hx hb dX7_enter_10 (by decide) ?_
    obtain ⟨r_6, h_5, hf⟩ := bind_of hf
    refine cS (As := [.int p2, .int 64]) (rest := []) ⟨hx, hb, hml, hown, hts⟩ hG hA hw (c_X7_isBelow G l _ p2 64 r_6 h_5) (va_cwS 2 hts gX7_enter_X7_isBelow rfl rfl rfl (by decide +kernel) ⟨Nat.le_of_ble_eq_true rfl, Nat.le_of_ble_eq_true rfl⟩) rfl hl.1 rfl (Nat.le_of_ble_eq_true rfl) dX7_enter_12 ⟨Nat.zero_le _, Nat.zero_le _⟩ (fun H locs hw => ?_)
    refine lv_if_eq (tgt := 28) hx hb dX7_enter_15 (by decide) (fun c_7 => ?_) (fun c_7 => ?_)
    · replace hf := if_t c_7 hf
      refine lv_bipush (v := (-2)) hx hb dX7_enter_28 (by decide) ?_
      have e_8 := Option.some.inj hf
      obtain ⟨rfl, rfl⟩ := Prod.mk.inj e_8
      exact wd_iret hx hb hr hlocks hw dX7_enter_30
    · replace hf := if_f c_7 hf
      refine lv_iload_n hx hb dX7_enter_18 rfl (lv_at hl 3 rfl) ?_
      refine lv_sipush (v := 256) hx hb dX7_enter_19 (by decide) ?_
      obtain ⟨r_10, h_9, hf⟩ := bind_of hf
      refine cS (As := [.int p3, .int 256]) (rest := []) ⟨hx, hb, hml, hown, hts⟩ hG hA hw (c_X7_isBelow G l _ p3 256 r_10 h_9) (va_cwS 2 hts gX7_enter_X7_isBelow rfl rfl rfl (by decide +kernel) ⟨Nat.le_of_ble_eq_true rfl, Nat.le_of_ble_eq_true rfl⟩) rfl hl.1 rfl (Nat.le_of_ble_eq_true rfl) dX7_enter_22 ⟨Nat.zero_le _, Nat.zero_le _⟩ (fun H locs hw => ?_)
      refine lv_if_ne (tgt := 31) hx hb dX7_enter_25 (by decide) (fun c_11 => ?_) (fun c_11 => ?_)
      · replace hf := if_f c_11 hf
        refine lv_aload_n hx hb dX7_enter_31 rfl (lv_at hl 0 rfl) ?_
        refine va_get (D := G.1) (ci := 7) (v := .ref (a 3)) (C := RX7) (T := TX7) (N := 6) hx hb hts hin7 hown hG.1 hw.1 0 rfl rfl 2 (by decide) (hts (.fieldLink RX7 26 "DutyDesk" "people" "LDutyDesk$People;") (List.mem_of_getElem? (i := 1) rfl)) (fun _ h9 => h9) rfl dX7_enter_32 ?_
        refine va_getN (D := G.1) (ci := 3) (v := .int (gI S 11)) (C := RX3) (T := TX3) (N := 8) (host := "DutyDesk") hx hb hts hin3 hown hG.1 hw.1 3 rfl rfl 7 (by decide) (va_Nw.use rfl (hG.2.1 (.fieldLinkNest "DutyDesk" 69 "DutyDesk$People" "size" "I" "DutyDesk") (List.mem_of_getElem? (i := 13) rfl))) (fun _ h9 => h9) rfl dX7_enter_35 ?_
        refine lv_bipush (v := 24) hx hb dX7_enter_38 (by decide) ?_
        refine lv_icmp_lt (tgt := 46) hx hb dX7_enter_40 (by decide) (fun c_12 => ?_) (fun c_12 => ?_)
        · replace hf := if_t c_12 hf
          refine lv_aload_n hx hb dX7_enter_46 rfl (lv_at hl 0 rfl) ?_
          refine va_get (D := G.1) (ci := 7) (v := .ref (a 3)) (C := RX7) (T := TX7) (N := 6) hx hb hts hin7 hown hG.1 hw.1 0 rfl rfl 2 (by decide) (hts (.fieldLink RX7 26 "DutyDesk" "people" "LDutyDesk$People;") (List.mem_of_getElem? (i := 1) rfl)) (fun _ h9 => h9) rfl dX7_enter_47 ?_
          refine lv_iload_n hx hb dX7_enter_50 rfl (lv_at hl 1 rfl) ?_
          refine lv_iload_n hx hb dX7_enter_51 rfl (lv_at hl 2 rfl) ?_
          refine lv_iload_n hx hb dX7_enter_52 rfl (lv_at hl 3 rfl) ?_
          obtain ⟨⟨r_14, S_15⟩, h_13, hf⟩ := bind_of hf
          replace hf : _ = some _ := hf
          refine cVN (As := [.int p1, .int p2, .int p3]) (rest := []) ⟨hx, hb, hml, hown, hts⟩ hG hA hw (c_X3_add G l a ha R S p1 p2 p3 r_14 S_15 h_13) ⟨va_cnB 3 hts gX7_enter_X3_add_n72 rfl rfl rfl (hG.2.1 (.methodLinkNest "DutyDesk" 72 yX3_add "DutyDesk") (List.mem_of_getElem? (i := 53) rfl)) (hts (.initialized RX3) (List.mem_of_getElem? (i := 7) rfl)) (by decide +kernel) ⟨Nat.le_of_ble_eq_true rfl, Nat.le_of_ble_eq_true rfl⟩, hts (.instanceMethod yX3_add) (List.mem_of_getElem? (i := 6) rfl), hts (.selects RX3 yX3_add yX3_add) (List.mem_of_getElem? (i := 8) rfl)⟩ (va_recv hG.1 hw.1 (ci := 3) (q0 := 3) rfl rfl) rfl hl.1 rfl (Nat.le_of_ble_eq_true rfl) dX7_enter_53 ⟨Nat.zero_le _, Nat.zero_le _⟩ (fun H locs hw => ?_)
          have e_16 := Option.some.inj hf
          obtain ⟨rfl, rfl⟩ := Prod.mk.inj e_16
          exact wd_iret hx hb hr hlocks hw dX7_enter_56
        · replace hf := if_f c_12 hf
          refine lv_bipush (v := (-3)) hx hb dX7_enter_43 (by decide) ?_
          have e_17 := Option.some.inj hf
          obtain ⟨rfl, rfl⟩ := Prod.mk.inj e_17
          exact wd_iret hx hb hr hlocks hw dX7_enter_45
      · replace hf := if_t c_11 hf
        refine lv_bipush (v := (-2)) hx hb dX7_enter_28 (by decide) ?_
        have e_18 := Option.some.inj hf
        obtain ⟨rfl, rfl⟩ := Prod.mk.inj e_18
        exact wd_iret hx hb hr hlocks hw dX7_enter_30
/-! DutyDesk.away(IIZ)I -/
def rm_X7_away : Room := { frames := 2, cells := 0, slots := 0, locals := 43 }
def f_X7_away (S : St) (p1 : Int32) (p2 : Int32) (p3 : Int32) : Option (Int32 × St) :=
  (f_X3_has S p1).bind (fun r_2 => (if r_2 = 0 then
    some (((-2), S))
  else
    (f_X7_isBelow p2 1000).bind (fun r_6 => (if r_6 = 0 then
    some (((-2), S))
  else
    (f_X3_isAway S p1 p2).bind (fun r_9 => (if r_9 = p3 then
    some ((0, S))
  else
    (f_X3_turnAway S p1 p2).bind (fun S_12 => some ((1, S_12)))))))))
set_option maxHeartbeats 4000000 in
set_option maxRecDepth 100000 in
theorem c_X7_away (G : GP) (l : Launch) (a : Nat → Nat) (ha : a 45 = G.2.2.1) (R : va_W) (S : St) (p1 : Int32) (p2 : Int32) (p3 : Int32) (r0 : Int32) (S9 : St) (hf : f_X7_away S p1 p2 p3 = some (r0, S9)) : MC G l yX7_away wsX7_away rm_X7_away [.ref (a 0), .int p1, .int p2, .int p3] (xw G.2.1 a R S) (xw G.2.1 a R S9) (some (.int r0)) 0 0 := by
  refine MC.mk (cc := cX7_away) (maxL := 4) (ret := (some .int)) (by decide) rfl (Nat.le_of_ble_eq_true rfl) ?_
  intro p e s m below meth c A ls ⟨hx, hb, hr, hml, hown, hlocks, _, hts⟩ hw hG hA hl
  have hl : lv_has ls 4 [(0, .ref (a 0)), (1, .int p1), (2, .int p2), (3, .int p3)] := hl
  have hin7 : ∀ w ∈ u_ws RX7 TX7 6, w ∈ wsX7_away := by decide +kernel
  rw [f_X7_away] at hf
  refine lv_aload_n hx hb dX7_away_0 rfl (lv_at hl 0 rfl) ?_
  refine va_get (D := G.1) (ci := 7) (v := .ref (a 3)) (C := RX7) (T := TX7) (N := 6) hx hb hts hin7 hown hG.1 hw.1 0 rfl rfl 2 (by decide) (hts (.fieldLink RX7 26 "DutyDesk" "people" "LDutyDesk$People;") (List.mem_of_getElem? (i := 1) rfl)) (fun _ h9 => h9) rfl dX7_away_1 ?_
  refine lv_iload_n hx hb dX7_away_4 rfl (lv_at hl 1 rfl) ?_
  obtain ⟨r_2, h_1, hf⟩ := bind_of hf
  refine cVN (As := [.int p1]) (rest := []) ⟨hx, hb, hml, hown, hts⟩ hG hA hw (c_X3_has G l a ha R S p1 r_2 h_1) ⟨va_cnB 1 hts gX7_away_X3_has_n76 rfl rfl rfl (hG.2.1 (.methodLinkNest "DutyDesk" 76 yX3_has "DutyDesk") (List.mem_of_getElem? (i := 54) rfl)) (hts (.initialized RX3) (List.mem_of_getElem? (i := 3) rfl)) (by decide +kernel) ⟨Nat.le_of_ble_eq_true rfl, Nat.le_of_ble_eq_true rfl⟩, hts (.instanceMethod yX3_has) (List.mem_of_getElem? (i := 2) rfl), hts (.selects RX3 yX3_has yX3_has) (List.mem_of_getElem? (i := 4) rfl)⟩ (va_recv hG.1 hw.1 (ci := 3) (q0 := 3) rfl rfl) rfl hl.1 rfl (Nat.le_of_ble_eq_true rfl) dX7_away_5 ⟨Nat.zero_le _, Nat.zero_le _⟩ (fun H locs hw => ?_)
  refine lv_if_eq (tgt := 21) hx hb dX7_away_8 (by decide) (fun c_3 => ?_) (fun c_3 => ?_)
  · replace hf := if_t c_3 hf
    refine lv_bipush (v := (-2)) hx hb dX7_away_21 (by decide) ?_
    have e_4 := Option.some.inj hf
    obtain ⟨rfl, rfl⟩ := Prod.mk.inj e_4
    exact wd_iret hx hb hr hlocks hw dX7_away_23
  · replace hf := if_f c_3 hf
    refine lv_iload_n hx hb dX7_away_11 rfl (lv_at hl 2 rfl) ?_
    refine lv_sipush (v := 1000) hx hb dX7_away_12 (by decide) ?_
    obtain ⟨r_6, h_5, hf⟩ := bind_of hf
    refine cS (As := [.int p2, .int 1000]) (rest := []) ⟨hx, hb, hml, hown, hts⟩ hG hA hw (c_X7_isBelow G l _ p2 1000 r_6 h_5) (va_cwS 2 hts gX7_away_X7_isBelow rfl rfl rfl (by decide +kernel) ⟨Nat.le_of_ble_eq_true rfl, Nat.le_of_ble_eq_true rfl⟩) rfl hl.1 rfl (Nat.le_of_ble_eq_true rfl) dX7_away_15 ⟨Nat.zero_le _, Nat.zero_le _⟩ (fun H locs hw => ?_)
    refine lv_if_ne (tgt := 24) hx hb dX7_away_18 (by decide) (fun c_7 => ?_) (fun c_7 => ?_)
    · replace hf := if_f c_7 hf
      refine lv_aload_n hx hb dX7_away_24 rfl (lv_at hl 0 rfl) ?_
      refine va_get (D := G.1) (ci := 7) (v := .ref (a 3)) (C := RX7) (T := TX7) (N := 6) hx hb hts hin7 hown hG.1 hw.1 0 rfl rfl 2 (by decide) (hts (.fieldLink RX7 26 "DutyDesk" "people" "LDutyDesk$People;") (List.mem_of_getElem? (i := 1) rfl)) (fun _ h9 => h9) rfl dX7_away_25 ?_
      refine lv_iload_n hx hb dX7_away_28 rfl (lv_at hl 1 rfl) ?_
      refine lv_iload_n hx hb dX7_away_29 rfl (lv_at hl 2 rfl) ?_
      obtain ⟨r_9, h_8, hf⟩ := bind_of hf
      refine cVN (As := [.int p1, .int p2]) (rest := []) ⟨hx, hb, hml, hown, hts⟩ hG hA hw (c_X3_isAway G l a ha R S p1 p2 r_9 h_8) ⟨va_cnB 2 hts gX7_away_X3_isAway_n80 rfl rfl rfl (hG.2.1 (.methodLinkNest "DutyDesk" 80 yX3_isAway "DutyDesk") (List.mem_of_getElem? (i := 56) rfl)) (hts (.initialized RX3) (List.mem_of_getElem? (i := 3) rfl)) (by decide +kernel) ⟨Nat.le_of_ble_eq_true rfl, Nat.le_of_ble_eq_true rfl⟩, hts (.instanceMethod yX3_isAway) (List.mem_of_getElem? (i := 11) rfl), hts (.selects RX3 yX3_isAway yX3_isAway) (List.mem_of_getElem? (i := 12) rfl)⟩ (va_recv hG.1 hw.1 (ci := 3) (q0 := 3) rfl rfl) rfl hl.1 rfl (Nat.le_of_ble_eq_true rfl) dX7_away_30 ⟨Nat.zero_le _, Nat.zero_le _⟩ (fun H locs hw => ?_)
      refine lv_iload_n hx hb dX7_away_33 rfl (lv_at hl 3 rfl) ?_
      refine lv_icmp_ne (tgt := 39) hx hb dX7_away_34 (by decide) (fun c_10 => ?_) (fun c_10 => ?_)
      · replace hf := if_f c_10 hf
        refine lv_aload_n hx hb dX7_away_39 rfl (lv_at hl 0 rfl) ?_
        refine va_get (D := G.1) (ci := 7) (v := .ref (a 3)) (C := RX7) (T := TX7) (N := 6) hx hb hts hin7 hown hG.1 hw.1 0 rfl rfl 2 (by decide) (hts (.fieldLink RX7 26 "DutyDesk" "people" "LDutyDesk$People;") (List.mem_of_getElem? (i := 1) rfl)) (fun _ h9 => h9) rfl dX7_away_40 ?_
        refine lv_iload_n hx hb dX7_away_43 rfl (lv_at hl 1 rfl) ?_
        refine lv_iload_n hx hb dX7_away_44 rfl (lv_at hl 2 rfl) ?_
        obtain ⟨S_12, h_11, hf⟩ := bind_of hf
        refine cVN (As := [.int p1, .int p2]) (rest := []) ⟨hx, hb, hml, hown, hts⟩ hG hA hw (c_X3_turnAway G l a ha R S p1 p2 S_12 h_11) ⟨va_cnB 2 hts gX7_away_X3_turnAway_n83 rfl rfl rfl (hG.2.1 (.methodLinkNest "DutyDesk" 83 yX3_turnAway "DutyDesk") (List.mem_of_getElem? (i := 58) rfl)) (hts (.initialized RX3) (List.mem_of_getElem? (i := 3) rfl)) (by decide +kernel) ⟨Nat.le_of_ble_eq_true rfl, Nat.le_of_ble_eq_true rfl⟩, hts (.instanceMethod yX3_turnAway) (List.mem_of_getElem? (i := 17) rfl), hts (.selects RX3 yX3_turnAway yX3_turnAway) (List.mem_of_getElem? (i := 18) rfl)⟩ (va_recv hG.1 hw.1 (ci := 3) (q0 := 3) rfl rfl) rfl hl.1 rfl (Nat.le_of_ble_eq_true rfl) dX7_away_45 ⟨Nat.zero_le _, Nat.zero_le _⟩ (fun H locs hw => ?_)
        refine lv_iconst (v := 1) hx hb dX7_away_48 (by decide) ?_
        have e_13 := Option.some.inj hf
        obtain ⟨rfl, rfl⟩ := Prod.mk.inj e_13
        exact wd_iret hx hb hr hlocks hw dX7_away_49
      · replace hf := if_t c_10 hf
        refine lv_iconst (v := 0) hx hb dX7_away_37 (by decide) ?_
        have e_14 := Option.some.inj hf
        obtain ⟨rfl, rfl⟩ := Prod.mk.inj e_14
        exact wd_iret hx hb hr hlocks hw dX7_away_38
    · replace hf := if_t c_7 hf
      refine lv_bipush (v := (-2)) hx hb dX7_away_21 (by decide) ?_
      have e_15 := Option.some.inj hf
      obtain ⟨rfl, rfl⟩ := Prod.mk.inj e_15
      exact wd_iret hx hb hr hlocks hw dX7_away_23
/-! DutyDesk.strike(II)I -/
def rm_X7_strike : Room := { frames := 7, cells := 0, slots := 0, locals := 169 }
def f_X7_strike (S : St) (p1 : Int32) (p2 : Int32) : Option (Int32 × St) :=
  (f_X3_has S p1).bind (fun r_2 => (if r_2 = 0 then
    some (((-2), S))
  else
    (f_X7_isBelow p2 1000).bind (fun r_6 => (if r_6 = 0 then
    some (((-2), S))
  else
    (f_X3_isStruck S p1 p2).bind (fun r_10 => (if r_10 = 0 then
    gd p1 24 (bnd (sM S 13 (p1.toNatClampNeg) p2) fun S_13 => (f_X2_passOn S_13 p1 p2).bind (fun (r_15, S_16) => some ((r_15, S_16))))
  else
    some (((-2), S))))))))
set_option maxHeartbeats 4000000 in
set_option maxRecDepth 100000 in
theorem c_X7_strike (G : GP) (l : Launch) (a : Nat → Nat) (ha : a 45 = G.2.2.1) (R : va_W) (S : St) (p1 : Int32) (p2 : Int32) (r0 : Int32) (S9 : St) (hf : f_X7_strike S p1 p2 = some (r0, S9)) : MC G l yX7_strike wsX7_strike rm_X7_strike [.ref (a 0), .int p1, .int p2] (xw G.2.1 a R S) (xw G.2.1 a R S9) (some (.int r0)) 0 0 := by
  refine MC.mk (cc := cX7_strike) (maxL := 3) (ret := (some .int)) (by decide) rfl (Nat.le_of_ble_eq_true rfl) ?_
  intro p e s m below meth c A ls ⟨hx, hb, hr, hml, hown, hlocks, _, hts⟩ hw hG hA hl
  have hl : lv_has ls 3 [(0, .ref (a 0)), (1, .int p1), (2, .int p2)] := hl
  have hin3 : ∀ w ∈ u_ws RX3 TX3 8, w ∈ wsX7_strike := by decide +kernel
  have hin7 : ∀ w ∈ u_ws RX7 TX7 6, w ∈ wsX7_strike := by decide +kernel
  rw [f_X7_strike] at hf
  refine lv_aload_n hx hb dX7_strike_0 rfl (lv_at hl 0 rfl) ?_
  refine va_get (D := G.1) (ci := 7) (v := .ref (a 3)) (C := RX7) (T := TX7) (N := 6) hx hb hts hin7 hown hG.1 hw.1 0 rfl rfl 2 (by decide) (hts (.fieldLink RX7 26 "DutyDesk" "people" "LDutyDesk$People;") (List.mem_of_getElem? (i := 1) rfl)) (fun _ h9 => h9) rfl dX7_strike_1 ?_
  refine lv_iload_n hx hb dX7_strike_4 rfl (lv_at hl 1 rfl) ?_
  obtain ⟨r_2, h_1, hf⟩ := bind_of hf
  refine cVN (As := [.int p1]) (rest := []) ⟨hx, hb, hml, hown, hts⟩ hG hA hw (c_X3_has G l a ha R S p1 r_2 h_1) ⟨va_cnB 1 hts gX7_strike_X3_has_n76 rfl rfl rfl (hG.2.1 (.methodLinkNest "DutyDesk" 76 yX3_has "DutyDesk") (List.mem_of_getElem? (i := 54) rfl)) (hts (.initialized RX3) (List.mem_of_getElem? (i := 4) rfl)) (by decide +kernel) ⟨Nat.le_of_ble_eq_true rfl, Nat.le_of_ble_eq_true rfl⟩, hts (.instanceMethod yX3_has) (List.mem_of_getElem? (i := 3) rfl), hts (.selects RX3 yX3_has yX3_has) (List.mem_of_getElem? (i := 5) rfl)⟩ (va_recv hG.1 hw.1 (ci := 3) (q0 := 3) rfl rfl) rfl hl.1 rfl (Nat.le_of_ble_eq_true rfl) dX7_strike_5 ⟨Nat.zero_le _, Nat.zero_le _⟩ (fun H locs hw => ?_)
  refine lv_if_eq (tgt := 33) hx hb dX7_strike_8 (by decide) (fun c_3 => ?_) (fun c_3 => ?_)
  · replace hf := if_t c_3 hf
    refine lv_bipush (v := (-2)) hx hb dX7_strike_33 (by decide) ?_
    have e_4 := Option.some.inj hf
    obtain ⟨rfl, rfl⟩ := Prod.mk.inj e_4
    exact wd_iret hx hb hr hlocks hw dX7_strike_35
  · replace hf := if_f c_3 hf
    refine lv_iload_n hx hb dX7_strike_11 rfl (lv_at hl 2 rfl) ?_
    refine lv_sipush (v := 1000) hx hb dX7_strike_12 (by decide) ?_
    obtain ⟨r_6, h_5, hf⟩ := bind_of hf
    refine cS (As := [.int p2, .int 1000]) (rest := []) ⟨hx, hb, hml, hown, hts⟩ hG hA hw (c_X7_isBelow G l _ p2 1000 r_6 h_5) (va_cwS 2 hts gX7_strike_X7_isBelow rfl rfl rfl (by decide +kernel) ⟨Nat.le_of_ble_eq_true rfl, Nat.le_of_ble_eq_true rfl⟩) rfl hl.1 rfl (Nat.le_of_ble_eq_true rfl) dX7_strike_15 ⟨Nat.zero_le _, Nat.zero_le _⟩ (fun H locs hw => ?_)
    refine lv_if_eq (tgt := 33) hx hb dX7_strike_18 (by decide) (fun c_7 => ?_) (fun c_7 => ?_)
    · replace hf := if_t c_7 hf
      refine lv_bipush (v := (-2)) hx hb dX7_strike_33 (by decide) ?_
      have e_8 := Option.some.inj hf
      obtain ⟨rfl, rfl⟩ := Prod.mk.inj e_8
      exact wd_iret hx hb hr hlocks hw dX7_strike_35
    · replace hf := if_f c_7 hf
      refine lv_aload_n hx hb dX7_strike_21 rfl (lv_at hl 0 rfl) ?_
      refine va_get (D := G.1) (ci := 7) (v := .ref (a 3)) (C := RX7) (T := TX7) (N := 6) hx hb hts hin7 hown hG.1 hw.1 0 rfl rfl 2 (by decide) (hts (.fieldLink RX7 26 "DutyDesk" "people" "LDutyDesk$People;") (List.mem_of_getElem? (i := 1) rfl)) (fun _ h9 => h9) rfl dX7_strike_22 ?_
      refine lv_iload_n hx hb dX7_strike_25 rfl (lv_at hl 1 rfl) ?_
      refine lv_iload_n hx hb dX7_strike_26 rfl (lv_at hl 2 rfl) ?_
      obtain ⟨r_10, h_9, hf⟩ := bind_of hf
      refine cVN (As := [.int p1, .int p2]) (rest := []) ⟨hx, hb, hml, hown, hts⟩ hG hA hw (c_X3_isStruck G l a ha R S p1 p2 r_10 h_9) ⟨va_cnB 2 hts gX7_strike_X3_isStruck_n87 rfl rfl rfl (hG.2.1 (.methodLinkNest "DutyDesk" 87 yX3_isStruck "DutyDesk") (List.mem_of_getElem? (i := 59) rfl)) (hts (.initialized RX3) (List.mem_of_getElem? (i := 4) rfl)) (by decide +kernel) ⟨Nat.le_of_ble_eq_true rfl, Nat.le_of_ble_eq_true rfl⟩, hts (.instanceMethod yX3_isStruck) (List.mem_of_getElem? (i := 12) rfl), hts (.selects RX3 yX3_isStruck yX3_isStruck) (List.mem_of_getElem? (i := 13) rfl)⟩ (va_recv hG.1 hw.1 (ci := 3) (q0 := 3) rfl rfl) rfl hl.1 rfl (Nat.le_of_ble_eq_true rfl) dX7_strike_27 ⟨Nat.zero_le _, Nat.zero_le _⟩ (fun H locs hw => ?_)
      refine lv_if_eq (tgt := 36) hx hb dX7_strike_30 (by decide) (fun c_11 => ?_) (fun c_11 => ?_)
      · replace hf := if_t c_11 hf
        refine lv_aload_n hx hb dX7_strike_36 rfl (lv_at hl 0 rfl) ?_
        refine va_get (D := G.1) (ci := 7) (v := .ref (a 3)) (C := RX7) (T := TX7) (N := 6) hx hb hts hin7 hown hG.1 hw.1 0 rfl rfl 2 (by decide) (hts (.fieldLink RX7 26 "DutyDesk" "people" "LDutyDesk$People;") (List.mem_of_getElem? (i := 1) rfl)) (fun _ h9 => h9) rfl dX7_strike_37 ?_
        refine va_getN (D := G.1) (ci := 3) (v := .ref (a 13)) (C := RX3) (T := TX3) (N := 8) (host := "DutyDesk") hx hb hts hin3 hown hG.1 hw.1 3 rfl rfl 3 (by decide) (va_Nw.use rfl (hG.2.1 (.fieldLinkNest "DutyDesk" 90 "DutyDesk$People" "struck" "[I" "DutyDesk") (List.mem_of_getElem? (i := 9) rfl))) (fun _ h9 => h9) rfl dX7_strike_40 ?_
        refine lv_iload_n hx hb dX7_strike_43 rfl (lv_at hl 1 rfl) ?_
        refine lv_iload_n hx hb dX7_strike_44 rfl (lv_at hl 2 rfl) ?_
        obtain ⟨h_12, hf⟩ := gd_of hf
        refine va_iast hx hb hG.1 hw.1 hw.2.1 hw.2.2 13 1 (xw_atM (k := 13) rfl) rfl h_12 dX7_strike_45 (fun H locs hP hD hS => ?_)
        obtain ⟨S_13, eS_13⟩ : ∃ z : St, z = sM S 13 (p1.toNatClampNeg) p2 := ⟨_, rfl⟩
        replace hf := bnd_of eS_13 hf
        have hw : Wd G A s H locs (xw G.2.1 a R S_13) := wd_eq (by rw [eS_13]; exact xw_upM (k := 13) rfl _) hP hD hS
        refine lv_aload_n hx hb dX7_strike_46 rfl (lv_at hl 0 rfl) ?_
        refine va_get (D := G.1) (ci := 7) (v := .ref (a 4)) (C := RX7) (T := TX7) (N := 6) hx hb hts hin7 hown hG.1 hw.1 0 rfl rfl 3 (by decide) (hts (.fieldLink RX7 35 "DutyDesk" "nights" "LDutyDesk$Nights;") (List.mem_of_getElem? (i := 2) rfl)) (fun _ h9 => h9) rfl dX7_strike_47 ?_
        refine lv_iload_n hx hb dX7_strike_50 rfl (lv_at hl 1 rfl) ?_
        refine lv_iload_n hx hb dX7_strike_51 rfl (lv_at hl 2 rfl) ?_
        obtain ⟨⟨r_15, S_16⟩, h_14, hf⟩ := bind_of hf
        replace hf : _ = some _ := hf
        refine cVN (As := [.int p1, .int p2]) (rest := []) ⟨hx, hb, hml, hown, hts⟩ hG hA hw (c_X2_passOn G l a ha R S_13 p1 p2 r_15 S_16 h_14) ⟨va_cnB 2 hts gX7_strike_X2_passOn_n94 rfl rfl rfl (hG.2.1 (.methodLinkNest "DutyDesk" 94 yX2_passOn "DutyDesk") (List.mem_of_getElem? (i := 60) rfl)) (hts (.initialized RX2) (List.mem_of_getElem? (i := 17) rfl)) (by decide +kernel) ⟨Nat.le_of_ble_eq_true rfl, Nat.le_of_ble_eq_true rfl⟩, hts (.instanceMethod yX2_passOn) (List.mem_of_getElem? (i := 16) rfl), hts (.selects RX2 yX2_passOn yX2_passOn) (List.mem_of_getElem? (i := 18) rfl)⟩ (va_recv hG.1 hw.1 (ci := 2) (q0 := 4) rfl rfl) rfl hl.1 rfl (Nat.le_of_ble_eq_true rfl) dX7_strike_52 ⟨Nat.zero_le _, Nat.zero_le _⟩ (fun H locs hw => ?_)
        have e_17 := Option.some.inj hf
        obtain ⟨rfl, rfl⟩ := Prod.mk.inj e_17
        exact wd_iret hx hb hr hlocks hw dX7_strike_55
      · replace hf := if_f c_11 hf
        refine lv_bipush (v := (-2)) hx hb dX7_strike_33 (by decide) ?_
        have e_18 := Option.some.inj hf
        obtain ⟨rfl, rfl⟩ := Prod.mk.inj e_18
        exact wd_iret hx hb hr hlocks hw dX7_strike_35
/-! DutyDesk.travel(III)I -/
def rm_X7_travel : Room := { frames := 1, cells := 0, slots := 0, locals := 23 }
def f_X7_travel (S : St) (p1 : Int32) (p2 : Int32) (p3 : Int32) : Option (Int32 × St) :=
  (f_X7_isBelow p1 10).bind (fun r_2 => (if r_2 = 0 then
    some (((-2), S))
  else
    (f_X7_isBelow p2 10).bind (fun r_6 => (if r_6 = 0 then
    some (((-2), S))
  else
    (if p1 = p2 then
    some (((-2), S))
  else
    (if p3 < (-1) then
    some (((-2), S))
  else
    (if p3 ≤ 600 then
    (f_X3_minutesBetween S p1 p2).bind (fun r_15 => (f_X3_setMinutes S p1 p2 p3).bind (fun S_17 => some ((r_15, S_17))))
  else
    some (((-2), S)))))))))
set_option maxHeartbeats 4000000 in
set_option maxRecDepth 100000 in
theorem c_X7_travel (G : GP) (l : Launch) (a : Nat → Nat) (ha : a 45 = G.2.2.1) (R : va_W) (S : St) (p1 : Int32) (p2 : Int32) (p3 : Int32) (r0 : Int32) (S9 : St) (hf : f_X7_travel S p1 p2 p3 = some (r0, S9)) : MC G l yX7_travel wsX7_travel rm_X7_travel [.ref (a 0), .int p1, .int p2, .int p3] (xw G.2.1 a R S) (xw G.2.1 a R S9) (some (.int r0)) 0 0 := by
  refine MC.mk (cc := cX7_travel) (maxL := 5) (ret := (some .int)) (by decide) rfl (Nat.le_of_ble_eq_true rfl) ?_
  intro p e s m below meth c A ls ⟨hx, hb, hr, hml, hown, hlocks, _, hts⟩ hw hG hA hl
  have hl : lv_has ls 5 [(0, .ref (a 0)), (1, .int p1), (2, .int p2), (3, .int p3)] := hl
  have hin7 : ∀ w ∈ u_ws RX7 TX7 6, w ∈ wsX7_travel := by decide +kernel
  rw [f_X7_travel] at hf
  refine lv_iload_n hx hb dX7_travel_0 rfl (lv_at hl 1 rfl) ?_
  refine lv_bipush (v := 10) hx hb dX7_travel_1 (by decide) ?_
  obtain ⟨r_2, h_1, hf⟩ := bind_of hf
  refine cS (As := [.int p1, .int 10]) (rest := []) ⟨hx, hb, hml, hown, hts⟩ hG hA hw (c_X7_isBelow G l _ p1 10 r_2 h_1) (va_cwS 2 hts gX7_travel_X7_isBelow rfl rfl rfl (by decide +kernel) ⟨Nat.le_of_ble_eq_true rfl, Nat.le_of_ble_eq_true rfl⟩) rfl hl.1 rfl (Nat.le_of_ble_eq_true rfl) dX7_travel_3 ⟨Nat.zero_le _, Nat.zero_le _⟩ (fun H locs hw => ?_)
  refine lv_if_eq (tgt := 35) hx hb dX7_travel_6 (by decide) (fun c_3 => ?_) (fun c_3 => ?_)
  · replace hf := if_t c_3 hf
    refine lv_bipush (v := (-2)) hx hb dX7_travel_35 (by decide) ?_
    have e_4 := Option.some.inj hf
    obtain ⟨rfl, rfl⟩ := Prod.mk.inj e_4
    exact wd_iret hx hb hr hlocks hw dX7_travel_37
  · replace hf := if_f c_3 hf
    refine lv_iload_n hx hb dX7_travel_9 rfl (lv_at hl 2 rfl) ?_
    refine lv_bipush (v := 10) hx hb dX7_travel_10 (by decide) ?_
    obtain ⟨r_6, h_5, hf⟩ := bind_of hf
    refine cS (As := [.int p2, .int 10]) (rest := []) ⟨hx, hb, hml, hown, hts⟩ hG hA hw (c_X7_isBelow G l _ p2 10 r_6 h_5) (va_cwS 2 hts gX7_travel_X7_isBelow rfl rfl rfl (by decide +kernel) ⟨Nat.le_of_ble_eq_true rfl, Nat.le_of_ble_eq_true rfl⟩) rfl hl.1 rfl (Nat.le_of_ble_eq_true rfl) dX7_travel_12 ⟨Nat.zero_le _, Nat.zero_le _⟩ (fun H locs hw => ?_)
    refine lv_if_eq (tgt := 35) hx hb dX7_travel_15 (by decide) (fun c_7 => ?_) (fun c_7 => ?_)
    · replace hf := if_t c_7 hf
      refine lv_bipush (v := (-2)) hx hb dX7_travel_35 (by decide) ?_
      have e_8 := Option.some.inj hf
      obtain ⟨rfl, rfl⟩ := Prod.mk.inj e_8
      exact wd_iret hx hb hr hlocks hw dX7_travel_37
    · replace hf := if_f c_7 hf
      refine lv_iload_n hx hb dX7_travel_18 rfl (lv_at hl 1 rfl) ?_
      refine lv_iload_n hx hb dX7_travel_19 rfl (lv_at hl 2 rfl) ?_
      refine lv_icmp_eq (tgt := 35) hx hb dX7_travel_20 (by decide) (fun c_9 => ?_) (fun c_9 => ?_)
      · replace hf := if_t c_9 hf
        refine lv_bipush (v := (-2)) hx hb dX7_travel_35 (by decide) ?_
        have e_10 := Option.some.inj hf
        obtain ⟨rfl, rfl⟩ := Prod.mk.inj e_10
        exact wd_iret hx hb hr hlocks hw dX7_travel_37
      · replace hf := if_f c_9 hf
        refine lv_iload_n hx hb dX7_travel_23 rfl (lv_at hl 3 rfl) ?_
        refine lv_iconst (v := (-1)) hx hb dX7_travel_24 (by decide) ?_
        refine lv_icmp_lt (tgt := 35) hx hb dX7_travel_25 (by decide) (fun c_11 => ?_) (fun c_11 => ?_)
        · replace hf := if_t c_11 hf
          refine lv_bipush (v := (-2)) hx hb dX7_travel_35 (by decide) ?_
          have e_12 := Option.some.inj hf
          obtain ⟨rfl, rfl⟩ := Prod.mk.inj e_12
          exact wd_iret hx hb hr hlocks hw dX7_travel_37
        · replace hf := if_f c_11 hf
          refine lv_iload_n hx hb dX7_travel_28 rfl (lv_at hl 3 rfl) ?_
          refine lv_sipush (v := 600) hx hb dX7_travel_29 (by decide) ?_
          refine lv_icmp_le (tgt := 38) hx hb dX7_travel_32 (by decide) (fun c_13 => ?_) (fun c_13 => ?_)
          · replace hf := if_t c_13 hf
            refine lv_aload_n hx hb dX7_travel_38 rfl (lv_at hl 0 rfl) ?_
            refine va_get (D := G.1) (ci := 7) (v := .ref (a 3)) (C := RX7) (T := TX7) (N := 6) hx hb hts hin7 hown hG.1 hw.1 0 rfl rfl 2 (by decide) (hts (.fieldLink RX7 26 "DutyDesk" "people" "LDutyDesk$People;") (List.mem_of_getElem? (i := 1) rfl)) (fun _ h9 => h9) rfl dX7_travel_39 ?_
            refine lv_iload_n hx hb dX7_travel_42 rfl (lv_at hl 1 rfl) ?_
            refine lv_iload_n hx hb dX7_travel_43 rfl (lv_at hl 2 rfl) ?_
            obtain ⟨r_15, h_14, hf⟩ := bind_of hf
            refine cVN (As := [.int p1, .int p2]) (rest := []) ⟨hx, hb, hml, hown, hts⟩ hG hA hw (c_X3_minutesBetween G l a ha R S p1 p2 r_15 h_14) ⟨va_cnB 2 hts gX7_travel_X3_minutesBetween_n98 rfl rfl rfl (hG.2.1 (.methodLinkNest "DutyDesk" 98 yX3_minutesBetween "DutyDesk") (List.mem_of_getElem? (i := 64) rfl)) (hts (.initialized RX3) (List.mem_of_getElem? (i := 7) rfl)) (by decide +kernel) ⟨Nat.le_of_ble_eq_true rfl, Nat.le_of_ble_eq_true rfl⟩, hts (.instanceMethod yX3_minutesBetween) (List.mem_of_getElem? (i := 6) rfl), hts (.selects RX3 yX3_minutesBetween yX3_minutesBetween) (List.mem_of_getElem? (i := 8) rfl)⟩ (va_recv hG.1 hw.1 (ci := 3) (q0 := 3) rfl rfl) rfl hl.1 rfl (Nat.le_of_ble_eq_true rfl) dX7_travel_44 ⟨Nat.zero_le _, Nat.zero_le _⟩ (fun H locs hw => ?_)
            refine lv_istore (lv' := [(4, .int r_15), (0, .ref (a 0)), (1, .int p1), (2, .int p2), (3, .int p3)]) hx hb dX7_travel_47 hl (by decide) rfl (fun ls hl => ?_)
            refine lv_aload_n hx hb dX7_travel_49 rfl (lv_at hl 1 rfl) ?_
            refine va_get (D := G.1) (ci := 7) (v := .ref (a 3)) (C := RX7) (T := TX7) (N := 6) hx hb hts hin7 hown hG.1 hw.1 0 rfl rfl 2 (by decide) (hts (.fieldLink RX7 26 "DutyDesk" "people" "LDutyDesk$People;") (List.mem_of_getElem? (i := 1) rfl)) (fun _ h9 => h9) rfl dX7_travel_50 ?_
            refine lv_iload_n hx hb dX7_travel_53 rfl (lv_at hl 2 rfl) ?_
            refine lv_iload_n hx hb dX7_travel_54 rfl (lv_at hl 3 rfl) ?_
            refine lv_iload_n hx hb dX7_travel_55 rfl (lv_at hl 4 rfl) ?_
            obtain ⟨S_17, h_16, hf⟩ := bind_of hf
            refine cVN (As := [.int p1, .int p2, .int p3]) (rest := []) ⟨hx, hb, hml, hown, hts⟩ hG hA hw (c_X3_setMinutes G l a ha R S p1 p2 p3 S_17 h_16) ⟨va_cnB 3 hts gX7_travel_X3_setMinutes_n101 rfl rfl rfl (hG.2.1 (.methodLinkNest "DutyDesk" 101 yX3_setMinutes "DutyDesk") (List.mem_of_getElem? (i := 65) rfl)) (hts (.initialized RX3) (List.mem_of_getElem? (i := 7) rfl)) (by decide +kernel) ⟨Nat.le_of_ble_eq_true rfl, Nat.le_of_ble_eq_true rfl⟩, hts (.instanceMethod yX3_setMinutes) (List.mem_of_getElem? (i := 11) rfl), hts (.selects RX3 yX3_setMinutes yX3_setMinutes) (List.mem_of_getElem? (i := 12) rfl)⟩ (va_recv hG.1 hw.1 (ci := 3) (q0 := 3) rfl rfl) rfl hl.1 rfl (Nat.le_of_ble_eq_true rfl) dX7_travel_56 ⟨Nat.zero_le _, Nat.zero_le _⟩ (fun H locs hw => ?_)
            refine lv_iload hx hb dX7_travel_59 (lv_at hl 0 rfl) ?_
            have e_18 := Option.some.inj hf
            obtain ⟨rfl, rfl⟩ := Prod.mk.inj e_18
            exact wd_iret hx hb hr hlocks hw dX7_travel_61
          · replace hf := if_f c_13 hf
            refine lv_bipush (v := (-2)) hx hb dX7_travel_35 (by decide) ?_
            have e_19 := Option.some.inj hf
            obtain ⟨rfl, rfl⟩ := Prod.mk.inj e_19
            exact wd_iret hx hb hr hlocks hw dX7_travel_37
/-! DutyDesk.lawyer(II)I -/
def rm_X7_lawyer : Room := { frames := 2, cells := 0, slots := 0, locals := 42 }
def f_X7_lawyer (S : St) (p1 : Int32) (p2 : Int32) : Option (Int32) :=
  (f_X3_has S p1).bind (fun r_2 => (if r_2 = 0 then
    some ((-1))
  else
    (if p2 = 0 then
    gd p1 24 (some ((gM S 10 p1.toNatClampNeg)))
  else
    (if p2 = 1 then
    gd p1 24 (some ((gM S 11 p1.toNatClampNeg)))
  else
    (if p2 = 2 then
    gd p1 24 (some ((gM S 12 p1.toNatClampNeg)))
  else
    (if p2 = 3 then
    gd p1 24 (some ((gM S 13 p1.toNatClampNeg)))
  else
    (if p2 = 4 then
    gd p1 24 (some ((gM S 19 p1.toNatClampNeg)))
  else
    (if p2 = 5 then
    gd p1 24 (some ((gM S 14 p1.toNatClampNeg)))
  else
    some ((-1))))))))))
set_option maxHeartbeats 4000000 in
set_option maxRecDepth 100000 in
theorem c_X7_lawyer (G : GP) (l : Launch) (a : Nat → Nat) (ha : a 45 = G.2.2.1) (R : va_W) (S : St) (p1 : Int32) (p2 : Int32) (r0 : Int32) (hf : f_X7_lawyer S p1 p2 = some r0) : MC G l yX7_lawyer wsX7_lawyer rm_X7_lawyer [.ref (a 0), .int p1, .int p2] (xw G.2.1 a R S) (xw G.2.1 a R S) (some (.int r0)) 0 0 := by
  refine MC.mk (cc := cX7_lawyer) (maxL := 3) (ret := (some .int)) (by decide) rfl (Nat.le_of_ble_eq_true rfl) ?_
  intro p e s m below meth c A ls ⟨hx, hb, hr, hml, hown, hlocks, _, hts⟩ hw hG hA hl
  have hl : lv_has ls 3 [(0, .ref (a 0)), (1, .int p1), (2, .int p2)] := hl
  have hin2 : ∀ w ∈ u_ws RX2 TX2 6, w ∈ wsX7_lawyer := by decide +kernel
  have hin3 : ∀ w ∈ u_ws RX3 TX3 8, w ∈ wsX7_lawyer := by decide +kernel
  have hin7 : ∀ w ∈ u_ws RX7 TX7 6, w ∈ wsX7_lawyer := by decide +kernel
  rw [f_X7_lawyer] at hf
  refine lv_aload_n hx hb dX7_lawyer_0 rfl (lv_at hl 0 rfl) ?_
  refine va_get (D := G.1) (ci := 7) (v := .ref (a 3)) (C := RX7) (T := TX7) (N := 6) hx hb hts hin7 hown hG.1 hw.1 0 rfl rfl 2 (by decide) (hts (.fieldLink RX7 26 "DutyDesk" "people" "LDutyDesk$People;") (List.mem_of_getElem? (i := 1) rfl)) (fun _ h9 => h9) rfl dX7_lawyer_1 ?_
  refine lv_iload_n hx hb dX7_lawyer_4 rfl (lv_at hl 1 rfl) ?_
  obtain ⟨r_2, h_1, hf⟩ := bind_of hf
  refine cVN (As := [.int p1]) (rest := []) ⟨hx, hb, hml, hown, hts⟩ hG hA hw (c_X3_has G l a ha R S p1 r_2 h_1) ⟨va_cnB 1 hts gX7_lawyer_X3_has_n76 rfl rfl rfl (hG.2.1 (.methodLinkNest "DutyDesk" 76 yX3_has "DutyDesk") (List.mem_of_getElem? (i := 54) rfl)) (hts (.initialized RX3) (List.mem_of_getElem? (i := 4) rfl)) (by decide +kernel) ⟨Nat.le_of_ble_eq_true rfl, Nat.le_of_ble_eq_true rfl⟩, hts (.instanceMethod yX3_has) (List.mem_of_getElem? (i := 3) rfl), hts (.selects RX3 yX3_has yX3_has) (List.mem_of_getElem? (i := 5) rfl)⟩ (va_recv hG.1 hw.1 (ci := 3) (q0 := 3) rfl rfl) rfl hl.1 rfl (Nat.le_of_ble_eq_true rfl) dX7_lawyer_5 ⟨Nat.zero_le _, Nat.zero_le _⟩ (fun H locs hw => ?_)
  refine lv_if_ne (tgt := 13) hx hb dX7_lawyer_8 (by decide) (fun c_3 => ?_) (fun c_3 => ?_)
  · replace hf := if_f c_3 hf
    refine lv_iload_n hx hb dX7_lawyer_13 rfl (lv_at hl 2 rfl) ?_
    by_cases c_4 : p2 = 0
    · replace hf := if_t c_4 hf
      refine lv_tableIn (off := 38) (tgt := 52) hx hb dX7_lawyer_14 (by rw [c_4]; decide) (by rw [c_4]; decide) (by rw [c_4]; rfl) (by decide) ?_
      refine lv_aload_n hx hb dX7_lawyer_52 rfl (lv_at hl 0 rfl) ?_
      refine va_get (D := G.1) (ci := 7) (v := .ref (a 3)) (C := RX7) (T := TX7) (N := 6) hx hb hts hin7 hown hG.1 hw.1 0 rfl rfl 2 (by decide) (hts (.fieldLink RX7 26 "DutyDesk" "people" "LDutyDesk$People;") (List.mem_of_getElem? (i := 1) rfl)) (fun _ h9 => h9) rfl dX7_lawyer_53 ?_
      refine va_getN (D := G.1) (ci := 3) (v := .ref (a 10)) (C := RX3) (T := TX3) (N := 8) (host := "DutyDesk") hx hb hts hin3 hown hG.1 hw.1 3 rfl rfl 0 (by decide) (va_Nw.use rfl (hG.2.1 (.fieldLinkNest "DutyDesk" 105 "DutyDesk$People" "town" "[I" "DutyDesk") (List.mem_of_getElem? (i := 5) rfl))) (fun _ h9 => h9) rfl dX7_lawyer_56 ?_
      refine lv_iload_n hx hb dX7_lawyer_59 rfl (lv_at hl 1 rfl) ?_
      obtain ⟨h_5, hf⟩ := gd_of hf
      refine va_iald hx hb hG.1 hw.1 10 1 (xw_atM (k := 10) rfl) rfl h_5 dX7_lawyer_60 ?_
      have e_6 := Option.some.inj hf
      subst e_6
      exact wd_iret hx hb hr hlocks hw dX7_lawyer_61
    · replace hf := if_f c_4 hf
      by_cases c_7 : p2 = 1
      · replace hf := if_t c_7 hf
        refine lv_tableIn (off := 48) (tgt := 62) hx hb dX7_lawyer_14 (by rw [c_7]; decide) (by rw [c_7]; decide) (by rw [c_7]; rfl) (by decide) ?_
        refine lv_aload_n hx hb dX7_lawyer_62 rfl (lv_at hl 0 rfl) ?_
        refine va_get (D := G.1) (ci := 7) (v := .ref (a 3)) (C := RX7) (T := TX7) (N := 6) hx hb hts hin7 hown hG.1 hw.1 0 rfl rfl 2 (by decide) (hts (.fieldLink RX7 26 "DutyDesk" "people" "LDutyDesk$People;") (List.mem_of_getElem? (i := 1) rfl)) (fun _ h9 => h9) rfl dX7_lawyer_63 ?_
        refine va_getN (D := G.1) (ci := 3) (v := .ref (a 11)) (C := RX3) (T := TX3) (N := 8) (host := "DutyDesk") hx hb hts hin3 hown hG.1 hw.1 3 rfl rfl 1 (by decide) (va_Nw.use rfl (hG.2.1 (.fieldLinkNest "DutyDesk" 108 "DutyDesk$People" "panels" "[I" "DutyDesk") (List.mem_of_getElem? (i := 7) rfl))) (fun _ h9 => h9) rfl dX7_lawyer_66 ?_
        refine lv_iload_n hx hb dX7_lawyer_69 rfl (lv_at hl 1 rfl) ?_
        obtain ⟨h_8, hf⟩ := gd_of hf
        refine va_iald hx hb hG.1 hw.1 11 1 (xw_atM (k := 11) rfl) rfl h_8 dX7_lawyer_70 ?_
        have e_9 := Option.some.inj hf
        subst e_9
        exact wd_iret hx hb hr hlocks hw dX7_lawyer_71
      · replace hf := if_f c_7 hf
        by_cases c_10 : p2 = 2
        · replace hf := if_t c_10 hf
          refine lv_tableIn (off := 58) (tgt := 72) hx hb dX7_lawyer_14 (by rw [c_10]; decide) (by rw [c_10]; decide) (by rw [c_10]; rfl) (by decide) ?_
          refine lv_aload_n hx hb dX7_lawyer_72 rfl (lv_at hl 0 rfl) ?_
          refine va_get (D := G.1) (ci := 7) (v := .ref (a 3)) (C := RX7) (T := TX7) (N := 6) hx hb hts hin7 hown hG.1 hw.1 0 rfl rfl 2 (by decide) (hts (.fieldLink RX7 26 "DutyDesk" "people" "LDutyDesk$People;") (List.mem_of_getElem? (i := 1) rfl)) (fun _ h9 => h9) rfl dX7_lawyer_73 ?_
          refine va_getN (D := G.1) (ci := 3) (v := .ref (a 12)) (C := RX3) (T := TX3) (N := 8) (host := "DutyDesk") hx hb hts hin3 hown hG.1 hw.1 3 rfl rfl 2 (by decide) (va_Nw.use rfl (hG.2.1 (.fieldLinkNest "DutyDesk" 111 "DutyDesk$People" "tongues" "[I" "DutyDesk") (List.mem_of_getElem? (i := 8) rfl))) (fun _ h9 => h9) rfl dX7_lawyer_76 ?_
          refine lv_iload_n hx hb dX7_lawyer_79 rfl (lv_at hl 1 rfl) ?_
          obtain ⟨h_11, hf⟩ := gd_of hf
          refine va_iald hx hb hG.1 hw.1 12 1 (xw_atM (k := 12) rfl) rfl h_11 dX7_lawyer_80 ?_
          have e_12 := Option.some.inj hf
          subst e_12
          exact wd_iret hx hb hr hlocks hw dX7_lawyer_81
        · replace hf := if_f c_10 hf
          by_cases c_13 : p2 = 3
          · replace hf := if_t c_13 hf
            refine lv_tableIn (off := 68) (tgt := 82) hx hb dX7_lawyer_14 (by rw [c_13]; decide) (by rw [c_13]; decide) (by rw [c_13]; rfl) (by decide) ?_
            refine lv_aload_n hx hb dX7_lawyer_82 rfl (lv_at hl 0 rfl) ?_
            refine va_get (D := G.1) (ci := 7) (v := .ref (a 3)) (C := RX7) (T := TX7) (N := 6) hx hb hts hin7 hown hG.1 hw.1 0 rfl rfl 2 (by decide) (hts (.fieldLink RX7 26 "DutyDesk" "people" "LDutyDesk$People;") (List.mem_of_getElem? (i := 1) rfl)) (fun _ h9 => h9) rfl dX7_lawyer_83 ?_
            refine va_getN (D := G.1) (ci := 3) (v := .ref (a 13)) (C := RX3) (T := TX3) (N := 8) (host := "DutyDesk") hx hb hts hin3 hown hG.1 hw.1 3 rfl rfl 3 (by decide) (va_Nw.use rfl (hG.2.1 (.fieldLinkNest "DutyDesk" 90 "DutyDesk$People" "struck" "[I" "DutyDesk") (List.mem_of_getElem? (i := 9) rfl))) (fun _ h9 => h9) rfl dX7_lawyer_86 ?_
            refine lv_iload_n hx hb dX7_lawyer_89 rfl (lv_at hl 1 rfl) ?_
            obtain ⟨h_14, hf⟩ := gd_of hf
            refine va_iald hx hb hG.1 hw.1 13 1 (xw_atM (k := 13) rfl) rfl h_14 dX7_lawyer_90 ?_
            have e_15 := Option.some.inj hf
            subst e_15
            exact wd_iret hx hb hr hlocks hw dX7_lawyer_91
          · replace hf := if_f c_13 hf
            by_cases c_16 : p2 = 4
            · replace hf := if_t c_16 hf
              refine lv_tableIn (off := 78) (tgt := 92) hx hb dX7_lawyer_14 (by rw [c_16]; decide) (by rw [c_16]; decide) (by rw [c_16]; rfl) (by decide) ?_
              refine lv_aload_n hx hb dX7_lawyer_92 rfl (lv_at hl 0 rfl) ?_
              refine va_get (D := G.1) (ci := 7) (v := .ref (a 4)) (C := RX7) (T := TX7) (N := 6) hx hb hts hin7 hown hG.1 hw.1 0 rfl rfl 3 (by decide) (hts (.fieldLink RX7 35 "DutyDesk" "nights" "LDutyDesk$Nights;") (List.mem_of_getElem? (i := 2) rfl)) (fun _ h9 => h9) rfl dX7_lawyer_93 ?_
              refine va_getN (D := G.1) (ci := 2) (v := .ref (a 19)) (C := RX2) (T := TX2) (N := 6) (host := "DutyDesk") hx hb hts hin2 hown hG.1 hw.1 4 rfl rfl 4 (by decide) (va_Nw.use rfl (hG.2.1 (.fieldLinkNest "DutyDesk" 114 "DutyDesk$Nights" "duties" "[I" "DutyDesk") (List.mem_of_getElem? (i := 17) rfl))) (fun _ h9 => h9) rfl dX7_lawyer_96 ?_
              refine lv_iload_n hx hb dX7_lawyer_99 rfl (lv_at hl 1 rfl) ?_
              obtain ⟨h_17, hf⟩ := gd_of hf
              refine va_iald hx hb hG.1 hw.1 19 1 (xw_atM (k := 19) rfl) rfl h_17 dX7_lawyer_100 ?_
              have e_18 := Option.some.inj hf
              subst e_18
              exact wd_iret hx hb hr hlocks hw dX7_lawyer_101
            · replace hf := if_f c_16 hf
              by_cases c_19 : p2 = 5
              · replace hf := if_t c_19 hf
                refine lv_tableIn (off := 88) (tgt := 102) hx hb dX7_lawyer_14 (by rw [c_19]; decide) (by rw [c_19]; decide) (by rw [c_19]; rfl) (by decide) ?_
                refine lv_aload_n hx hb dX7_lawyer_102 rfl (lv_at hl 0 rfl) ?_
                refine va_get (D := G.1) (ci := 7) (v := .ref (a 3)) (C := RX7) (T := TX7) (N := 6) hx hb hts hin7 hown hG.1 hw.1 0 rfl rfl 2 (by decide) (hts (.fieldLink RX7 26 "DutyDesk" "people" "LDutyDesk$People;") (List.mem_of_getElem? (i := 1) rfl)) (fun _ h9 => h9) rfl dX7_lawyer_103 ?_
                refine va_getN (D := G.1) (ci := 3) (v := .ref (a 14)) (C := RX3) (T := TX3) (N := 8) (host := "DutyDesk") hx hb hts hin3 hown hG.1 hw.1 3 rfl rfl 4 (by decide) (va_Nw.use rfl (hG.2.1 (.fieldLinkNest "DutyDesk" 117 "DutyDesk$People" "taken" "[I" "DutyDesk") (List.mem_of_getElem? (i := 10) rfl))) (fun _ h9 => h9) rfl dX7_lawyer_106 ?_
                refine lv_iload_n hx hb dX7_lawyer_109 rfl (lv_at hl 1 rfl) ?_
                obtain ⟨h_20, hf⟩ := gd_of hf
                refine va_iald hx hb hG.1 hw.1 14 1 (xw_atM (k := 14) rfl) rfl h_20 dX7_lawyer_110 ?_
                have e_21 := Option.some.inj hf
                subst e_21
                exact wd_iret hx hb hr hlocks hw dX7_lawyer_111
              · replace hf := if_f c_19 hf
                have nc_4 := lv_neT c_4 (show Int32.toInt 0 = 0 from rfl)
                have nc_7 := lv_neT c_7 (show Int32.toInt 1 = 1 from rfl)
                have nc_10 := lv_neT c_10 (show Int32.toInt 2 = 2 from rfl)
                have nc_13 := lv_neT c_13 (show Int32.toInt 3 = 3 from rfl)
                have nc_16 := lv_neT c_16 (show Int32.toInt 4 = 4 from rfl)
                have nc_19 := lv_neT c_19 (show Int32.toInt 5 = 5 from rfl)
                refine lv_tableOut (tgt := 112) hx hb dX7_lawyer_14 (by omega) (by decide) ?_
                refine lv_iconst (v := (-1)) hx hb dX7_lawyer_112 (by decide) ?_
                have e_22 := Option.some.inj hf
                subst e_22
                exact wd_iret hx hb hr hlocks hw dX7_lawyer_113
  · replace hf := if_t c_3 hf
    refine lv_iconst (v := (-1)) hx hb dX7_lawyer_11 (by decide) ?_
    have e_23 := Option.some.inj hf
    subst e_23
    exact wd_iret hx hb hr hlocks hw dX7_lawyer_12
/-! DutyDesk.edition(I)I -/
def rm_X7_edition : Room := { frames := 9, cells := 0, slots := 0, locals := 190 }
def f_X7_edition (S : St) (p1 : Int32) : Option (Int32 × St) :=
  (f_X7_isBelow p1 1000).bind (fun r_2 => (if r_2 = 0 then
    bnd (sI S 0 0) fun S_15 => some (((-2), S_15))
  else
    (f_X5_readTape S).bind (fun (r_5, S_6) => (if r_5 = 0 then
    some (((-1), S_6))
  else
    (if 20 ≤ (gI S_6 10) then
    some (((-3), S_6))
  else
    (f_X6_add S_6 p1).bind (fun (r_11, S_12) => some ((r_11, S_12))))))))
set_option maxHeartbeats 4000000 in
set_option maxRecDepth 100000 in
theorem c_X7_edition (G : GP) (l : Launch) (a : Nat → Nat) (ha : a 45 = G.2.2.1) (R : va_W) (S : St) (p1 : Int32) (r0 : Int32) (S9 : St) (hf : f_X7_edition S p1 = some (r0, S9)) : MC G l yX7_edition wsX7_edition rm_X7_edition [.ref (a 0), .int p1] (xw G.2.1 a R S) (xw G.2.1 a R S9) (some (.int r0)) 0 0 := by
  refine MC.mk (cc := cX7_edition) (maxL := 2) (ret := (some .int)) (by decide) rfl (Nat.le_of_ble_eq_true rfl) ?_
  intro p e s m below meth c A ls ⟨hx, hb, hr, hml, hown, hlocks, _, hts⟩ hw hG hA hl
  have hl : lv_has ls 2 [(0, .ref (a 0)), (1, .int p1)] := hl
  have hin5 : ∀ w ∈ u_ws RX5 TX5 12, w ∈ wsX7_edition := by decide +kernel
  have hin6 : ∀ w ∈ u_ws RX6 TX6 2, w ∈ wsX7_edition := by decide +kernel
  have hin7 : ∀ w ∈ u_ws RX7 TX7 6, w ∈ wsX7_edition := by decide +kernel
  rw [f_X7_edition] at hf
  refine lv_iload_n hx hb dX7_edition_0 rfl (lv_at hl 1 rfl) ?_
  refine lv_sipush (v := 1000) hx hb dX7_edition_1 (by decide) ?_
  obtain ⟨r_2, h_1, hf⟩ := bind_of hf
  refine cS (As := [.int p1, .int 1000]) (rest := []) ⟨hx, hb, hml, hown, hts⟩ hG hA hw (c_X7_isBelow G l _ p1 1000 r_2 h_1) (va_cwS 2 hts gX7_edition_X7_isBelow rfl rfl rfl (by decide +kernel) ⟨Nat.le_of_ble_eq_true rfl, Nat.le_of_ble_eq_true rfl⟩) rfl hl.1 rfl (Nat.le_of_ble_eq_true rfl) dX7_edition_4 ⟨Nat.zero_le _, Nat.zero_le _⟩ (fun H locs hw => ?_)
  refine lv_if_ne (tgt := 21) hx hb dX7_edition_7 (by decide) (fun c_3 => ?_) (fun c_3 => ?_)
  · replace hf := if_f c_3 hf
    refine lv_aload_n hx hb dX7_edition_21 rfl (lv_at hl 0 rfl) ?_
    refine va_get (D := G.1) (ci := 7) (v := .ref (a 1)) (C := RX7) (T := TX7) (N := 6) hx hb hts hin7 hown hG.1 hw.1 0 rfl rfl 0 (by decide) (hts (.fieldLink RX7 10 "DutyDesk" "reader" "LDutyDesk$Reader;") (List.mem_of_getElem? (i := 1) rfl)) (fun _ h9 => h9) rfl dX7_edition_22 ?_
    obtain ⟨⟨r_5, S_6⟩, h_4, hf⟩ := bind_of hf
    replace hf : _ = some _ := hf
    refine cVN (As := []) (rest := []) ⟨hx, hb, hml, hown, hts⟩ hG hA hw (c_X5_readTape G l a ha R S r_5 S_6 h_4) ⟨va_cnB 0 hts gX7_edition_X5_readTape_n120 rfl rfl rfl (hG.2.1 (.methodLinkNest "DutyDesk" 120 yX5_readTape "DutyDesk") (List.mem_of_getElem? (i := 66) rfl)) (hts (.initialized RX5) (List.mem_of_getElem? (i := 8) rfl)) (by decide +kernel) ⟨Nat.le_of_ble_eq_true rfl, Nat.le_of_ble_eq_true rfl⟩, hts (.instanceMethod yX5_readTape) (List.mem_of_getElem? (i := 7) rfl), hts (.selects RX5 yX5_readTape yX5_readTape) (List.mem_of_getElem? (i := 9) rfl)⟩ (va_recv hG.1 hw.1 (ci := 5) (q0 := 1) rfl rfl) rfl hl.1 rfl (Nat.le_of_ble_eq_true rfl) dX7_edition_25 ⟨Nat.zero_le _, Nat.zero_le _⟩ (fun H locs hw => ?_)
    refine lv_if_ne (tgt := 33) hx hb dX7_edition_28 (by decide) (fun c_7 => ?_) (fun c_7 => ?_)
    · replace hf := if_f c_7 hf
      refine lv_aload_n hx hb dX7_edition_33 rfl (lv_at hl 0 rfl) ?_
      refine va_get (D := G.1) (ci := 7) (v := .ref (a 2)) (C := RX7) (T := TX7) (N := 6) hx hb hts hin7 hown hG.1 hw.1 0 rfl rfl 1 (by decide) (hts (.fieldLink RX7 19 "DutyDesk" "statutes" "LDutyDesk$Statutes;") (List.mem_of_getElem? (i := 2) rfl)) (fun _ h9 => h9) rfl dX7_edition_34 ?_
      refine va_getN (D := G.1) (ci := 6) (v := .int (gI S_6 10)) (C := RX6) (T := TX6) (N := 2) (host := "DutyDesk") hx hb hts hin6 hown hG.1 hw.1 2 rfl rfl 1 (by decide) (va_Nw.use rfl (hG.2.1 (.fieldLinkNest "DutyDesk" 124 "DutyDesk$Statutes" "size" "I" "DutyDesk") (List.mem_of_getElem? (i := 4) rfl))) (fun _ h9 => h9) rfl dX7_edition_37 ?_
      refine lv_bipush (v := 20) hx hb dX7_edition_40 (by decide) ?_
      refine lv_icmp_ge (tgt := 63) hx hb dX7_edition_42 (by decide) (fun c_8 => ?_) (fun c_8 => ?_)
      · replace hf := if_t c_8 hf
        refine lv_bipush (v := (-3)) hx hb dX7_edition_63 (by decide) ?_
        have e_9 := Option.some.inj hf
        obtain ⟨rfl, rfl⟩ := Prod.mk.inj e_9
        exact wd_iret hx hb hr hlocks hw dX7_edition_65
      · replace hf := if_f c_8 hf
        refine lv_aload_n hx hb dX7_edition_45 rfl (lv_at hl 0 rfl) ?_
        refine va_get (D := G.1) (ci := 7) (v := .ref (a 2)) (C := RX7) (T := TX7) (N := 6) hx hb hts hin7 hown hG.1 hw.1 0 rfl rfl 1 (by decide) (hts (.fieldLink RX7 19 "DutyDesk" "statutes" "LDutyDesk$Statutes;") (List.mem_of_getElem? (i := 2) rfl)) (fun _ h9 => h9) rfl dX7_edition_46 ?_
        refine lv_aload_n hx hb dX7_edition_49 rfl (lv_at hl 0 rfl) ?_
        refine va_get (D := G.1) (ci := 7) (v := .ref (a 1)) (C := RX7) (T := TX7) (N := 6) hx hb hts hin7 hown hG.1 hw.1 0 rfl rfl 0 (by decide) (hts (.fieldLink RX7 10 "DutyDesk" "reader" "LDutyDesk$Reader;") (List.mem_of_getElem? (i := 1) rfl)) (fun _ h9 => h9) rfl dX7_edition_50 ?_
        refine va_getN (D := G.1) (ci := 5) (v := .ref (a 8)) (C := RX5) (T := TX5) (N := 12) (host := "DutyDesk") hx hb hts hin5 hown hG.1 hw.1 1 rfl rfl 2 (by decide) (va_Nw.use rfl (hG.2.1 (.fieldLinkNest "DutyDesk" 125 "DutyDesk$Reader" "text" "[I" "DutyDesk") (List.mem_of_getElem? (i := 1) rfl))) (fun _ h9 => h9) rfl dX7_edition_53 ?_
        refine lv_iload_n hx hb dX7_edition_56 rfl (lv_at hl 1 rfl) ?_
        obtain ⟨⟨r_11, S_12⟩, h_10, hf⟩ := bind_of hf
        replace hf : _ = some _ := hf
        refine cVN (As := [.ref (a 8), .int p1]) (rest := []) ⟨hx, hb, hml, hown, hts⟩ hG hA hw (c_X6_add G l a ha R S_6 p1 r_11 S_12 h_10) ⟨va_cnB 2 hts gX7_edition_X6_add_n128 rfl rfl rfl (hG.2.1 (.methodLinkNest "DutyDesk" 128 yX6_add "DutyDesk") (List.mem_of_getElem? (i := 68) rfl)) (hts (.initialized RX6) (List.mem_of_getElem? (i := 156) rfl)) (by decide +kernel) ⟨Nat.le_of_ble_eq_true rfl, Nat.le_of_ble_eq_true rfl⟩, hts (.instanceMethod yX6_add) (List.mem_of_getElem? (i := 155) rfl), hts (.selects RX6 yX6_add yX6_add) (List.mem_of_getElem? (i := 157) rfl)⟩ (va_recv hG.1 hw.1 (ci := 6) (q0 := 2) rfl rfl) rfl hl.1 rfl (Nat.le_of_ble_eq_true rfl) dX7_edition_57 ⟨Nat.zero_le _, Nat.zero_le _⟩ (fun H locs hw => ?_)
        refine lv_goto (tgt := 65) hx hb dX7_edition_60 (by decide) ?_
        have e_13 := Option.some.inj hf
        obtain ⟨rfl, rfl⟩ := Prod.mk.inj e_13
        exact wd_iret hx hb hr hlocks hw dX7_edition_65
    · replace hf := if_t c_7 hf
      refine lv_iconst (v := (-1)) hx hb dX7_edition_31 (by decide) ?_
      have e_14 := Option.some.inj hf
      obtain ⟨rfl, rfl⟩ := Prod.mk.inj e_14
      exact wd_iret hx hb hr hlocks hw dX7_edition_32
  · replace hf := if_t c_3 hf
    refine lv_aload_n hx hb dX7_edition_10 rfl (lv_at hl 0 rfl) ?_
    refine va_get (D := G.1) (ci := 7) (v := .ref (a 1)) (C := RX7) (T := TX7) (N := 6) hx hb hts hin7 hown hG.1 hw.1 0 rfl rfl 0 (by decide) (hts (.fieldLink RX7 10 "DutyDesk" "reader" "LDutyDesk$Reader;") (List.mem_of_getElem? (i := 1) rfl)) (fun _ h9 => h9) rfl dX7_edition_11 ?_
    refine lv_iconst (v := 0) hx hb dX7_edition_14 (by decide) ?_
    refine va_putN (D := G.1) (ci := 5) (v := .int 0) (ty := .int) (C := RX5) (T := TX5) (N := 12) (host := "DutyDesk") hx hb hts hin5 tyX5 tyX5_ok nmX5 hown hG.1 hw.1 hw.2.1 hw.2.2 1 rfl rfl 1 (by decide) (va_Nw.use rfl (hG.2.1 (.fieldLinkNest "DutyDesk" 57 "DutyDesk$Reader" "length" "I" "DutyDesk") (List.mem_of_getElem? (i := 0) rfl))) (fun _ h9 => h9) rfl (by decide +kernel) rfl rfl (Nat.le_of_ble_eq_true rfl) dX7_edition_15 (fun H locs hP hD hS => ?_)
    obtain ⟨S_15, eS_15⟩ : ∃ z : St, z = sI S 0 0 := ⟨_, rfl⟩
    replace hf := bnd_of eS_15 hf
    have hw : Wd G A s H locs (xw G.2.1 a R S_15) := wd_eq (by rw [eS_15]; exact xw_upI0 _) hP hD hS
    refine lv_bipush (v := (-2)) hx hb dX7_edition_18 (by decide) ?_
    have e_16 := Option.some.inj hf
    obtain ⟨rfl, rfl⟩ := Prod.mk.inj e_16
    exact wd_iret hx hb hr hlocks hw dX7_edition_20
/-! DutyDesk.fault(I)I -/
def rm_X7_fault : Room := { frames := 0, cells := 0, slots := 0, locals := 0 }
def f_X7_fault (S : St) (p1 : Int32) : Option (Int32) :=
  (if p1 = 0 then
    some ((gI S 8))
  else
    (if p1 = 1 then
    some ((gI S 9))
  else
    some ((-1))))
set_option maxHeartbeats 4000000 in
set_option maxRecDepth 100000 in
theorem c_X7_fault (G : GP) (l : Launch) (a : Nat → Nat) (ha : a 45 = G.2.2.1) (R : va_W) (S : St) (p1 : Int32) (r0 : Int32) (hf : f_X7_fault S p1 = some r0) : MC G l yX7_fault wsX7_fault rm_X7_fault [.ref (a 0), .int p1] (xw G.2.1 a R S) (xw G.2.1 a R S) (some (.int r0)) 0 0 := by
  refine MC.mk (cc := cX7_fault) (maxL := 2) (ret := (some .int)) (by decide) rfl (Nat.le_of_ble_eq_true rfl) ?_
  intro p e s m below meth c A ls ⟨hx, hb, hr, hml, hown, hlocks, _, hts⟩ hw hG hA hl
  have hl : lv_has ls 2 [(0, .ref (a 0)), (1, .int p1)] := hl
  have hin5 : ∀ w ∈ u_ws RX5 TX5 12, w ∈ wsX7_fault := by decide +kernel
  have hin7 : ∀ w ∈ u_ws RX7 TX7 6, w ∈ wsX7_fault := by decide +kernel
  rw [f_X7_fault] at hf
  refine lv_iload_n hx hb dX7_fault_0 rfl (lv_at hl 1 rfl) ?_
  refine lv_if_ne (tgt := 12) hx hb dX7_fault_1 (by decide) (fun c_1 => ?_) (fun c_1 => ?_)
  · replace hf := if_f c_1 hf
    refine lv_iload_n hx hb dX7_fault_12 rfl (lv_at hl 1 rfl) ?_
    refine lv_iconst (v := 1) hx hb dX7_fault_13 (by decide) ?_
    refine lv_icmp_ne (tgt := 27) hx hb dX7_fault_14 (by decide) (fun c_2 => ?_) (fun c_2 => ?_)
    · replace hf := if_f c_2 hf
      refine lv_iconst (v := (-1)) hx hb dX7_fault_27 (by decide) ?_
      have e_3 := Option.some.inj hf
      subst e_3
      exact wd_iret hx hb hr hlocks hw dX7_fault_28
    · replace hf := if_t c_2 hf
      refine lv_aload_n hx hb dX7_fault_17 rfl (lv_at hl 0 rfl) ?_
      refine va_get (D := G.1) (ci := 7) (v := .ref (a 1)) (C := RX7) (T := TX7) (N := 6) hx hb hts hin7 hown hG.1 hw.1 0 rfl rfl 0 (by decide) (hts (.fieldLink RX7 10 "DutyDesk" "reader" "LDutyDesk$Reader;") (List.mem_of_getElem? (i := 1) rfl)) (fun _ h9 => h9) rfl dX7_fault_18 ?_
      refine va_getN (D := G.1) (ci := 5) (v := .int (gI S 9)) (C := RX5) (T := TX5) (N := 12) (host := "DutyDesk") hx hb hts hin5 hown hG.1 hw.1 1 rfl rfl 11 (by decide) (va_Nw.use rfl (hG.2.1 (.fieldLinkNest "DutyDesk" 134 "DutyDesk$Reader" "faultPlace" "I" "DutyDesk") (List.mem_of_getElem? (i := 3) rfl))) (fun _ h9 => h9) rfl dX7_fault_21 ?_
      refine lv_goto (tgt := 28) hx hb dX7_fault_24 (by decide) ?_
      have e_4 := Option.some.inj hf
      subst e_4
      exact wd_iret hx hb hr hlocks hw dX7_fault_28
  · replace hf := if_t c_1 hf
    refine lv_aload_n hx hb dX7_fault_4 rfl (lv_at hl 0 rfl) ?_
    refine va_get (D := G.1) (ci := 7) (v := .ref (a 1)) (C := RX7) (T := TX7) (N := 6) hx hb hts hin7 hown hG.1 hw.1 0 rfl rfl 0 (by decide) (hts (.fieldLink RX7 10 "DutyDesk" "reader" "LDutyDesk$Reader;") (List.mem_of_getElem? (i := 1) rfl)) (fun _ h9 => h9) rfl dX7_fault_5 ?_
    refine va_getN (D := G.1) (ci := 5) (v := .int (gI S 8)) (C := RX5) (T := TX5) (N := 12) (host := "DutyDesk") hx hb hts hin5 hown hG.1 hw.1 1 rfl rfl 10 (by decide) (va_Nw.use rfl (hG.2.1 (.fieldLinkNest "DutyDesk" 131 "DutyDesk$Reader" "faultKind" "I" "DutyDesk") (List.mem_of_getElem? (i := 2) rfl))) (fun _ h9 => h9) rfl dX7_fault_8 ?_
    have e_5 := Option.some.inj hf
    subst e_5
    exact wd_iret hx hb hr hlocks hw dX7_fault_11
/-! DutyDesk.inForce(II)I -/
def rm_X7_inForce : Room := { frames := 1, cells := 0, slots := 0, locals := 26 }
def f_X7_inForce (S : St) (p1 : Int32) (p2 : Int32) : Option (Int32) :=
  (f_X7_isBelow p1 1000).bind (fun r_2 => (if r_2 = 0 then
    some ((-2))
  else
    (f_X6_canKnow S p2).bind (fun r_6 => (if r_6 = 0 then
    some ((-2))
  else
    (f_X6_numberInForce S p1 p2).bind (fun r_9 => some (r_9))))))
set_option maxHeartbeats 4000000 in
set_option maxRecDepth 100000 in
theorem c_X7_inForce (G : GP) (l : Launch) (a : Nat → Nat) (ha : a 45 = G.2.2.1) (R : va_W) (S : St) (p1 : Int32) (p2 : Int32) (r0 : Int32) (hf : f_X7_inForce S p1 p2 = some r0) : MC G l yX7_inForce wsX7_inForce rm_X7_inForce [.ref (a 0), .int p1, .int p2] (xw G.2.1 a R S) (xw G.2.1 a R S) (some (.int r0)) 0 0 := by
  refine MC.mk (cc := cX7_inForce) (maxL := 3) (ret := (some .int)) (by decide) rfl (Nat.le_of_ble_eq_true rfl) ?_
  intro p e s m below meth c A ls ⟨hx, hb, hr, hml, hown, hlocks, _, hts⟩ hw hG hA hl
  have hl : lv_has ls 3 [(0, .ref (a 0)), (1, .int p1), (2, .int p2)] := hl
  have hin7 : ∀ w ∈ u_ws RX7 TX7 6, w ∈ wsX7_inForce := by decide +kernel
  rw [f_X7_inForce] at hf
  refine lv_iload_n hx hb dX7_inForce_0 rfl (lv_at hl 1 rfl) ?_
  refine lv_sipush (v := 1000) hx hb dX7_inForce_1 (by decide) ?_
  obtain ⟨r_2, h_1, hf⟩ := bind_of hf
  refine cS (As := [.int p1, .int 1000]) (rest := []) ⟨hx, hb, hml, hown, hts⟩ hG hA hw (c_X7_isBelow G l _ p1 1000 r_2 h_1) (va_cwS 2 hts gX7_inForce_X7_isBelow rfl rfl rfl (by decide +kernel) ⟨Nat.le_of_ble_eq_true rfl, Nat.le_of_ble_eq_true rfl⟩) rfl hl.1 rfl (Nat.le_of_ble_eq_true rfl) dX7_inForce_4 ⟨Nat.zero_le _, Nat.zero_le _⟩ (fun H locs hw => ?_)
  refine lv_if_eq (tgt := 21) hx hb dX7_inForce_7 (by decide) (fun c_3 => ?_) (fun c_3 => ?_)
  · replace hf := if_t c_3 hf
    refine lv_bipush (v := (-2)) hx hb dX7_inForce_21 (by decide) ?_
    have e_4 := Option.some.inj hf
    subst e_4
    exact wd_iret hx hb hr hlocks hw dX7_inForce_23
  · replace hf := if_f c_3 hf
    refine lv_aload_n hx hb dX7_inForce_10 rfl (lv_at hl 0 rfl) ?_
    refine va_get (D := G.1) (ci := 7) (v := .ref (a 2)) (C := RX7) (T := TX7) (N := 6) hx hb hts hin7 hown hG.1 hw.1 0 rfl rfl 1 (by decide) (hts (.fieldLink RX7 19 "DutyDesk" "statutes" "LDutyDesk$Statutes;") (List.mem_of_getElem? (i := 1) rfl)) (fun _ h9 => h9) rfl dX7_inForce_11 ?_
    refine lv_iload_n hx hb dX7_inForce_14 rfl (lv_at hl 2 rfl) ?_
    obtain ⟨r_6, h_5, hf⟩ := bind_of hf
    refine cVN (As := [.int p2]) (rest := []) ⟨hx, hb, hml, hown, hts⟩ hG hA hw (c_X6_canKnow G l a ha R S p2 r_6 h_5) ⟨va_cnB 1 hts gX7_inForce_X6_canKnow_n137 rfl rfl rfl (hG.2.1 (.methodLinkNest "DutyDesk" 137 yX6_canKnow "DutyDesk") (List.mem_of_getElem? (i := 69) rfl)) (hts (.initialized RX6) (List.mem_of_getElem? (i := 7) rfl)) (by decide +kernel) ⟨Nat.le_of_ble_eq_true rfl, Nat.le_of_ble_eq_true rfl⟩, hts (.instanceMethod yX6_canKnow) (List.mem_of_getElem? (i := 6) rfl), hts (.selects RX6 yX6_canKnow yX6_canKnow) (List.mem_of_getElem? (i := 8) rfl)⟩ (va_recv hG.1 hw.1 (ci := 6) (q0 := 2) rfl rfl) rfl hl.1 rfl (Nat.le_of_ble_eq_true rfl) dX7_inForce_15 ⟨Nat.zero_le _, Nat.zero_le _⟩ (fun H locs hw => ?_)
    refine lv_if_ne (tgt := 24) hx hb dX7_inForce_18 (by decide) (fun c_7 => ?_) (fun c_7 => ?_)
    · replace hf := if_f c_7 hf
      refine lv_aload_n hx hb dX7_inForce_24 rfl (lv_at hl 0 rfl) ?_
      refine va_get (D := G.1) (ci := 7) (v := .ref (a 2)) (C := RX7) (T := TX7) (N := 6) hx hb hts hin7 hown hG.1 hw.1 0 rfl rfl 1 (by decide) (hts (.fieldLink RX7 19 "DutyDesk" "statutes" "LDutyDesk$Statutes;") (List.mem_of_getElem? (i := 1) rfl)) (fun _ h9 => h9) rfl dX7_inForce_25 ?_
      refine lv_iload_n hx hb dX7_inForce_28 rfl (lv_at hl 1 rfl) ?_
      refine lv_iload_n hx hb dX7_inForce_29 rfl (lv_at hl 2 rfl) ?_
      obtain ⟨r_9, h_8, hf⟩ := bind_of hf
      refine cVN (As := [.int p1, .int p2]) (rest := []) ⟨hx, hb, hml, hown, hts⟩ hG hA hw (c_X6_numberInForce G l a ha R S p1 p2 r_9 h_8) ⟨va_cnB 2 hts gX7_inForce_X6_numberInForce_n140 rfl rfl rfl (hG.2.1 (.methodLinkNest "DutyDesk" 140 yX6_numberInForce "DutyDesk") (List.mem_of_getElem? (i := 70) rfl)) (hts (.initialized RX6) (List.mem_of_getElem? (i := 7) rfl)) (by decide +kernel) ⟨Nat.le_of_ble_eq_true rfl, Nat.le_of_ble_eq_true rfl⟩, hts (.instanceMethod yX6_numberInForce) (List.mem_of_getElem? (i := 11) rfl), hts (.selects RX6 yX6_numberInForce yX6_numberInForce) (List.mem_of_getElem? (i := 12) rfl)⟩ (va_recv hG.1 hw.1 (ci := 6) (q0 := 2) rfl rfl) rfl hl.1 rfl (Nat.le_of_ble_eq_true rfl) dX7_inForce_30 ⟨Nat.zero_le _, Nat.zero_le _⟩ (fun H locs hw => ?_)
      have e_10 := Option.some.inj hf
      subst e_10
      exact wd_iret hx hb hr hlocks hw dX7_inForce_33
    · replace hf := if_t c_7 hf
      refine lv_bipush (v := (-2)) hx hb dX7_inForce_21 (by decide) ?_
      have e_11 := Option.some.inj hf
      subst e_11
      exact wd_iret hx hb hr hlocks hw dX7_inForce_23
/-! DutyDesk.rule(II)I -/
def rm_X7_rule : Room := { frames := 1, cells := 0, slots := 0, locals := 21 }
def f_X7_rule (S : St) (p1 : Int32) (p2 : Int32) : Option (Int32) :=
  (f_X7_isBelow p2 12).bind (fun r_2 => (if r_2 = 0 then
    some ((-9))
  else
    (if p1 < (-1) then
    some ((-9))
  else
    (if p1 < (gI S 10) then
    (f_X6_text S p1).bind (fun r_9 => gk r_9 (gd p2 12 (some ((gT S r_9 p2.toNatClampNeg)))))
  else
    some ((-9))))))
set_option maxHeartbeats 4000000 in
set_option maxRecDepth 100000 in
theorem c_X7_rule (G : GP) (l : Launch) (a : Nat → Nat) (ha : a 45 = G.2.2.1) (R : va_W) (S : St) (p1 : Int32) (p2 : Int32) (r0 : Int32) (hf : f_X7_rule S p1 p2 = some r0) : MC G l yX7_rule wsX7_rule rm_X7_rule [.ref (a 0), .int p1, .int p2] (xw G.2.1 a R S) (xw G.2.1 a R S) (some (.int r0)) 0 0 := by
  refine MC.mk (cc := cX7_rule) (maxL := 3) (ret := (some .int)) (by decide) rfl (Nat.le_of_ble_eq_true rfl) ?_
  intro p e s m below meth c A ls ⟨hx, hb, hr, hml, hown, hlocks, _, hts⟩ hw hG hA hl
  have hl : lv_has ls 3 [(0, .ref (a 0)), (1, .int p1), (2, .int p2)] := hl
  have hin6 : ∀ w ∈ u_ws RX6 TX6 2, w ∈ wsX7_rule := by decide +kernel
  have hin7 : ∀ w ∈ u_ws RX7 TX7 6, w ∈ wsX7_rule := by decide +kernel
  rw [f_X7_rule] at hf
  refine lv_iload_n hx hb dX7_rule_0 rfl (lv_at hl 2 rfl) ?_
  refine lv_bipush (v := 12) hx hb dX7_rule_1 (by decide) ?_
  obtain ⟨r_2, h_1, hf⟩ := bind_of hf
  refine cS (As := [.int p2, .int 12]) (rest := []) ⟨hx, hb, hml, hown, hts⟩ hG hA hw (c_X7_isBelow G l _ p2 12 r_2 h_1) (va_cwS 2 hts gX7_rule_X7_isBelow rfl rfl rfl (by decide +kernel) ⟨Nat.le_of_ble_eq_true rfl, Nat.le_of_ble_eq_true rfl⟩) rfl hl.1 rfl (Nat.le_of_ble_eq_true rfl) dX7_rule_3 ⟨Nat.zero_le _, Nat.zero_le _⟩ (fun H locs hw => ?_)
  refine lv_if_eq (tgt := 25) hx hb dX7_rule_6 (by decide) (fun c_3 => ?_) (fun c_3 => ?_)
  · replace hf := if_t c_3 hf
    refine lv_bipush (v := (-9)) hx hb dX7_rule_25 (by decide) ?_
    have e_4 := Option.some.inj hf
    subst e_4
    exact wd_iret hx hb hr hlocks hw dX7_rule_27
  · replace hf := if_f c_3 hf
    refine lv_iload_n hx hb dX7_rule_9 rfl (lv_at hl 1 rfl) ?_
    refine lv_iconst (v := (-1)) hx hb dX7_rule_10 (by decide) ?_
    refine lv_icmp_lt (tgt := 25) hx hb dX7_rule_11 (by decide) (fun c_5 => ?_) (fun c_5 => ?_)
    · replace hf := if_t c_5 hf
      refine lv_bipush (v := (-9)) hx hb dX7_rule_25 (by decide) ?_
      have e_6 := Option.some.inj hf
      subst e_6
      exact wd_iret hx hb hr hlocks hw dX7_rule_27
    · replace hf := if_f c_5 hf
      refine lv_iload_n hx hb dX7_rule_14 rfl (lv_at hl 1 rfl) ?_
      refine lv_aload_n hx hb dX7_rule_15 rfl (lv_at hl 0 rfl) ?_
      refine va_get (D := G.1) (ci := 7) (v := .ref (a 2)) (C := RX7) (T := TX7) (N := 6) hx hb hts hin7 hown hG.1 hw.1 0 rfl rfl 1 (by decide) (hts (.fieldLink RX7 19 "DutyDesk" "statutes" "LDutyDesk$Statutes;") (List.mem_of_getElem? (i := 1) rfl)) (fun _ h9 => h9) rfl dX7_rule_16 ?_
      refine va_getN (D := G.1) (ci := 6) (v := .int (gI S 10)) (C := RX6) (T := TX6) (N := 2) (host := "DutyDesk") hx hb hts hin6 hown hG.1 hw.1 2 rfl rfl 1 (by decide) (va_Nw.use rfl (hG.2.1 (.fieldLinkNest "DutyDesk" 124 "DutyDesk$Statutes" "size" "I" "DutyDesk") (List.mem_of_getElem? (i := 4) rfl))) (fun _ h9 => h9) rfl dX7_rule_19 ?_
      refine lv_icmp_lt (tgt := 28) hx hb dX7_rule_22 (by decide) (fun c_7 => ?_) (fun c_7 => ?_)
      · replace hf := if_t c_7 hf
        refine lv_aload_n hx hb dX7_rule_28 rfl (lv_at hl 0 rfl) ?_
        refine va_get (D := G.1) (ci := 7) (v := .ref (a 2)) (C := RX7) (T := TX7) (N := 6) hx hb hts hin7 hown hG.1 hw.1 0 rfl rfl 1 (by decide) (hts (.fieldLink RX7 19 "DutyDesk" "statutes" "LDutyDesk$Statutes;") (List.mem_of_getElem? (i := 1) rfl)) (fun _ h9 => h9) rfl dX7_rule_29 ?_
        refine lv_iload_n hx hb dX7_rule_32 rfl (lv_at hl 1 rfl) ?_
        obtain ⟨r_9, h_8, hf⟩ := bind_of hf
        refine cVN (As := [.int p1]) (rest := []) ⟨hx, hb, hml, hown, hts⟩ hG hA hw (c_X6_text G l a ha R S p1 r_9 h_8) ⟨va_cnB 1 hts gX7_rule_X6_text_n143 rfl rfl rfl (hG.2.1 (.methodLinkNest "DutyDesk" 143 yX6_text "DutyDesk") (List.mem_of_getElem? (i := 71) rfl)) (hts (.initialized RX6) (List.mem_of_getElem? (i := 7) rfl)) (by decide +kernel) ⟨Nat.le_of_ble_eq_true rfl, Nat.le_of_ble_eq_true rfl⟩, hts (.instanceMethod yX6_text) (List.mem_of_getElem? (i := 6) rfl), hts (.selects RX6 yX6_text yX6_text) (List.mem_of_getElem? (i := 8) rfl)⟩ (va_recv hG.1 hw.1 (ci := 6) (q0 := 2) rfl rfl) rfl hl.1 rfl (Nat.le_of_ble_eq_true rfl) dX7_rule_33 ⟨Nat.zero_le _, Nat.zero_le _⟩ (fun H locs hw => ?_)
        obtain ⟨ht_10, hf⟩ := gk_of hf
        refine lv_iload_n hx hb dX7_rule_36 rfl (lv_at hl 2 rfl) ?_
        obtain ⟨h_11, hf⟩ := gd_of hf
        refine x_tald hx hb ha hG hw ht_10 h_11 dX7_rule_37 ?_
        have e_12 := Option.some.inj hf
        subst e_12
        exact wd_iret hx hb hr hlocks hw dX7_rule_38
      · replace hf := if_f c_7 hf
        refine lv_bipush (v := (-9)) hx hb dX7_rule_25 (by decide) ?_
        have e_13 := Option.some.inj hf
        subst e_13
        exact wd_iret hx hb hr hlocks hw dX7_rule_27
/-! DutyDesk.duty(III)I -/
def rm_X7_duty : Room := { frames := 4, cells := 0, slots := 0, locals := 98 }
def f_X7_duty_J91 (y_1 : Int32) (y_2 : Int32) (y_3 : Int32) (y_4 : Int32) (S_5 : St) : Option (Int32 × St) :=
  (f_X2_put S_5 y_1 y_2 y_3).bind (fun S_7 => some ((y_4, S_7)))
def f_X7_duty_J38 (y_9 : Int32) (y_10 : Int32) (y_11 : Int32) (S_12 : St) : Option (Int32 × St) :=
  (f_X2_holder S_12 y_9 y_10).bind (fun r_14 => (f_X2_put S_12 y_9 y_10 (-1)).bind (fun S_16 => (if y_11 = (-1) then
    f_X7_duty_J91 y_9 y_10 y_11 r_14 S_16
  else
    (f_X2_mayHave S_16 y_11 y_9 y_10).bind (fun r_19 => (if r_19 = 0 then
    (f_X2_put S_16 y_9 y_10 r_14).bind (fun S_22 => some (((-4), S_22)))
  else
    f_X7_duty_J91 y_9 y_10 y_11 r_14 S_16)))))
def f_X7_duty (S : St) (p1 : Int32) (p2 : Int32) (p3 : Int32) : Option (Int32 × St) :=
  (f_X7_isBelow p1 6).bind (fun r_25 => (if r_25 = 0 then
    some (((-2), S))
  else
    (f_X7_isBelow p2 1000).bind (fun r_29 => (if r_29 = 0 then
    some (((-2), S))
  else
    (if p3 = (-1) then
    f_X7_duty_J38 p1 p2 p3 S
  else
    (f_X3_has S p3).bind (fun r_34 => (if r_34 = 0 then
    some (((-2), S))
  else
    f_X7_duty_J38 p1 p2 p3 S)))))))
set_option maxHeartbeats 4000000 in
set_option maxRecDepth 100000 in
theorem c_X7_duty (G : GP) (l : Launch) (a : Nat → Nat) (ha : a 45 = G.2.2.1) (R : va_W) (S : St) (p1 : Int32) (p2 : Int32) (p3 : Int32) (r0 : Int32) (S9 : St) (hf : f_X7_duty S p1 p2 p3 = some (r0, S9)) : MC G l yX7_duty wsX7_duty rm_X7_duty [.ref (a 0), .int p1, .int p2, .int p3] (xw G.2.1 a R S) (xw G.2.1 a R S9) (some (.int r0)) 0 0 := by
  refine MC.mk (cc := cX7_duty) (maxL := 5) (ret := (some .int)) (by decide) rfl (Nat.le_of_ble_eq_true rfl) ?_
  intro p e s m below meth c A ls ⟨hx, hb, hr, hml, hown, hlocks, _, hts⟩ hw hG hA hl
  have hl : lv_has ls 5 [(0, .ref (a 0)), (1, .int p1), (2, .int p2), (3, .int p3)] := hl
  have hin7 : ∀ w ∈ u_ws RX7 TX7 6, w ∈ wsX7_duty := by decide +kernel
  rw [f_X7_duty] at hf
  have j91 : ∀ (y_1 : Int32) (y_2 : Int32) (y_3 : Int32) (y_4 : Int32) (S_5 : St) (H : Heap) (locs : List Loc) (ls : Array Slot), f_X7_duty_J91 y_1 y_2 y_3 y_4 S_5 = some (r0, S9) → Wd G A s H locs (xw G.2.1 a R S_5) → lv_has ls 5 [(0, .ref (a 0)), (1, .int y_1), (2, .int y_2), (3, .int y_3), (4, .int y_4)] → WQ p l e rm_X7_duty s m [.ref (a 0), .int p1, .int p2, .int p3] below meth c G A (xw G.2.1 a R S9) (some (.int r0)) 0 0 H locs 0 0 (F0 m 91 ls []) := by
    intro y_1 y_2 y_3 y_4 S_5 H locs ls hf hw hl
    rw [f_X7_duty_J91] at hf
    refine lv_aload_n hx hb dX7_duty_91 rfl (lv_at hl 0 rfl) ?_
    refine va_get (D := G.1) (ci := 7) (v := .ref (a 4)) (C := RX7) (T := TX7) (N := 6) hx hb hts hin7 hown hG.1 hw.1 0 rfl rfl 3 (by decide) (hts (.fieldLink RX7 35 "DutyDesk" "nights" "LDutyDesk$Nights;") (List.mem_of_getElem? (i := 2) rfl)) (fun _ h9 => h9) rfl dX7_duty_92 ?_
    refine lv_iload_n hx hb dX7_duty_95 rfl (lv_at hl 1 rfl) ?_
    refine lv_iload_n hx hb dX7_duty_96 rfl (lv_at hl 2 rfl) ?_
    refine lv_iload_n hx hb dX7_duty_97 rfl (lv_at hl 3 rfl) ?_
    obtain ⟨S_7, h_6, hf⟩ := bind_of hf
    refine cVN (As := [.int y_1, .int y_2, .int y_3]) (rest := []) ⟨hx, hb, hml, hown, hts⟩ hG hA hw (c_X2_put G l a ha R S_5 y_1 y_2 y_3 S_7 h_6) ⟨va_cnB 3 hts gX7_duty_X2_put_n149 rfl rfl rfl (hG.2.1 (.methodLinkNest "DutyDesk" 149 yX2_put "DutyDesk") (List.mem_of_getElem? (i := 73) rfl)) (hts (.initialized RX2) (List.mem_of_getElem? (i := 13) rfl)) (by decide +kernel) ⟨Nat.le_of_ble_eq_true rfl, Nat.le_of_ble_eq_true rfl⟩, hts (.instanceMethod yX2_put) (List.mem_of_getElem? (i := 17) rfl), hts (.selects RX2 yX2_put yX2_put) (List.mem_of_getElem? (i := 18) rfl)⟩ (va_recv hG.1 hw.1 (ci := 2) (q0 := 4) rfl rfl) rfl hl.1 rfl (Nat.le_of_ble_eq_true rfl) dX7_duty_98 ⟨Nat.zero_le _, Nat.zero_le _⟩ (fun H locs hw => ?_)
    refine lv_iload hx hb dX7_duty_101 (lv_at hl 4 rfl) ?_
    have e_8 := Option.some.inj hf
    obtain ⟨rfl, rfl⟩ := Prod.mk.inj e_8
    exact wd_iret hx hb hr hlocks hw dX7_duty_103
  have j38 : ∀ (y_9 : Int32) (y_10 : Int32) (y_11 : Int32) (S_12 : St) (H : Heap) (locs : List Loc) (ls : Array Slot), f_X7_duty_J38 y_9 y_10 y_11 S_12 = some (r0, S9) → Wd G A s H locs (xw G.2.1 a R S_12) → lv_has ls 5 [(0, .ref (a 0)), (1, .int y_9), (2, .int y_10), (3, .int y_11)] → WQ p l e rm_X7_duty s m [.ref (a 0), .int p1, .int p2, .int p3] below meth c G A (xw G.2.1 a R S9) (some (.int r0)) 0 0 H locs 0 0 (F0 m 38 ls []) := by
    intro y_9 y_10 y_11 S_12 H locs ls hf hw hl
    rw [f_X7_duty_J38] at hf
    refine lv_aload_n hx hb dX7_duty_38 rfl (lv_at hl 0 rfl) ?_
    refine va_get (D := G.1) (ci := 7) (v := .ref (a 4)) (C := RX7) (T := TX7) (N := 6) hx hb hts hin7 hown hG.1 hw.1 0 rfl rfl 3 (by decide) (hts (.fieldLink RX7 35 "DutyDesk" "nights" "LDutyDesk$Nights;") (List.mem_of_getElem? (i := 2) rfl)) (fun _ h9 => h9) rfl dX7_duty_39 ?_
    refine lv_iload_n hx hb dX7_duty_42 rfl (lv_at hl 1 rfl) ?_
    refine lv_iload_n hx hb dX7_duty_43 rfl (lv_at hl 2 rfl) ?_
    obtain ⟨r_14, h_13, hf⟩ := bind_of hf
    refine cVN (As := [.int y_9, .int y_10]) (rest := []) ⟨hx, hb, hml, hown, hts⟩ hG hA hw (c_X2_holder G l a ha R S_12 y_9 y_10 r_14 h_13) ⟨va_cnB 2 hts gX7_duty_X2_holder_n146 rfl rfl rfl (hG.2.1 (.methodLinkNest "DutyDesk" 146 yX2_holder "DutyDesk") (List.mem_of_getElem? (i := 72) rfl)) (hts (.initialized RX2) (List.mem_of_getElem? (i := 13) rfl)) (by decide +kernel) ⟨Nat.le_of_ble_eq_true rfl, Nat.le_of_ble_eq_true rfl⟩, hts (.instanceMethod yX2_holder) (List.mem_of_getElem? (i := 12) rfl), hts (.selects RX2 yX2_holder yX2_holder) (List.mem_of_getElem? (i := 14) rfl)⟩ (va_recv hG.1 hw.1 (ci := 2) (q0 := 4) rfl rfl) rfl hl.1 rfl (Nat.le_of_ble_eq_true rfl) dX7_duty_44 ⟨Nat.zero_le _, Nat.zero_le _⟩ (fun H locs hw => ?_)
    refine lv_istore (lv' := [(4, .int r_14), (0, .ref (a 0)), (1, .int y_9), (2, .int y_10), (3, .int y_11)]) hx hb dX7_duty_47 hl (by decide) rfl (fun ls hl => ?_)
    refine lv_aload_n hx hb dX7_duty_49 rfl (lv_at hl 1 rfl) ?_
    refine va_get (D := G.1) (ci := 7) (v := .ref (a 4)) (C := RX7) (T := TX7) (N := 6) hx hb hts hin7 hown hG.1 hw.1 0 rfl rfl 3 (by decide) (hts (.fieldLink RX7 35 "DutyDesk" "nights" "LDutyDesk$Nights;") (List.mem_of_getElem? (i := 2) rfl)) (fun _ h9 => h9) rfl dX7_duty_50 ?_
    refine lv_iload_n hx hb dX7_duty_53 rfl (lv_at hl 2 rfl) ?_
    refine lv_iload_n hx hb dX7_duty_54 rfl (lv_at hl 3 rfl) ?_
    refine lv_iconst (v := (-1)) hx hb dX7_duty_55 (by decide) ?_
    obtain ⟨S_16, h_15, hf⟩ := bind_of hf
    refine cVN (As := [.int y_9, .int y_10, .int (-1)]) (rest := []) ⟨hx, hb, hml, hown, hts⟩ hG hA hw (c_X2_put G l a ha R S_12 y_9 y_10 (-1) S_16 h_15) ⟨va_cnB 3 hts gX7_duty_X2_put_n149 rfl rfl rfl (hG.2.1 (.methodLinkNest "DutyDesk" 149 yX2_put "DutyDesk") (List.mem_of_getElem? (i := 73) rfl)) (hts (.initialized RX2) (List.mem_of_getElem? (i := 13) rfl)) (by decide +kernel) ⟨Nat.le_of_ble_eq_true rfl, Nat.le_of_ble_eq_true rfl⟩, hts (.instanceMethod yX2_put) (List.mem_of_getElem? (i := 17) rfl), hts (.selects RX2 yX2_put yX2_put) (List.mem_of_getElem? (i := 18) rfl)⟩ (va_recv hG.1 hw.1 (ci := 2) (q0 := 4) rfl rfl) rfl hl.1 rfl (Nat.le_of_ble_eq_true rfl) dX7_duty_56 ⟨Nat.zero_le _, Nat.zero_le _⟩ (fun H locs hw => ?_)
    refine lv_iload_n hx hb dX7_duty_59 rfl (lv_at hl 4 rfl) ?_
    refine lv_iconst (v := (-1)) hx hb dX7_duty_60 (by decide) ?_
    refine lv_icmp_eq (tgt := 91) hx hb dX7_duty_61 (by decide) (fun c_17 => ?_) (fun c_17 => ?_)
    · replace hf := if_t c_17 hf
      exact j91 y_9 y_10 y_11 r_14 S_16 _ _ _ hf hw (lv_sub hl [1, 2, 3, 4, 0] rfl)
    · replace hf := if_f c_17 hf
      refine lv_aload_n hx hb dX7_duty_64 rfl (lv_at hl 1 rfl) ?_
      refine va_get (D := G.1) (ci := 7) (v := .ref (a 4)) (C := RX7) (T := TX7) (N := 6) hx hb hts hin7 hown hG.1 hw.1 0 rfl rfl 3 (by decide) (hts (.fieldLink RX7 35 "DutyDesk" "nights" "LDutyDesk$Nights;") (List.mem_of_getElem? (i := 2) rfl)) (fun _ h9 => h9) rfl dX7_duty_65 ?_
      refine lv_iload_n hx hb dX7_duty_68 rfl (lv_at hl 4 rfl) ?_
      refine lv_iload_n hx hb dX7_duty_69 rfl (lv_at hl 2 rfl) ?_
      refine lv_iload_n hx hb dX7_duty_70 rfl (lv_at hl 3 rfl) ?_
      obtain ⟨r_19, h_18, hf⟩ := bind_of hf
      refine cVN (As := [.int y_11, .int y_9, .int y_10]) (rest := []) ⟨hx, hb, hml, hown, hts⟩ hG hA hw (c_X2_mayHave G l a ha R S_16 y_11 y_9 y_10 r_19 h_18) ⟨va_cnB 3 hts gX7_duty_X2_mayHave_n152 rfl rfl rfl (hG.2.1 (.methodLinkNest "DutyDesk" 152 yX2_mayHave "DutyDesk") (List.mem_of_getElem? (i := 74) rfl)) (hts (.initialized RX2) (List.mem_of_getElem? (i := 13) rfl)) (by decide +kernel) ⟨Nat.le_of_ble_eq_true rfl, Nat.le_of_ble_eq_true rfl⟩, hts (.instanceMethod yX2_mayHave) (List.mem_of_getElem? (i := 23) rfl), hts (.selects RX2 yX2_mayHave yX2_mayHave) (List.mem_of_getElem? (i := 24) rfl)⟩ (va_recv hG.1 hw.1 (ci := 2) (q0 := 4) rfl rfl) rfl hl.1 rfl (Nat.le_of_ble_eq_true rfl) dX7_duty_71 ⟨Nat.zero_le _, Nat.zero_le _⟩ (fun H locs hw => ?_)
      refine lv_if_ne (tgt := 91) hx hb dX7_duty_74 (by decide) (fun c_20 => ?_) (fun c_20 => ?_)
      · replace hf := if_f c_20 hf
        exact j91 y_9 y_10 y_11 r_14 S_16 _ _ _ hf hw (lv_sub hl [1, 2, 3, 4, 0] rfl)
      · replace hf := if_t c_20 hf
        refine lv_aload_n hx hb dX7_duty_77 rfl (lv_at hl 1 rfl) ?_
        refine va_get (D := G.1) (ci := 7) (v := .ref (a 4)) (C := RX7) (T := TX7) (N := 6) hx hb hts hin7 hown hG.1 hw.1 0 rfl rfl 3 (by decide) (hts (.fieldLink RX7 35 "DutyDesk" "nights" "LDutyDesk$Nights;") (List.mem_of_getElem? (i := 2) rfl)) (fun _ h9 => h9) rfl dX7_duty_78 ?_
        refine lv_iload_n hx hb dX7_duty_81 rfl (lv_at hl 2 rfl) ?_
        refine lv_iload_n hx hb dX7_duty_82 rfl (lv_at hl 3 rfl) ?_
        refine lv_iload hx hb dX7_duty_83 (lv_at hl 0 rfl) ?_
        obtain ⟨S_22, h_21, hf⟩ := bind_of hf
        refine cVN (As := [.int y_9, .int y_10, .int r_14]) (rest := []) ⟨hx, hb, hml, hown, hts⟩ hG hA hw (c_X2_put G l a ha R S_16 y_9 y_10 r_14 S_22 h_21) ⟨va_cnB 3 hts gX7_duty_X2_put_n149 rfl rfl rfl (hG.2.1 (.methodLinkNest "DutyDesk" 149 yX2_put "DutyDesk") (List.mem_of_getElem? (i := 73) rfl)) (hts (.initialized RX2) (List.mem_of_getElem? (i := 13) rfl)) (by decide +kernel) ⟨Nat.le_of_ble_eq_true rfl, Nat.le_of_ble_eq_true rfl⟩, hts (.instanceMethod yX2_put) (List.mem_of_getElem? (i := 17) rfl), hts (.selects RX2 yX2_put yX2_put) (List.mem_of_getElem? (i := 18) rfl)⟩ (va_recv hG.1 hw.1 (ci := 2) (q0 := 4) rfl rfl) rfl hl.1 rfl (Nat.le_of_ble_eq_true rfl) dX7_duty_85 ⟨Nat.zero_le _, Nat.zero_le _⟩ (fun H locs hw => ?_)
        refine lv_bipush (v := (-4)) hx hb dX7_duty_88 (by decide) ?_
        have e_23 := Option.some.inj hf
        obtain ⟨rfl, rfl⟩ := Prod.mk.inj e_23
        exact wd_iret hx hb hr hlocks hw dX7_duty_90
  refine lv_iload_n hx hb dX7_duty_0 rfl (lv_at hl 1 rfl) ?_
  refine lv_bipush (v := 6) hx hb dX7_duty_1 (by decide) ?_
  obtain ⟨r_25, h_24, hf⟩ := bind_of hf
  refine cS (As := [.int p1, .int 6]) (rest := []) ⟨hx, hb, hml, hown, hts⟩ hG hA hw (c_X7_isBelow G l _ p1 6 r_25 h_24) (va_cwS 2 hts gX7_duty_X7_isBelow rfl rfl rfl (by decide +kernel) ⟨Nat.le_of_ble_eq_true rfl, Nat.le_of_ble_eq_true rfl⟩) rfl hl.1 rfl (Nat.le_of_ble_eq_true rfl) dX7_duty_3 ⟨Nat.zero_le _, Nat.zero_le _⟩ (fun H locs hw => ?_)
  refine lv_if_eq (tgt := 35) hx hb dX7_duty_6 (by decide) (fun c_26 => ?_) (fun c_26 => ?_)
  · replace hf := if_t c_26 hf
    refine lv_bipush (v := (-2)) hx hb dX7_duty_35 (by decide) ?_
    have e_27 := Option.some.inj hf
    obtain ⟨rfl, rfl⟩ := Prod.mk.inj e_27
    exact wd_iret hx hb hr hlocks hw dX7_duty_37
  · replace hf := if_f c_26 hf
    refine lv_iload_n hx hb dX7_duty_9 rfl (lv_at hl 2 rfl) ?_
    refine lv_sipush (v := 1000) hx hb dX7_duty_10 (by decide) ?_
    obtain ⟨r_29, h_28, hf⟩ := bind_of hf
    refine cS (As := [.int p2, .int 1000]) (rest := []) ⟨hx, hb, hml, hown, hts⟩ hG hA hw (c_X7_isBelow G l _ p2 1000 r_29 h_28) (va_cwS 2 hts gX7_duty_X7_isBelow rfl rfl rfl (by decide +kernel) ⟨Nat.le_of_ble_eq_true rfl, Nat.le_of_ble_eq_true rfl⟩) rfl hl.1 rfl (Nat.le_of_ble_eq_true rfl) dX7_duty_13 ⟨Nat.zero_le _, Nat.zero_le _⟩ (fun H locs hw => ?_)
    refine lv_if_eq (tgt := 35) hx hb dX7_duty_16 (by decide) (fun c_30 => ?_) (fun c_30 => ?_)
    · replace hf := if_t c_30 hf
      refine lv_bipush (v := (-2)) hx hb dX7_duty_35 (by decide) ?_
      have e_31 := Option.some.inj hf
      obtain ⟨rfl, rfl⟩ := Prod.mk.inj e_31
      exact wd_iret hx hb hr hlocks hw dX7_duty_37
    · replace hf := if_f c_30 hf
      refine lv_iload_n hx hb dX7_duty_19 rfl (lv_at hl 3 rfl) ?_
      refine lv_iconst (v := (-1)) hx hb dX7_duty_20 (by decide) ?_
      refine lv_icmp_eq (tgt := 38) hx hb dX7_duty_21 (by decide) (fun c_32 => ?_) (fun c_32 => ?_)
      · replace hf := if_t c_32 hf
        exact j38 p1 p2 p3 S _ _ _ hf hw (lv_sub hl [0, 1, 2, 3] rfl)
      · replace hf := if_f c_32 hf
        refine lv_aload_n hx hb dX7_duty_24 rfl (lv_at hl 0 rfl) ?_
        refine va_get (D := G.1) (ci := 7) (v := .ref (a 3)) (C := RX7) (T := TX7) (N := 6) hx hb hts hin7 hown hG.1 hw.1 0 rfl rfl 2 (by decide) (hts (.fieldLink RX7 26 "DutyDesk" "people" "LDutyDesk$People;") (List.mem_of_getElem? (i := 1) rfl)) (fun _ h9 => h9) rfl dX7_duty_25 ?_
        refine lv_iload_n hx hb dX7_duty_28 rfl (lv_at hl 3 rfl) ?_
        obtain ⟨r_34, h_33, hf⟩ := bind_of hf
        refine cVN (As := [.int p3]) (rest := []) ⟨hx, hb, hml, hown, hts⟩ hG hA hw (c_X3_has G l a ha R S p3 r_34 h_33) ⟨va_cnB 1 hts gX7_duty_X3_has_n76 rfl rfl rfl (hG.2.1 (.methodLinkNest "DutyDesk" 76 yX3_has "DutyDesk") (List.mem_of_getElem? (i := 54) rfl)) (hts (.initialized RX3) (List.mem_of_getElem? (i := 8) rfl)) (by decide +kernel) ⟨Nat.le_of_ble_eq_true rfl, Nat.le_of_ble_eq_true rfl⟩, hts (.instanceMethod yX3_has) (List.mem_of_getElem? (i := 7) rfl), hts (.selects RX3 yX3_has yX3_has) (List.mem_of_getElem? (i := 9) rfl)⟩ (va_recv hG.1 hw.1 (ci := 3) (q0 := 3) rfl rfl) rfl hl.1 rfl (Nat.le_of_ble_eq_true rfl) dX7_duty_29 ⟨Nat.zero_le _, Nat.zero_le _⟩ (fun H locs hw => ?_)
        refine lv_if_ne (tgt := 38) hx hb dX7_duty_32 (by decide) (fun c_35 => ?_) (fun c_35 => ?_)
        · replace hf := if_f c_35 hf
          exact j38 p1 p2 p3 S _ _ _ hf hw (lv_sub hl [0, 1, 2, 3] rfl)
        · replace hf := if_t c_35 hf
          refine lv_bipush (v := (-2)) hx hb dX7_duty_35 (by decide) ?_
          have e_36 := Option.some.inj hf
          obtain ⟨rfl, rfl⟩ := Prod.mk.inj e_36
          exact wd_iret hx hb hr hlocks hw dX7_duty_37
/-! DutyDesk.onDuty(II)I -/
def rm_X7_onDuty : Room := { frames := 1, cells := 0, slots := 0, locals := 22 }
def f_X7_onDuty (S : St) (p1 : Int32) (p2 : Int32) : Option (Int32) :=
  (f_X7_isBelow p1 6).bind (fun r_2 => (if r_2 = 0 then
    some ((-2))
  else
    (f_X7_isBelow p2 1000).bind (fun r_6 => (if r_6 = 0 then
    some ((-2))
  else
    (f_X2_holder S p1 p2).bind (fun r_9 => some (r_9))))))
set_option maxHeartbeats 4000000 in
set_option maxRecDepth 100000 in
theorem c_X7_onDuty (G : GP) (l : Launch) (a : Nat → Nat) (ha : a 45 = G.2.2.1) (R : va_W) (S : St) (p1 : Int32) (p2 : Int32) (r0 : Int32) (hf : f_X7_onDuty S p1 p2 = some r0) : MC G l yX7_onDuty wsX7_onDuty rm_X7_onDuty [.ref (a 0), .int p1, .int p2] (xw G.2.1 a R S) (xw G.2.1 a R S) (some (.int r0)) 0 0 := by
  refine MC.mk (cc := cX7_onDuty) (maxL := 3) (ret := (some .int)) (by decide) rfl (Nat.le_of_ble_eq_true rfl) ?_
  intro p e s m below meth c A ls ⟨hx, hb, hr, hml, hown, hlocks, _, hts⟩ hw hG hA hl
  have hl : lv_has ls 3 [(0, .ref (a 0)), (1, .int p1), (2, .int p2)] := hl
  have hin7 : ∀ w ∈ u_ws RX7 TX7 6, w ∈ wsX7_onDuty := by decide +kernel
  rw [f_X7_onDuty] at hf
  refine lv_iload_n hx hb dX7_onDuty_0 rfl (lv_at hl 1 rfl) ?_
  refine lv_bipush (v := 6) hx hb dX7_onDuty_1 (by decide) ?_
  obtain ⟨r_2, h_1, hf⟩ := bind_of hf
  refine cS (As := [.int p1, .int 6]) (rest := []) ⟨hx, hb, hml, hown, hts⟩ hG hA hw (c_X7_isBelow G l _ p1 6 r_2 h_1) (va_cwS 2 hts gX7_onDuty_X7_isBelow rfl rfl rfl (by decide +kernel) ⟨Nat.le_of_ble_eq_true rfl, Nat.le_of_ble_eq_true rfl⟩) rfl hl.1 rfl (Nat.le_of_ble_eq_true rfl) dX7_onDuty_3 ⟨Nat.zero_le _, Nat.zero_le _⟩ (fun H locs hw => ?_)
  refine lv_if_eq (tgt := 19) hx hb dX7_onDuty_6 (by decide) (fun c_3 => ?_) (fun c_3 => ?_)
  · replace hf := if_t c_3 hf
    refine lv_bipush (v := (-2)) hx hb dX7_onDuty_19 (by decide) ?_
    have e_4 := Option.some.inj hf
    subst e_4
    exact wd_iret hx hb hr hlocks hw dX7_onDuty_21
  · replace hf := if_f c_3 hf
    refine lv_iload_n hx hb dX7_onDuty_9 rfl (lv_at hl 2 rfl) ?_
    refine lv_sipush (v := 1000) hx hb dX7_onDuty_10 (by decide) ?_
    obtain ⟨r_6, h_5, hf⟩ := bind_of hf
    refine cS (As := [.int p2, .int 1000]) (rest := []) ⟨hx, hb, hml, hown, hts⟩ hG hA hw (c_X7_isBelow G l _ p2 1000 r_6 h_5) (va_cwS 2 hts gX7_onDuty_X7_isBelow rfl rfl rfl (by decide +kernel) ⟨Nat.le_of_ble_eq_true rfl, Nat.le_of_ble_eq_true rfl⟩) rfl hl.1 rfl (Nat.le_of_ble_eq_true rfl) dX7_onDuty_13 ⟨Nat.zero_le _, Nat.zero_le _⟩ (fun H locs hw => ?_)
    refine lv_if_ne (tgt := 22) hx hb dX7_onDuty_16 (by decide) (fun c_7 => ?_) (fun c_7 => ?_)
    · replace hf := if_f c_7 hf
      refine lv_aload_n hx hb dX7_onDuty_22 rfl (lv_at hl 0 rfl) ?_
      refine va_get (D := G.1) (ci := 7) (v := .ref (a 4)) (C := RX7) (T := TX7) (N := 6) hx hb hts hin7 hown hG.1 hw.1 0 rfl rfl 3 (by decide) (hts (.fieldLink RX7 35 "DutyDesk" "nights" "LDutyDesk$Nights;") (List.mem_of_getElem? (i := 1) rfl)) (fun _ h9 => h9) rfl dX7_onDuty_23 ?_
      refine lv_iload_n hx hb dX7_onDuty_26 rfl (lv_at hl 1 rfl) ?_
      refine lv_iload_n hx hb dX7_onDuty_27 rfl (lv_at hl 2 rfl) ?_
      obtain ⟨r_9, h_8, hf⟩ := bind_of hf
      refine cVN (As := [.int p1, .int p2]) (rest := []) ⟨hx, hb, hml, hown, hts⟩ hG hA hw (c_X2_holder G l a ha R S p1 p2 r_9 h_8) ⟨va_cnB 2 hts gX7_onDuty_X2_holder_n146 rfl rfl rfl (hG.2.1 (.methodLinkNest "DutyDesk" 146 yX2_holder "DutyDesk") (List.mem_of_getElem? (i := 72) rfl)) (hts (.initialized RX2) (List.mem_of_getElem? (i := 7) rfl)) (by decide +kernel) ⟨Nat.le_of_ble_eq_true rfl, Nat.le_of_ble_eq_true rfl⟩, hts (.instanceMethod yX2_holder) (List.mem_of_getElem? (i := 6) rfl), hts (.selects RX2 yX2_holder yX2_holder) (List.mem_of_getElem? (i := 8) rfl)⟩ (va_recv hG.1 hw.1 (ci := 2) (q0 := 4) rfl rfl) rfl hl.1 rfl (Nat.le_of_ble_eq_true rfl) dX7_onDuty_28 ⟨Nat.zero_le _, Nat.zero_le _⟩ (fun H locs hw => ?_)
      have e_10 := Option.some.inj hf
      subst e_10
      exact wd_iret hx hb hr hlocks hw dX7_onDuty_31
    · replace hf := if_t c_7 hf
      refine lv_bipush (v := (-2)) hx hb dX7_onDuty_19 (by decide) ?_
      have e_11 := Option.some.inj hf
      subst e_11
      exact wd_iret hx hb hr hlocks hw dX7_onDuty_21
/-! DutyDesk.plan(III)I -/
def rm_X7_plan : Room := { frames := 7, cells := 0, slots := 0, locals := 175 }
def f_X7_plan (S : St) (p1 : Int32) (p2 : Int32) (p3 : Int32) : Option (Int32 × St) :=
  (f_X7_isBelow p1 6).bind (fun r_2 => (if r_2 = 0 then
    some (((-2), S))
  else
    (f_X7_isBelow p2 1000).bind (fun r_6 => (if r_6 = 0 then
    some (((-2), S))
  else
    (if p3 < 1 then
    some (((-2), S))
  else
    (if 4 < p3 then
    some (((-2), S))
  else
    (if (p2 + p3) ≤ 1000 then
    (f_X4_makePlan S p1 p2 p3).bind (fun (r_15, S_16) => some ((r_15, S_16)))
  else
    some (((-2), S)))))))))
set_option maxHeartbeats 4000000 in
set_option maxRecDepth 100000 in
theorem c_X7_plan (G : GP) (l : Launch) (a : Nat → Nat) (ha : a 45 = G.2.2.1) (R : va_W) (S : St) (p1 : Int32) (p2 : Int32) (p3 : Int32) (r0 : Int32) (S9 : St) (hf : f_X7_plan S p1 p2 p3 = some (r0, S9)) : MC G l yX7_plan wsX7_plan rm_X7_plan [.ref (a 0), .int p1, .int p2, .int p3] (xw G.2.1 a R S) (xw G.2.1 a R S9) (some (.int r0)) 0 0 := by
  refine MC.mk (cc := cX7_plan) (maxL := 4) (ret := (some .int)) (by decide) rfl (Nat.le_of_ble_eq_true rfl) ?_
  intro p e s m below meth c A ls ⟨hx, hb, hr, hml, hown, hlocks, _, hts⟩ hw hG hA hl
  have hl : lv_has ls 4 [(0, .ref (a 0)), (1, .int p1), (2, .int p2), (3, .int p3)] := hl
  have hin7 : ∀ w ∈ u_ws RX7 TX7 6, w ∈ wsX7_plan := by decide +kernel
  rw [f_X7_plan] at hf
  refine lv_iload_n hx hb dX7_plan_0 rfl (lv_at hl 1 rfl) ?_
  refine lv_bipush (v := 6) hx hb dX7_plan_1 (by decide) ?_
  obtain ⟨r_2, h_1, hf⟩ := bind_of hf
  refine cS (As := [.int p1, .int 6]) (rest := []) ⟨hx, hb, hml, hown, hts⟩ hG hA hw (c_X7_isBelow G l _ p1 6 r_2 h_1) (va_cwS 2 hts gX7_plan_X7_isBelow rfl rfl rfl (by decide +kernel) ⟨Nat.le_of_ble_eq_true rfl, Nat.le_of_ble_eq_true rfl⟩) rfl hl.1 rfl (Nat.le_of_ble_eq_true rfl) dX7_plan_3 ⟨Nat.zero_le _, Nat.zero_le _⟩ (fun H locs hw => ?_)
  refine lv_if_eq (tgt := 38) hx hb dX7_plan_6 (by decide) (fun c_3 => ?_) (fun c_3 => ?_)
  · replace hf := if_t c_3 hf
    refine lv_bipush (v := (-2)) hx hb dX7_plan_38 (by decide) ?_
    have e_4 := Option.some.inj hf
    obtain ⟨rfl, rfl⟩ := Prod.mk.inj e_4
    exact wd_iret hx hb hr hlocks hw dX7_plan_40
  · replace hf := if_f c_3 hf
    refine lv_iload_n hx hb dX7_plan_9 rfl (lv_at hl 2 rfl) ?_
    refine lv_sipush (v := 1000) hx hb dX7_plan_10 (by decide) ?_
    obtain ⟨r_6, h_5, hf⟩ := bind_of hf
    refine cS (As := [.int p2, .int 1000]) (rest := []) ⟨hx, hb, hml, hown, hts⟩ hG hA hw (c_X7_isBelow G l _ p2 1000 r_6 h_5) (va_cwS 2 hts gX7_plan_X7_isBelow rfl rfl rfl (by decide +kernel) ⟨Nat.le_of_ble_eq_true rfl, Nat.le_of_ble_eq_true rfl⟩) rfl hl.1 rfl (Nat.le_of_ble_eq_true rfl) dX7_plan_13 ⟨Nat.zero_le _, Nat.zero_le _⟩ (fun H locs hw => ?_)
    refine lv_if_eq (tgt := 38) hx hb dX7_plan_16 (by decide) (fun c_7 => ?_) (fun c_7 => ?_)
    · replace hf := if_t c_7 hf
      refine lv_bipush (v := (-2)) hx hb dX7_plan_38 (by decide) ?_
      have e_8 := Option.some.inj hf
      obtain ⟨rfl, rfl⟩ := Prod.mk.inj e_8
      exact wd_iret hx hb hr hlocks hw dX7_plan_40
    · replace hf := if_f c_7 hf
      refine lv_iload_n hx hb dX7_plan_19 rfl (lv_at hl 3 rfl) ?_
      refine lv_iconst (v := 1) hx hb dX7_plan_20 (by decide) ?_
      refine lv_icmp_lt (tgt := 38) hx hb dX7_plan_21 (by decide) (fun c_9 => ?_) (fun c_9 => ?_)
      · replace hf := if_t c_9 hf
        refine lv_bipush (v := (-2)) hx hb dX7_plan_38 (by decide) ?_
        have e_10 := Option.some.inj hf
        obtain ⟨rfl, rfl⟩ := Prod.mk.inj e_10
        exact wd_iret hx hb hr hlocks hw dX7_plan_40
      · replace hf := if_f c_9 hf
        refine lv_iload_n hx hb dX7_plan_24 rfl (lv_at hl 3 rfl) ?_
        refine lv_iconst (v := 4) hx hb dX7_plan_25 (by decide) ?_
        refine lv_icmp_gt (tgt := 38) hx hb dX7_plan_26 (by decide) (fun c_11 => ?_) (fun c_11 => ?_)
        · replace hf := if_t c_11 hf
          refine lv_bipush (v := (-2)) hx hb dX7_plan_38 (by decide) ?_
          have e_12 := Option.some.inj hf
          obtain ⟨rfl, rfl⟩ := Prod.mk.inj e_12
          exact wd_iret hx hb hr hlocks hw dX7_plan_40
        · replace hf := if_f c_11 hf
          refine lv_iload_n hx hb dX7_plan_29 rfl (lv_at hl 2 rfl) ?_
          refine lv_iload_n hx hb dX7_plan_30 rfl (lv_at hl 3 rfl) ?_
          refine lv_iadd hx hb dX7_plan_31 ?_
          refine lv_sipush (v := 1000) hx hb dX7_plan_32 (by decide) ?_
          refine lv_icmp_le (tgt := 41) hx hb dX7_plan_35 (by decide) (fun c_13 => ?_) (fun c_13 => ?_)
          · replace hf := if_t c_13 hf
            refine lv_aload_n hx hb dX7_plan_41 rfl (lv_at hl 0 rfl) ?_
            refine va_get (D := G.1) (ci := 7) (v := .ref (a 5)) (C := RX7) (T := TX7) (N := 6) hx hb hts hin7 hown hG.1 hw.1 0 rfl rfl 4 (by decide) (hts (.fieldLink RX7 44 "DutyDesk" "planner" "LDutyDesk$Planner;") (List.mem_of_getElem? (i := 1) rfl)) (fun _ h9 => h9) rfl dX7_plan_42 ?_
            refine lv_iload_n hx hb dX7_plan_45 rfl (lv_at hl 1 rfl) ?_
            refine lv_iload_n hx hb dX7_plan_46 rfl (lv_at hl 2 rfl) ?_
            refine lv_iload_n hx hb dX7_plan_47 rfl (lv_at hl 3 rfl) ?_
            obtain ⟨⟨r_15, S_16⟩, h_14, hf⟩ := bind_of hf
            replace hf : _ = some _ := hf
            refine cVN (As := [.int p1, .int p2, .int p3]) (rest := []) ⟨hx, hb, hml, hown, hts⟩ hG hA hw (c_X4_makePlan G l a ha R S p1 p2 p3 r_15 S_16 h_14) ⟨va_cnB 3 hts gX7_plan_X4_makePlan_n156 rfl rfl rfl (hG.2.1 (.methodLinkNest "DutyDesk" 156 yX4_makePlan "DutyDesk") (List.mem_of_getElem? (i := 75) rfl)) (hts (.initialized RX4) (List.mem_of_getElem? (i := 7) rfl)) (by decide +kernel) ⟨Nat.le_of_ble_eq_true rfl, Nat.le_of_ble_eq_true rfl⟩, hts (.instanceMethod yX4_makePlan) (List.mem_of_getElem? (i := 6) rfl), hts (.selects RX4 yX4_makePlan yX4_makePlan) (List.mem_of_getElem? (i := 8) rfl)⟩ (va_recv hG.1 hw.1 (ci := 4) (q0 := 5) rfl rfl) rfl hl.1 rfl (Nat.le_of_ble_eq_true rfl) dX7_plan_48 ⟨Nat.zero_le _, Nat.zero_le _⟩ (fun H locs hw => ?_)
            have e_17 := Option.some.inj hf
            obtain ⟨rfl, rfl⟩ := Prod.mk.inj e_17
            exact wd_iret hx hb hr hlocks hw dX7_plan_51
          · replace hf := if_f c_13 hf
            refine lv_bipush (v := (-2)) hx hb dX7_plan_38 (by decide) ?_
            have e_18 := Option.some.inj hf
            obtain ⟨rfl, rfl⟩ := Prod.mk.inj e_18
            exact wd_iret hx hb hr hlocks hw dX7_plan_40
/-! DutyDesk.uneven()I -/
def rm_X7_uneven : Room := { frames := 0, cells := 0, slots := 0, locals := 0 }
def f_X7_uneven_L4 (S : St) : (Int32 × Int32) → Option ((Int32 × Int32) ⊕ (Int32))
  | (v_1, v_2) =>
  (if (gI S 11) ≤ v_2 then
    some (.inr (v_1))
  else
    gd v_2 24 (gd v_2 24 (bnd (v_1 + ((gM S 19 v_2.toNatClampNeg) * (gM S 19 v_2.toNatClampNeg))) fun x_8 => bnd (v_2 + 1) fun x_9 => some (.inl (x_8, x_9)))))
def f_X7_uneven (S : St) : Option (Int32) :=
  loopF (f_X7_uneven_L4 S) FU (0, 0)
set_option maxHeartbeats 4000000 in
set_option maxRecDepth 100000 in
theorem c_X7_uneven (G : GP) (l : Launch) (a : Nat → Nat) (ha : a 45 = G.2.2.1) (R : va_W) (S : St) (r0 : Int32) (hf : f_X7_uneven S = some r0) : MC G l yX7_uneven wsX7_uneven rm_X7_uneven [.ref (a 0)] (xw G.2.1 a R S) (xw G.2.1 a R S) (some (.int r0)) 0 0 := by
  refine MC.mk (cc := cX7_uneven) (maxL := 3) (ret := (some .int)) (by decide) rfl (Nat.le_of_ble_eq_true rfl) ?_
  intro p e s m below meth c A ls ⟨hx, hb, hr, hml, hown, hlocks, _, hts⟩ hw hG hA hl
  have hl : lv_has ls 3 [(0, .ref (a 0))] := hl
  have hin2 : ∀ w ∈ u_ws RX2 TX2 6, w ∈ wsX7_uneven := by decide +kernel
  have hin3 : ∀ w ∈ u_ws RX3 TX3 8, w ∈ wsX7_uneven := by decide +kernel
  have hin7 : ∀ w ∈ u_ws RX7 TX7 6, w ∈ wsX7_uneven := by decide +kernel
  rw [f_X7_uneven] at hf
  refine lv_iconst (v := 0) hx hb dX7_uneven_0 (by decide) ?_
  refine lv_istore_n (lv' := [(1, .int 0), (0, .ref (a 0))]) hx hb dX7_uneven_1 rfl hl (by decide) rfl (fun ls hl => ?_)
  refine lv_iconst (v := 0) hx hb dX7_uneven_2 (by decide) ?_
  refine lv_istore_n (lv' := [(2, .int 0), (1, .int 0), (0, .ref (a 0))]) hx hb dX7_uneven_3 rfl hl (by decide) rfl (fun ls hl => ?_)
  refine loopF_ind (body := f_X7_uneven_L4 S) (fun (q : Int32 × Int32) => match q with | (v_1, v_2) => ∀ (H : Heap) (locs : List Loc) (ls : Array Slot), Wd G A s H locs (xw G.2.1 a R S) → lv_has ls 3 [(0, .ref (a 0)), (1, .int v_1), (2, .int v_2)] → WQ p l e rm_X7_uneven s m [.ref (a 0)] below meth c G A (xw G.2.1 a R S) (some (.int r0)) 0 0 H locs 0 0 (F0 m 4 ls [])) ?_ FU (0, 0) hf _ _ _ hw (lv_sub hl [2, 1, 0] rfl)
  clear hf hw hl
  intro ⟨v_1, v_2⟩ t0_4 hf hz1_0_4 hz2_0_4 H locs ls hw hl
  rw [f_X7_uneven_L4] at hf
  refine lv_iload_n hx hb dX7_uneven_4 rfl (lv_at hl 2 rfl) ?_
  refine lv_aload_n hx hb dX7_uneven_5 rfl (lv_at hl 0 rfl) ?_
  refine va_get (D := G.1) (ci := 7) (v := .ref (a 3)) (C := RX7) (T := TX7) (N := 6) hx hb hts hin7 hown hG.1 hw.1 0 rfl rfl 2 (by decide) (hts (.fieldLink RX7 26 "DutyDesk" "people" "LDutyDesk$People;") (List.mem_of_getElem? (i := 1) rfl)) (fun _ h9 => h9) rfl dX7_uneven_6 ?_
  refine va_getN (D := G.1) (ci := 3) (v := .int (gI S 11)) (C := RX3) (T := TX3) (N := 8) (host := "DutyDesk") hx hb hts hin3 hown hG.1 hw.1 3 rfl rfl 7 (by decide) (va_Nw.use rfl (hG.2.1 (.fieldLinkNest "DutyDesk" 69 "DutyDesk$People" "size" "I" "DutyDesk") (List.mem_of_getElem? (i := 13) rfl))) (fun _ h9 => h9) rfl dX7_uneven_9 ?_
  refine lv_icmp_ge (tgt := 43) hx hb dX7_uneven_12 (by decide) (fun c_3 => ?_) (fun c_3 => ?_)
  · replace hf := if_t c_3 hf
    refine lv_iload_n hx hb dX7_uneven_43 rfl (lv_at hl 1 rfl) ?_
    have e_4 := Option.some.inj hf
    have e_5 := hz2_0_4 _ e_4.symm
    subst e_5
    exact wd_iret hx hb hr hlocks hw dX7_uneven_44
  · replace hf := if_f c_3 hf
    refine lv_iload_n hx hb dX7_uneven_15 rfl (lv_at hl 1 rfl) ?_
    refine lv_aload_n hx hb dX7_uneven_16 rfl (lv_at hl 0 rfl) ?_
    refine va_get (D := G.1) (ci := 7) (v := .ref (a 4)) (C := RX7) (T := TX7) (N := 6) hx hb hts hin7 hown hG.1 hw.1 0 rfl rfl 3 (by decide) (hts (.fieldLink RX7 35 "DutyDesk" "nights" "LDutyDesk$Nights;") (List.mem_of_getElem? (i := 2) rfl)) (fun _ h9 => h9) rfl dX7_uneven_17 ?_
    refine va_getN (D := G.1) (ci := 2) (v := .ref (a 19)) (C := RX2) (T := TX2) (N := 6) (host := "DutyDesk") hx hb hts hin2 hown hG.1 hw.1 4 rfl rfl 4 (by decide) (va_Nw.use rfl (hG.2.1 (.fieldLinkNest "DutyDesk" 114 "DutyDesk$Nights" "duties" "[I" "DutyDesk") (List.mem_of_getElem? (i := 17) rfl))) (fun _ h9 => h9) rfl dX7_uneven_20 ?_
    refine lv_iload_n hx hb dX7_uneven_23 rfl (lv_at hl 2 rfl) ?_
    obtain ⟨h_6, hf⟩ := gd_of hf
    refine va_iald hx hb hG.1 hw.1 19 1 (xw_atM (k := 19) rfl) rfl h_6 dX7_uneven_24 ?_
    refine lv_aload_n hx hb dX7_uneven_25 rfl (lv_at hl 0 rfl) ?_
    refine va_get (D := G.1) (ci := 7) (v := .ref (a 4)) (C := RX7) (T := TX7) (N := 6) hx hb hts hin7 hown hG.1 hw.1 0 rfl rfl 3 (by decide) (hts (.fieldLink RX7 35 "DutyDesk" "nights" "LDutyDesk$Nights;") (List.mem_of_getElem? (i := 2) rfl)) (fun _ h9 => h9) rfl dX7_uneven_26 ?_
    refine va_getN (D := G.1) (ci := 2) (v := .ref (a 19)) (C := RX2) (T := TX2) (N := 6) (host := "DutyDesk") hx hb hts hin2 hown hG.1 hw.1 4 rfl rfl 4 (by decide) (va_Nw.use rfl (hG.2.1 (.fieldLinkNest "DutyDesk" 114 "DutyDesk$Nights" "duties" "[I" "DutyDesk") (List.mem_of_getElem? (i := 17) rfl))) (fun _ h9 => h9) rfl dX7_uneven_29 ?_
    refine lv_iload_n hx hb dX7_uneven_32 rfl (lv_at hl 2 rfl) ?_
    obtain ⟨h_7, hf⟩ := gd_of hf
    refine va_iald hx hb hG.1 hw.1 19 1 (xw_atM (k := 19) rfl) rfl h_7 dX7_uneven_33 ?_
    refine lv_imul hx hb dX7_uneven_34 ?_
    refine lv_iadd hx hb dX7_uneven_35 ?_
    refine lv_topi (fun x_8 ex_8 => ?_)
    replace hf := bnd_of ex_8 hf
    refine lv_istore_n (lv' := [(1, .int x_8), (0, .ref (a 0)), (2, .int v_2)]) hx hb dX7_uneven_36 rfl hl (by decide) rfl (fun ls hl => ?_)
    obtain ⟨x_9, ex_9⟩ : ∃ z : Int32, z = v_2 + 1 := ⟨_, rfl⟩
    replace hf := bnd_of ex_9 hf
    refine lv_iinc (v := x_9) (lv' := [(2, .int x_9), (1, .int x_8), (0, .ref (a 0))]) hx hb dX7_uneven_37 hl (k := 2) rfl (by rw [ex_9]; rfl) (by decide) rfl (fun ls hl => ?_)
    refine lv_goto (tgt := 4) hx hb dX7_uneven_40 (by decide) ?_
    have e_10 := Option.some.inj hf
    exact hz1_0_4 _ e_10.symm _ _ _ hw (lv_sub hl [2, 1, 0] rfl)
/-! DutyDesk.against(II)I -/
def rm_X7_against : Room := { frames := 2, cells := 0, slots := 0, locals := 42 }
def f_X7_against (S : St) (p1 : Int32) (p2 : Int32) : Option (Int32 × St) :=
  (f_X3_has S p1).bind (fun r_2 => (if r_2 = 0 then
    some (((-2), S))
  else
    (f_X7_isBelow p2 100).bind (fun r_6 => (if r_6 = 0 then
    some (((-2), S))
  else
    gd p2 100 (bnd (gM S 23 p2.toNatClampNeg) fun x_9 => gd p2 100 (bnd (sM S 23 (p2.toNatClampNeg) (x_9 ||| ((1 : Int32) <<< (p1 &&& 31)))) fun S_11 => gd p2 100 ((if (gM S_11 23 p2.toNatClampNeg) = x_9 then
    some ((0, S_11))
  else
    some ((1, S_11))))))))))
set_option maxHeartbeats 4000000 in
set_option maxRecDepth 100000 in
theorem c_X7_against (G : GP) (l : Launch) (a : Nat → Nat) (ha : a 45 = G.2.2.1) (R : va_W) (S : St) (p1 : Int32) (p2 : Int32) (r0 : Int32) (S9 : St) (hf : f_X7_against S p1 p2 = some (r0, S9)) : MC G l yX7_against wsX7_against rm_X7_against [.ref (a 0), .int p1, .int p2] (xw G.2.1 a R S) (xw G.2.1 a R S9) (some (.int r0)) 0 0 := by
  refine MC.mk (cc := cX7_against) (maxL := 4) (ret := (some .int)) (by decide) rfl (Nat.le_of_ble_eq_true rfl) ?_
  intro p e s m below meth c A ls ⟨hx, hb, hr, hml, hown, hlocks, _, hts⟩ hw hG hA hl
  have hl : lv_has ls 4 [(0, .ref (a 0)), (1, .int p1), (2, .int p2)] := hl
  have hin1 : ∀ w ∈ u_ws RX1 TX1 7, w ∈ wsX7_against := by decide +kernel
  have hin7 : ∀ w ∈ u_ws RX7 TX7 6, w ∈ wsX7_against := by decide +kernel
  rw [f_X7_against] at hf
  refine lv_aload_n hx hb dX7_against_0 rfl (lv_at hl 0 rfl) ?_
  refine va_get (D := G.1) (ci := 7) (v := .ref (a 3)) (C := RX7) (T := TX7) (N := 6) hx hb hts hin7 hown hG.1 hw.1 0 rfl rfl 2 (by decide) (hts (.fieldLink RX7 26 "DutyDesk" "people" "LDutyDesk$People;") (List.mem_of_getElem? (i := 1) rfl)) (fun _ h9 => h9) rfl dX7_against_1 ?_
  refine lv_iload_n hx hb dX7_against_4 rfl (lv_at hl 1 rfl) ?_
  obtain ⟨r_2, h_1, hf⟩ := bind_of hf
  refine cVN (As := [.int p1]) (rest := []) ⟨hx, hb, hml, hown, hts⟩ hG hA hw (c_X3_has G l a ha R S p1 r_2 h_1) ⟨va_cnB 1 hts gX7_against_X3_has_n76 rfl rfl rfl (hG.2.1 (.methodLinkNest "DutyDesk" 76 yX3_has "DutyDesk") (List.mem_of_getElem? (i := 54) rfl)) (hts (.initialized RX3) (List.mem_of_getElem? (i := 4) rfl)) (by decide +kernel) ⟨Nat.le_of_ble_eq_true rfl, Nat.le_of_ble_eq_true rfl⟩, hts (.instanceMethod yX3_has) (List.mem_of_getElem? (i := 3) rfl), hts (.selects RX3 yX3_has yX3_has) (List.mem_of_getElem? (i := 5) rfl)⟩ (va_recv hG.1 hw.1 (ci := 3) (q0 := 3) rfl rfl) rfl hl.1 rfl (Nat.le_of_ble_eq_true rfl) dX7_against_5 ⟨Nat.zero_le _, Nat.zero_le _⟩ (fun H locs hw => ?_)
  refine lv_if_eq (tgt := 20) hx hb dX7_against_8 (by decide) (fun c_3 => ?_) (fun c_3 => ?_)
  · replace hf := if_t c_3 hf
    refine lv_bipush (v := (-2)) hx hb dX7_against_20 (by decide) ?_
    have e_4 := Option.some.inj hf
    obtain ⟨rfl, rfl⟩ := Prod.mk.inj e_4
    exact wd_iret hx hb hr hlocks hw dX7_against_22
  · replace hf := if_f c_3 hf
    refine lv_iload_n hx hb dX7_against_11 rfl (lv_at hl 2 rfl) ?_
    refine lv_bipush (v := 100) hx hb dX7_against_12 (by decide) ?_
    obtain ⟨r_6, h_5, hf⟩ := bind_of hf
    refine cS (As := [.int p2, .int 100]) (rest := []) ⟨hx, hb, hml, hown, hts⟩ hG hA hw (c_X7_isBelow G l _ p2 100 r_6 h_5) (va_cwS 2 hts gX7_against_X7_isBelow rfl rfl rfl (by decide +kernel) ⟨Nat.le_of_ble_eq_true rfl, Nat.le_of_ble_eq_true rfl⟩) rfl hl.1 rfl (Nat.le_of_ble_eq_true rfl) dX7_against_14 ⟨Nat.zero_le _, Nat.zero_le _⟩ (fun H locs hw => ?_)
    refine lv_if_ne (tgt := 23) hx hb dX7_against_17 (by decide) (fun c_7 => ?_) (fun c_7 => ?_)
    · replace hf := if_f c_7 hf
      refine lv_aload_n hx hb dX7_against_23 rfl (lv_at hl 0 rfl) ?_
      refine va_get (D := G.1) (ci := 7) (v := .ref (a 6)) (C := RX7) (T := TX7) (N := 6) hx hb hts hin7 hown hG.1 hw.1 0 rfl rfl 5 (by decide) (hts (.fieldLink RX7 53 "DutyDesk" "calls" "LDutyDesk$Calls;") (List.mem_of_getElem? (i := 2) rfl)) (fun _ h9 => h9) rfl dX7_against_24 ?_
      refine va_getN (D := G.1) (ci := 1) (v := .ref (a 23)) (C := RX1) (T := TX1) (N := 7) (host := "DutyDesk") hx hb hts hin1 hown hG.1 hw.1 6 rfl rfl 5 (by decide) (va_Nw.use rfl (hG.2.1 (.fieldLinkNest "DutyDesk" 159 "DutyDesk$Calls" "against" "[I" "DutyDesk") (List.mem_of_getElem? (i := 19) rfl))) (fun _ h9 => h9) rfl dX7_against_27 ?_
      refine lv_iload_n hx hb dX7_against_30 rfl (lv_at hl 2 rfl) ?_
      obtain ⟨h_8, hf⟩ := gd_of hf
      refine va_iald hx hb hG.1 hw.1 23 1 (xw_atM (k := 23) rfl) rfl h_8 dX7_against_31 ?_
      refine lv_topi (fun x_9 ex_9 => ?_)
      replace hf := bnd_of ex_9 hf
      refine lv_istore_n (lv' := [(3, .int x_9), (0, .ref (a 0)), (1, .int p1), (2, .int p2)]) hx hb dX7_against_32 rfl hl (by decide) rfl (fun ls hl => ?_)
      refine lv_aload_n hx hb dX7_against_33 rfl (lv_at hl 1 rfl) ?_
      refine va_get (D := G.1) (ci := 7) (v := .ref (a 6)) (C := RX7) (T := TX7) (N := 6) hx hb hts hin7 hown hG.1 hw.1 0 rfl rfl 5 (by decide) (hts (.fieldLink RX7 53 "DutyDesk" "calls" "LDutyDesk$Calls;") (List.mem_of_getElem? (i := 2) rfl)) (fun _ h9 => h9) rfl dX7_against_34 ?_
      refine va_getN (D := G.1) (ci := 1) (v := .ref (a 23)) (C := RX1) (T := TX1) (N := 7) (host := "DutyDesk") hx hb hts hin1 hown hG.1 hw.1 6 rfl rfl 5 (by decide) (va_Nw.use rfl (hG.2.1 (.fieldLinkNest "DutyDesk" 159 "DutyDesk$Calls" "against" "[I" "DutyDesk") (List.mem_of_getElem? (i := 19) rfl))) (fun _ h9 => h9) rfl dX7_against_37 ?_
      refine lv_iload_n hx hb dX7_against_40 rfl (lv_at hl 3 rfl) ?_
      refine lv_iload_n hx hb dX7_against_41 rfl (lv_at hl 0 rfl) ?_
      refine lv_iconst (v := 1) hx hb dX7_against_42 (by decide) ?_
      refine lv_iload_n hx hb dX7_against_43 rfl (lv_at hl 2 rfl) ?_
      refine lv_ishl hx hb dX7_against_44 ?_
      refine lv_ior hx hb dX7_against_45 ?_
      obtain ⟨h_10, hf⟩ := gd_of hf
      refine va_iast hx hb hG.1 hw.1 hw.2.1 hw.2.2 23 1 (xw_atM (k := 23) rfl) rfl h_10 dX7_against_46 (fun H locs hP hD hS => ?_)
      obtain ⟨S_11, eS_11⟩ : ∃ z : St, z = sM S 23 (p2.toNatClampNeg) (x_9 ||| ((1 : Int32) <<< (p1 &&& 31))) := ⟨_, rfl⟩
      replace hf := bnd_of eS_11 hf
      have hw : Wd G A s H locs (xw G.2.1 a R S_11) := wd_eq (by rw [eS_11]; exact xw_upM (k := 23) rfl _) hP hD hS
      refine lv_aload_n hx hb dX7_against_47 rfl (lv_at hl 1 rfl) ?_
      refine va_get (D := G.1) (ci := 7) (v := .ref (a 6)) (C := RX7) (T := TX7) (N := 6) hx hb hts hin7 hown hG.1 hw.1 0 rfl rfl 5 (by decide) (hts (.fieldLink RX7 53 "DutyDesk" "calls" "LDutyDesk$Calls;") (List.mem_of_getElem? (i := 2) rfl)) (fun _ h9 => h9) rfl dX7_against_48 ?_
      refine va_getN (D := G.1) (ci := 1) (v := .ref (a 23)) (C := RX1) (T := TX1) (N := 7) (host := "DutyDesk") hx hb hts hin1 hown hG.1 hw.1 6 rfl rfl 5 (by decide) (va_Nw.use rfl (hG.2.1 (.fieldLinkNest "DutyDesk" 159 "DutyDesk$Calls" "against" "[I" "DutyDesk") (List.mem_of_getElem? (i := 19) rfl))) (fun _ h9 => h9) rfl dX7_against_51 ?_
      refine lv_iload_n hx hb dX7_against_54 rfl (lv_at hl 3 rfl) ?_
      obtain ⟨h_12, hf⟩ := gd_of hf
      refine va_iald hx hb hG.1 hw.1 23 1 (xw_atM (k := 23) rfl) rfl h_12 dX7_against_55 ?_
      refine lv_iload_n hx hb dX7_against_56 rfl (lv_at hl 0 rfl) ?_
      refine lv_icmp_ne (tgt := 64) hx hb dX7_against_57 (by decide) (fun c_13 => ?_) (fun c_13 => ?_)
      · replace hf := if_f c_13 hf
        refine lv_iconst (v := 1) hx hb dX7_against_64 (by decide) ?_
        have e_14 := Option.some.inj hf
        obtain ⟨rfl, rfl⟩ := Prod.mk.inj e_14
        exact wd_iret hx hb hr hlocks hw dX7_against_65
      · replace hf := if_t c_13 hf
        refine lv_iconst (v := 0) hx hb dX7_against_60 (by decide) ?_
        refine lv_goto (tgt := 65) hx hb dX7_against_61 (by decide) ?_
        have e_15 := Option.some.inj hf
        obtain ⟨rfl, rfl⟩ := Prod.mk.inj e_15
        exact wd_iret hx hb hr hlocks hw dX7_against_65
    · replace hf := if_t c_7 hf
      refine lv_bipush (v := (-2)) hx hb dX7_against_20 (by decide) ?_
      have e_16 := Option.some.inj hf
      obtain ⟨rfl, rfl⟩ := Prod.mk.inj e_16
      exact wd_iret hx hb hr hlocks hw dX7_against_22
/-! DutyDesk.waive(II)I -/
def rm_X7_waive : Room := { frames := 1, cells := 0, slots := 0, locals := 21 }
def f_X7_waive (S : St) (p1 : Int32) (p2 : Int32) : Option (Int32 × St) :=
  (f_X7_isBelow p1 100).bind (fun r_2 => (if r_2 = 0 then
    some (((-2), S))
  else
    (f_X7_isBelow p2 10).bind (fun r_6 => (if r_6 = 0 then
    some (((-2), S))
  else
    gd p1 100 (bnd (gM S 24 p1.toNatClampNeg) fun x_9 => gd p1 100 (bnd (sM S 24 (p1.toNatClampNeg) (x_9 ||| ((1 : Int32) <<< (p2 &&& 31)))) fun S_11 => gd p1 100 ((if (gM S_11 24 p1.toNatClampNeg) = x_9 then
    some ((0, S_11))
  else
    some ((1, S_11))))))))))
set_option maxHeartbeats 4000000 in
set_option maxRecDepth 100000 in
theorem c_X7_waive (G : GP) (l : Launch) (a : Nat → Nat) (ha : a 45 = G.2.2.1) (R : va_W) (S : St) (p1 : Int32) (p2 : Int32) (r0 : Int32) (S9 : St) (hf : f_X7_waive S p1 p2 = some (r0, S9)) : MC G l yX7_waive wsX7_waive rm_X7_waive [.ref (a 0), .int p1, .int p2] (xw G.2.1 a R S) (xw G.2.1 a R S9) (some (.int r0)) 0 0 := by
  refine MC.mk (cc := cX7_waive) (maxL := 4) (ret := (some .int)) (by decide) rfl (Nat.le_of_ble_eq_true rfl) ?_
  intro p e s m below meth c A ls ⟨hx, hb, hr, hml, hown, hlocks, _, hts⟩ hw hG hA hl
  have hl : lv_has ls 4 [(0, .ref (a 0)), (1, .int p1), (2, .int p2)] := hl
  have hin1 : ∀ w ∈ u_ws RX1 TX1 7, w ∈ wsX7_waive := by decide +kernel
  have hin7 : ∀ w ∈ u_ws RX7 TX7 6, w ∈ wsX7_waive := by decide +kernel
  rw [f_X7_waive] at hf
  refine lv_iload_n hx hb dX7_waive_0 rfl (lv_at hl 1 rfl) ?_
  refine lv_bipush (v := 100) hx hb dX7_waive_1 (by decide) ?_
  obtain ⟨r_2, h_1, hf⟩ := bind_of hf
  refine cS (As := [.int p1, .int 100]) (rest := []) ⟨hx, hb, hml, hown, hts⟩ hG hA hw (c_X7_isBelow G l _ p1 100 r_2 h_1) (va_cwS 2 hts gX7_waive_X7_isBelow rfl rfl rfl (by decide +kernel) ⟨Nat.le_of_ble_eq_true rfl, Nat.le_of_ble_eq_true rfl⟩) rfl hl.1 rfl (Nat.le_of_ble_eq_true rfl) dX7_waive_3 ⟨Nat.zero_le _, Nat.zero_le _⟩ (fun H locs hw => ?_)
  refine lv_if_eq (tgt := 18) hx hb dX7_waive_6 (by decide) (fun c_3 => ?_) (fun c_3 => ?_)
  · replace hf := if_t c_3 hf
    refine lv_bipush (v := (-2)) hx hb dX7_waive_18 (by decide) ?_
    have e_4 := Option.some.inj hf
    obtain ⟨rfl, rfl⟩ := Prod.mk.inj e_4
    exact wd_iret hx hb hr hlocks hw dX7_waive_20
  · replace hf := if_f c_3 hf
    refine lv_iload_n hx hb dX7_waive_9 rfl (lv_at hl 2 rfl) ?_
    refine lv_bipush (v := 10) hx hb dX7_waive_10 (by decide) ?_
    obtain ⟨r_6, h_5, hf⟩ := bind_of hf
    refine cS (As := [.int p2, .int 10]) (rest := []) ⟨hx, hb, hml, hown, hts⟩ hG hA hw (c_X7_isBelow G l _ p2 10 r_6 h_5) (va_cwS 2 hts gX7_waive_X7_isBelow rfl rfl rfl (by decide +kernel) ⟨Nat.le_of_ble_eq_true rfl, Nat.le_of_ble_eq_true rfl⟩) rfl hl.1 rfl (Nat.le_of_ble_eq_true rfl) dX7_waive_12 ⟨Nat.zero_le _, Nat.zero_le _⟩ (fun H locs hw => ?_)
    refine lv_if_ne (tgt := 21) hx hb dX7_waive_15 (by decide) (fun c_7 => ?_) (fun c_7 => ?_)
    · replace hf := if_f c_7 hf
      refine lv_aload_n hx hb dX7_waive_21 rfl (lv_at hl 0 rfl) ?_
      refine va_get (D := G.1) (ci := 7) (v := .ref (a 6)) (C := RX7) (T := TX7) (N := 6) hx hb hts hin7 hown hG.1 hw.1 0 rfl rfl 5 (by decide) (hts (.fieldLink RX7 53 "DutyDesk" "calls" "LDutyDesk$Calls;") (List.mem_of_getElem? (i := 1) rfl)) (fun _ h9 => h9) rfl dX7_waive_22 ?_
      refine va_getN (D := G.1) (ci := 1) (v := .ref (a 24)) (C := RX1) (T := TX1) (N := 7) (host := "DutyDesk") hx hb hts hin1 hown hG.1 hw.1 6 rfl rfl 6 (by decide) (va_Nw.use rfl (hG.2.1 (.fieldLinkNest "DutyDesk" 162 "DutyDesk$Calls" "waived" "[I" "DutyDesk") (List.mem_of_getElem? (i := 20) rfl))) (fun _ h9 => h9) rfl dX7_waive_25 ?_
      refine lv_iload_n hx hb dX7_waive_28 rfl (lv_at hl 1 rfl) ?_
      obtain ⟨h_8, hf⟩ := gd_of hf
      refine va_iald hx hb hG.1 hw.1 24 1 (xw_atM (k := 24) rfl) rfl h_8 dX7_waive_29 ?_
      refine lv_topi (fun x_9 ex_9 => ?_)
      replace hf := bnd_of ex_9 hf
      refine lv_istore_n (lv' := [(3, .int x_9), (0, .ref (a 0)), (1, .int p1), (2, .int p2)]) hx hb dX7_waive_30 rfl hl (by decide) rfl (fun ls hl => ?_)
      refine lv_aload_n hx hb dX7_waive_31 rfl (lv_at hl 1 rfl) ?_
      refine va_get (D := G.1) (ci := 7) (v := .ref (a 6)) (C := RX7) (T := TX7) (N := 6) hx hb hts hin7 hown hG.1 hw.1 0 rfl rfl 5 (by decide) (hts (.fieldLink RX7 53 "DutyDesk" "calls" "LDutyDesk$Calls;") (List.mem_of_getElem? (i := 1) rfl)) (fun _ h9 => h9) rfl dX7_waive_32 ?_
      refine va_getN (D := G.1) (ci := 1) (v := .ref (a 24)) (C := RX1) (T := TX1) (N := 7) (host := "DutyDesk") hx hb hts hin1 hown hG.1 hw.1 6 rfl rfl 6 (by decide) (va_Nw.use rfl (hG.2.1 (.fieldLinkNest "DutyDesk" 162 "DutyDesk$Calls" "waived" "[I" "DutyDesk") (List.mem_of_getElem? (i := 20) rfl))) (fun _ h9 => h9) rfl dX7_waive_35 ?_
      refine lv_iload_n hx hb dX7_waive_38 rfl (lv_at hl 2 rfl) ?_
      refine lv_iload_n hx hb dX7_waive_39 rfl (lv_at hl 0 rfl) ?_
      refine lv_iconst (v := 1) hx hb dX7_waive_40 (by decide) ?_
      refine lv_iload_n hx hb dX7_waive_41 rfl (lv_at hl 3 rfl) ?_
      refine lv_ishl hx hb dX7_waive_42 ?_
      refine lv_ior hx hb dX7_waive_43 ?_
      obtain ⟨h_10, hf⟩ := gd_of hf
      refine va_iast hx hb hG.1 hw.1 hw.2.1 hw.2.2 24 1 (xw_atM (k := 24) rfl) rfl h_10 dX7_waive_44 (fun H locs hP hD hS => ?_)
      obtain ⟨S_11, eS_11⟩ : ∃ z : St, z = sM S 24 (p1.toNatClampNeg) (x_9 ||| ((1 : Int32) <<< (p2 &&& 31))) := ⟨_, rfl⟩
      replace hf := bnd_of eS_11 hf
      have hw : Wd G A s H locs (xw G.2.1 a R S_11) := wd_eq (by rw [eS_11]; exact xw_upM (k := 24) rfl _) hP hD hS
      refine lv_aload_n hx hb dX7_waive_45 rfl (lv_at hl 1 rfl) ?_
      refine va_get (D := G.1) (ci := 7) (v := .ref (a 6)) (C := RX7) (T := TX7) (N := 6) hx hb hts hin7 hown hG.1 hw.1 0 rfl rfl 5 (by decide) (hts (.fieldLink RX7 53 "DutyDesk" "calls" "LDutyDesk$Calls;") (List.mem_of_getElem? (i := 1) rfl)) (fun _ h9 => h9) rfl dX7_waive_46 ?_
      refine va_getN (D := G.1) (ci := 1) (v := .ref (a 24)) (C := RX1) (T := TX1) (N := 7) (host := "DutyDesk") hx hb hts hin1 hown hG.1 hw.1 6 rfl rfl 6 (by decide) (va_Nw.use rfl (hG.2.1 (.fieldLinkNest "DutyDesk" 162 "DutyDesk$Calls" "waived" "[I" "DutyDesk") (List.mem_of_getElem? (i := 20) rfl))) (fun _ h9 => h9) rfl dX7_waive_49 ?_
      refine lv_iload_n hx hb dX7_waive_52 rfl (lv_at hl 2 rfl) ?_
      obtain ⟨h_12, hf⟩ := gd_of hf
      refine va_iald hx hb hG.1 hw.1 24 1 (xw_atM (k := 24) rfl) rfl h_12 dX7_waive_53 ?_
      refine lv_iload_n hx hb dX7_waive_54 rfl (lv_at hl 0 rfl) ?_
      refine lv_icmp_ne (tgt := 62) hx hb dX7_waive_55 (by decide) (fun c_13 => ?_) (fun c_13 => ?_)
      · replace hf := if_f c_13 hf
        refine lv_iconst (v := 1) hx hb dX7_waive_62 (by decide) ?_
        have e_14 := Option.some.inj hf
        obtain ⟨rfl, rfl⟩ := Prod.mk.inj e_14
        exact wd_iret hx hb hr hlocks hw dX7_waive_63
      · replace hf := if_t c_13 hf
        refine lv_iconst (v := 0) hx hb dX7_waive_58 (by decide) ?_
        refine lv_goto (tgt := 63) hx hb dX7_waive_59 (by decide) ?_
        have e_15 := Option.some.inj hf
        obtain ⟨rfl, rfl⟩ := Prod.mk.inj e_15
        exact wd_iret hx hb hr hlocks hw dX7_waive_63
    · replace hf := if_t c_7 hf
      refine lv_bipush (v := (-2)) hx hb dX7_waive_18 (by decide) ?_
      have e_16 := Option.some.inj hf
      obtain ⟨rfl, rfl⟩ := Prod.mk.inj e_16
      exact wd_iret hx hb hr hlocks hw dX7_waive_20
/-! DutyDesk.asked(I)I -/
def rm_X7_asked : Room := { frames := 2, cells := 0, slots := 0, locals := 42 }
def f_X7_asked (S : St) (p1 : Int32) : Option (Int32) :=
  (f_X1_has S p1).bind (fun r_2 => (if r_2 = 0 then
    some ((-2))
  else
    (f_X1_get S p1).bind (fun r_6 => gn r_6 (nC S) (some ((gC S r_6 7))))))
set_option maxHeartbeats 4000000 in
set_option maxRecDepth 100000 in
theorem c_X7_asked (G : GP) (l : Launch) (a : Nat → Nat) (ha : a 45 = G.2.2.1) (R : va_W) (S : St) (p1 : Int32) (r0 : Int32) (hf : f_X7_asked S p1 = some r0) : MC G l yX7_asked wsX7_asked rm_X7_asked [.ref (a 0), .int p1] (xw G.2.1 a R S) (xw G.2.1 a R S) (some (.int r0)) 0 0 := by
  refine MC.mk (cc := cX7_asked) (maxL := 2) (ret := (some .int)) (by decide) rfl (Nat.le_of_ble_eq_true rfl) ?_
  intro p e s m below meth c A ls ⟨hx, hb, hr, hml, hown, hlocks, _, hts⟩ hw hG hA hl
  have hl : lv_has ls 2 [(0, .ref (a 0)), (1, .int p1)] := hl
  have hin0 : ∀ w ∈ u_ws RX0 TX0 15, w ∈ wsX7_asked := by decide +kernel
  have hin7 : ∀ w ∈ u_ws RX7 TX7 6, w ∈ wsX7_asked := by decide +kernel
  rw [f_X7_asked] at hf
  refine lv_aload_n hx hb dX7_asked_0 rfl (lv_at hl 0 rfl) ?_
  refine va_get (D := G.1) (ci := 7) (v := .ref (a 6)) (C := RX7) (T := TX7) (N := 6) hx hb hts hin7 hown hG.1 hw.1 0 rfl rfl 5 (by decide) (hts (.fieldLink RX7 53 "DutyDesk" "calls" "LDutyDesk$Calls;") (List.mem_of_getElem? (i := 1) rfl)) (fun _ h9 => h9) rfl dX7_asked_1 ?_
  refine lv_iload_n hx hb dX7_asked_4 rfl (lv_at hl 1 rfl) ?_
  obtain ⟨r_2, h_1, hf⟩ := bind_of hf
  refine cVN (As := [.int p1]) (rest := []) ⟨hx, hb, hml, hown, hts⟩ hG hA hw (c_X1_has G l a ha R S p1 r_2 h_1) ⟨va_cnB 1 hts gX7_asked_X1_has_n182 rfl rfl rfl (hG.2.1 (.methodLinkNest "DutyDesk" 182 yX1_has "DutyDesk") (List.mem_of_getElem? (i := 95) rfl)) (hts (.initialized RX1) (List.mem_of_getElem? (i := 3) rfl)) (by decide +kernel) ⟨Nat.le_of_ble_eq_true rfl, Nat.le_of_ble_eq_true rfl⟩, hts (.instanceMethod yX1_has) (List.mem_of_getElem? (i := 2) rfl), hts (.selects RX1 yX1_has yX1_has) (List.mem_of_getElem? (i := 4) rfl)⟩ (va_recv hG.1 hw.1 (ci := 1) (q0 := 6) rfl rfl) rfl hl.1 rfl (Nat.le_of_ble_eq_true rfl) dX7_asked_5 ⟨Nat.zero_le _, Nat.zero_le _⟩ (fun H locs hw => ?_)
  refine lv_if_eq (tgt := 25) hx hb dX7_asked_8 (by decide) (fun c_3 => ?_) (fun c_3 => ?_)
  · replace hf := if_t c_3 hf
    refine lv_bipush (v := (-2)) hx hb dX7_asked_25 (by decide) ?_
    have e_4 := Option.some.inj hf
    subst e_4
    exact wd_iret hx hb hr hlocks hw dX7_asked_27
  · replace hf := if_f c_3 hf
    refine lv_aload_n hx hb dX7_asked_11 rfl (lv_at hl 0 rfl) ?_
    refine va_get (D := G.1) (ci := 7) (v := .ref (a 6)) (C := RX7) (T := TX7) (N := 6) hx hb hts hin7 hown hG.1 hw.1 0 rfl rfl 5 (by decide) (hts (.fieldLink RX7 53 "DutyDesk" "calls" "LDutyDesk$Calls;") (List.mem_of_getElem? (i := 1) rfl)) (fun _ h9 => h9) rfl dX7_asked_12 ?_
    refine lv_iload_n hx hb dX7_asked_15 rfl (lv_at hl 1 rfl) ?_
    obtain ⟨r_6, h_5, hf⟩ := bind_of hf
    refine cVN (As := [.int p1]) (rest := []) ⟨hx, hb, hml, hown, hts⟩ hG hA hw (c_X1_get G l a ha R S p1 r_6 h_5) ⟨va_cnB 1 hts gX7_asked_X1_get_n183 rfl rfl rfl (hG.2.1 (.methodLinkNest "DutyDesk" 183 yX1_get "DutyDesk") (List.mem_of_getElem? (i := 97) rfl)) (hts (.initialized RX1) (List.mem_of_getElem? (i := 3) rfl)) (by decide +kernel) ⟨Nat.le_of_ble_eq_true rfl, Nat.le_of_ble_eq_true rfl⟩, hts (.instanceMethod yX1_get) (List.mem_of_getElem? (i := 10) rfl), hts (.selects RX1 yX1_get yX1_get) (List.mem_of_getElem? (i := 11) rfl)⟩ (va_recv hG.1 hw.1 (ci := 1) (q0 := 6) rfl rfl) rfl hl.1 rfl (Nat.le_of_ble_eq_true rfl) dX7_asked_16 ⟨Nat.zero_le _, Nat.zero_le _⟩ (fun H locs hw => ?_)
    obtain ⟨hc_7, hf⟩ := gn_of hf
    refine va_getN (D := G.1) (ci := 0) (v := .int (gC S r_6 7)) (C := RX0) (T := TX0) (N := 15) (host := "DutyDesk") hx hb hts hin0 hown hG.1 hw.1 (45 + r_6) (xw_atC hc_7) rfl 7 (by decide) (va_Nw.use rfl (hG.2.1 (.fieldLinkNest "DutyDesk" 187 "DutyDesk$Call" "asked" "I" "DutyDesk") (List.mem_of_getElem? (i := 33) rfl))) (fun _ h9 => h9) rfl dX7_asked_19 ?_
    refine lv_goto (tgt := 27) hx hb dX7_asked_22 (by decide) ?_
    have e_8 := Option.some.inj hf
    subst e_8
    exact wd_iret hx hb hr hlocks hw dX7_asked_27
/-! DutyDesk.answer(IZ)I -/
def rm_X7_answer : Room := { frames := 7, cells := 0, slots := 0, locals := 166 }
def f_X7_answer (S : St) (p1 : Int32) (p2 : Int32) : Option (Int32 × St) :=
  (f_X1_has S p1).bind (fun r_2 => (if r_2 = 0 then
    some (((-2), S))
  else
    (f_X1_get S p1).bind (fun r_5 => gn r_5 (nC S) ((if (gC S r_5 6) = 0 then
    (if p2 = 0 then
    (f_X1_get S p1).bind (fun r_10 => gn r_10 (nC S) (bnd (sC S r_10 9 ((gC S r_10 9) + 1)) fun S_12 => (f_X1_askNext S_12 p1).bind (fun (r_16, S_17) => some ((r_16, S_17)))))
  else
    (f_X1_take S p1).bind (fun S_20 => some (((-1), S_20))))
  else
    some (((-4), S)))))))
set_option maxHeartbeats 4000000 in
set_option maxRecDepth 100000 in
theorem c_X7_answer (G : GP) (l : Launch) (a : Nat → Nat) (ha : a 45 = G.2.2.1) (R : va_W) (S : St) (p1 : Int32) (p2 : Int32) (r0 : Int32) (S9 : St) (hf : f_X7_answer S p1 p2 = some (r0, S9)) : MC G l yX7_answer wsX7_answer rm_X7_answer [.ref (a 0), .int p1, .int p2] (xw G.2.1 a R S) (xw G.2.1 a R S9) (some (.int r0)) 0 0 := by
  refine MC.mk (cc := cX7_answer) (maxL := 3) (ret := (some .int)) (by decide) rfl (Nat.le_of_ble_eq_true rfl) ?_
  intro p e s m below meth c A ls ⟨hx, hb, hr, hml, hown, hlocks, _, hts⟩ hw hG hA hl
  have hl : lv_has ls 3 [(0, .ref (a 0)), (1, .int p1), (2, .int p2)] := hl
  have hin0 : ∀ w ∈ u_ws RX0 TX0 15, w ∈ wsX7_answer := by decide +kernel
  have hin7 : ∀ w ∈ u_ws RX7 TX7 6, w ∈ wsX7_answer := by decide +kernel
  rw [f_X7_answer] at hf
  refine lv_aload_n hx hb dX7_answer_0 rfl (lv_at hl 0 rfl) ?_
  refine va_get (D := G.1) (ci := 7) (v := .ref (a 6)) (C := RX7) (T := TX7) (N := 6) hx hb hts hin7 hown hG.1 hw.1 0 rfl rfl 5 (by decide) (hts (.fieldLink RX7 53 "DutyDesk" "calls" "LDutyDesk$Calls;") (List.mem_of_getElem? (i := 1) rfl)) (fun _ h9 => h9) rfl dX7_answer_1 ?_
  refine lv_iload_n hx hb dX7_answer_4 rfl (lv_at hl 1 rfl) ?_
  obtain ⟨r_2, h_1, hf⟩ := bind_of hf
  refine cVN (As := [.int p1]) (rest := []) ⟨hx, hb, hml, hown, hts⟩ hG hA hw (c_X1_has G l a ha R S p1 r_2 h_1) ⟨va_cnB 1 hts gX7_answer_X1_has_n182 rfl rfl rfl (hG.2.1 (.methodLinkNest "DutyDesk" 182 yX1_has "DutyDesk") (List.mem_of_getElem? (i := 95) rfl)) (hts (.initialized RX1) (List.mem_of_getElem? (i := 3) rfl)) (by decide +kernel) ⟨Nat.le_of_ble_eq_true rfl, Nat.le_of_ble_eq_true rfl⟩, hts (.instanceMethod yX1_has) (List.mem_of_getElem? (i := 2) rfl), hts (.selects RX1 yX1_has yX1_has) (List.mem_of_getElem? (i := 4) rfl)⟩ (va_recv hG.1 hw.1 (ci := 1) (q0 := 6) rfl rfl) rfl hl.1 rfl (Nat.le_of_ble_eq_true rfl) dX7_answer_5 ⟨Nat.zero_le _, Nat.zero_le _⟩ (fun H locs hw => ?_)
  refine lv_if_ne (tgt := 14) hx hb dX7_answer_8 (by decide) (fun c_3 => ?_) (fun c_3 => ?_)
  · replace hf := if_f c_3 hf
    refine lv_aload_n hx hb dX7_answer_14 rfl (lv_at hl 0 rfl) ?_
    refine va_get (D := G.1) (ci := 7) (v := .ref (a 6)) (C := RX7) (T := TX7) (N := 6) hx hb hts hin7 hown hG.1 hw.1 0 rfl rfl 5 (by decide) (hts (.fieldLink RX7 53 "DutyDesk" "calls" "LDutyDesk$Calls;") (List.mem_of_getElem? (i := 1) rfl)) (fun _ h9 => h9) rfl dX7_answer_15 ?_
    refine lv_iload_n hx hb dX7_answer_18 rfl (lv_at hl 1 rfl) ?_
    obtain ⟨r_5, h_4, hf⟩ := bind_of hf
    refine cVN (As := [.int p1]) (rest := []) ⟨hx, hb, hml, hown, hts⟩ hG hA hw (c_X1_get G l a ha R S p1 r_5 h_4) ⟨va_cnB 1 hts gX7_answer_X1_get_n183 rfl rfl rfl (hG.2.1 (.methodLinkNest "DutyDesk" 183 yX1_get "DutyDesk") (List.mem_of_getElem? (i := 97) rfl)) (hts (.initialized RX1) (List.mem_of_getElem? (i := 3) rfl)) (by decide +kernel) ⟨Nat.le_of_ble_eq_true rfl, Nat.le_of_ble_eq_true rfl⟩, hts (.instanceMethod yX1_get) (List.mem_of_getElem? (i := 10) rfl), hts (.selects RX1 yX1_get yX1_get) (List.mem_of_getElem? (i := 11) rfl)⟩ (va_recv hG.1 hw.1 (ci := 1) (q0 := 6) rfl rfl) rfl hl.1 rfl (Nat.le_of_ble_eq_true rfl) dX7_answer_19 ⟨Nat.zero_le _, Nat.zero_le _⟩ (fun H locs hw => ?_)
    obtain ⟨hc_6, hf⟩ := gn_of hf
    refine va_getN (D := G.1) (ci := 0) (v := .int (gC S r_5 6)) (C := RX0) (T := TX0) (N := 15) (host := "DutyDesk") hx hb hts hin0 hown hG.1 hw.1 (45 + r_5) (xw_atC hc_6) rfl 6 (by decide) (va_Nw.use rfl (hG.2.1 (.fieldLinkNest "DutyDesk" 190 "DutyDesk$Call" "state" "I" "DutyDesk") (List.mem_of_getElem? (i := 31) rfl))) (fun _ h9 => h9) rfl dX7_answer_22 ?_
    refine lv_if_eq (tgt := 31) hx hb dX7_answer_25 (by decide) (fun c_7 => ?_) (fun c_7 => ?_)
    · replace hf := if_t c_7 hf
      refine lv_iload_n hx hb dX7_answer_31 rfl (lv_at hl 2 rfl) ?_
      refine lv_if_eq (tgt := 45) hx hb dX7_answer_32 (by decide) (fun c_8 => ?_) (fun c_8 => ?_)
      · replace hf := if_t c_8 hf
        refine lv_aload_n hx hb dX7_answer_45 rfl (lv_at hl 0 rfl) ?_
        refine va_get (D := G.1) (ci := 7) (v := .ref (a 6)) (C := RX7) (T := TX7) (N := 6) hx hb hts hin7 hown hG.1 hw.1 0 rfl rfl 5 (by decide) (hts (.fieldLink RX7 53 "DutyDesk" "calls" "LDutyDesk$Calls;") (List.mem_of_getElem? (i := 1) rfl)) (fun _ h9 => h9) rfl dX7_answer_46 ?_
        refine lv_iload_n hx hb dX7_answer_49 rfl (lv_at hl 1 rfl) ?_
        obtain ⟨r_10, h_9, hf⟩ := bind_of hf
        refine cVN (As := [.int p1]) (rest := []) ⟨hx, hb, hml, hown, hts⟩ hG hA hw (c_X1_get G l a ha R S p1 r_10 h_9) ⟨va_cnB 1 hts gX7_answer_X1_get_n183 rfl rfl rfl (hG.2.1 (.methodLinkNest "DutyDesk" 183 yX1_get "DutyDesk") (List.mem_of_getElem? (i := 97) rfl)) (hts (.initialized RX1) (List.mem_of_getElem? (i := 3) rfl)) (by decide +kernel) ⟨Nat.le_of_ble_eq_true rfl, Nat.le_of_ble_eq_true rfl⟩, hts (.instanceMethod yX1_get) (List.mem_of_getElem? (i := 10) rfl), hts (.selects RX1 yX1_get yX1_get) (List.mem_of_getElem? (i := 11) rfl)⟩ (va_recv hG.1 hw.1 (ci := 1) (q0 := 6) rfl rfl) rfl hl.1 rfl (Nat.le_of_ble_eq_true rfl) dX7_answer_50 ⟨Nat.zero_le _, Nat.zero_le _⟩ (fun H locs hw => ?_)
        obtain ⟨hc_11, hf⟩ := gn_of hf
        refine lv_dup hx hb dX7_answer_53 rfl ?_
        refine va_getN (D := G.1) (ci := 0) (v := .int (gC S r_10 9)) (C := RX0) (T := TX0) (N := 15) (host := "DutyDesk") hx hb hts hin0 hown hG.1 hw.1 (45 + r_10) (xw_atC hc_11) rfl 9 (by decide) (va_Nw.use rfl (hG.2.1 (.fieldLinkNest "DutyDesk" 196 "DutyDesk$Call" "refused" "I" "DutyDesk") (List.mem_of_getElem? (i := 36) rfl))) (fun _ h9 => h9) rfl dX7_answer_54 ?_
        refine lv_iconst (v := 1) hx hb dX7_answer_57 (by decide) ?_
        refine lv_iadd hx hb dX7_answer_58 ?_
        refine va_putN (D := G.1) (ci := 0) (v := .int ((gC S r_10 9) + 1)) (ty := .int) (C := RX0) (T := TX0) (N := 15) (host := "DutyDesk") hx hb hts hin0 tyX0 tyX0_ok nmX0 hown hG.1 hw.1 hw.2.1 hw.2.2 (45 + r_10) (xw_atC hc_11) rfl 9 (by decide) (va_Nw.use rfl (hG.2.1 (.fieldLinkNest "DutyDesk" 196 "DutyDesk$Call" "refused" "I" "DutyDesk") (List.mem_of_getElem? (i := 36) rfl))) (fun _ h9 => h9) rfl (by decide +kernel) rfl rfl (Nat.le_of_ble_eq_true rfl) dX7_answer_59 (fun H locs hP hD hS => ?_)
        obtain ⟨S_12, eS_12⟩ : ∃ z : St, z = sC S r_10 9 ((gC S r_10 9) + 1) := ⟨_, rfl⟩
        replace hf := bnd_of eS_12 hf
        have hw : Wd G A s H locs (xw G.2.1 a R S_12) := wd_eq (by rw [eS_12]; exact xw_upC hc_11 9 (by decide) _) hP hD hS
        have hc_13 : r_5 < nC S_12 := by rw [eS_12]; exact hc_6
        have hc_14 : r_10 < nC S_12 := by rw [eS_12]; exact hc_11
        refine lv_aload_n hx hb dX7_answer_62 rfl (lv_at hl 0 rfl) ?_
        refine va_get (D := G.1) (ci := 7) (v := .ref (a 6)) (C := RX7) (T := TX7) (N := 6) hx hb hts hin7 hown hG.1 hw.1 0 rfl rfl 5 (by decide) (hts (.fieldLink RX7 53 "DutyDesk" "calls" "LDutyDesk$Calls;") (List.mem_of_getElem? (i := 1) rfl)) (fun _ h9 => h9) rfl dX7_answer_63 ?_
        refine lv_iload_n hx hb dX7_answer_66 rfl (lv_at hl 1 rfl) ?_
        obtain ⟨⟨r_16, S_17⟩, h_15, hf⟩ := bind_of hf
        replace hf : _ = some _ := hf
        refine cVN (As := [.int p1]) (rest := []) ⟨hx, hb, hml, hown, hts⟩ hG hA hw (c_X1_askNext G l a ha R S_12 p1 r_16 S_17 h_15) ⟨va_cnB 1 hts gX7_answer_X1_askNext_n178 rfl rfl rfl (hG.2.1 (.methodLinkNest "DutyDesk" 178 yX1_askNext "DutyDesk") (List.mem_of_getElem? (i := 84) rfl)) (hts (.initialized RX1) (List.mem_of_getElem? (i := 3) rfl)) (by decide +kernel) ⟨Nat.le_of_ble_eq_true rfl, Nat.le_of_ble_eq_true rfl⟩, hts (.instanceMethod yX1_askNext) (List.mem_of_getElem? (i := 52) rfl), hts (.selects RX1 yX1_askNext yX1_askNext) (List.mem_of_getElem? (i := 53) rfl)⟩ (va_recv hG.1 hw.1 (ci := 1) (q0 := 6) rfl rfl) rfl hl.1 rfl (Nat.le_of_ble_eq_true rfl) dX7_answer_67 ⟨Nat.zero_le _, Nat.zero_le _⟩ (fun H locs hw => ?_)
        have e_18 := Option.some.inj hf
        obtain ⟨rfl, rfl⟩ := Prod.mk.inj e_18
        exact wd_iret hx hb hr hlocks hw dX7_answer_70
      · replace hf := if_f c_8 hf
        refine lv_aload_n hx hb dX7_answer_35 rfl (lv_at hl 0 rfl) ?_
        refine va_get (D := G.1) (ci := 7) (v := .ref (a 6)) (C := RX7) (T := TX7) (N := 6) hx hb hts hin7 hown hG.1 hw.1 0 rfl rfl 5 (by decide) (hts (.fieldLink RX7 53 "DutyDesk" "calls" "LDutyDesk$Calls;") (List.mem_of_getElem? (i := 1) rfl)) (fun _ h9 => h9) rfl dX7_answer_36 ?_
        refine lv_iload_n hx hb dX7_answer_39 rfl (lv_at hl 1 rfl) ?_
        obtain ⟨S_20, h_19, hf⟩ := bind_of hf
        refine cVN (As := [.int p1]) (rest := []) ⟨hx, hb, hml, hown, hts⟩ hG hA hw (c_X1_take G l a ha R S p1 S_20 h_19) ⟨va_cnB 1 hts gX7_answer_X1_take_n193 rfl rfl rfl (hG.2.1 (.methodLinkNest "DutyDesk" 193 yX1_take "DutyDesk") (List.mem_of_getElem? (i := 98) rfl)) (hts (.initialized RX1) (List.mem_of_getElem? (i := 3) rfl)) (by decide +kernel) ⟨Nat.le_of_ble_eq_true rfl, Nat.le_of_ble_eq_true rfl⟩, hts (.instanceMethod yX1_take) (List.mem_of_getElem? (i := 14) rfl), hts (.selects RX1 yX1_take yX1_take) (List.mem_of_getElem? (i := 15) rfl)⟩ (va_recv hG.1 hw.1 (ci := 1) (q0 := 6) rfl rfl) rfl hl.1 rfl (Nat.le_of_ble_eq_true rfl) dX7_answer_40 ⟨Nat.zero_le _, Nat.zero_le _⟩ (fun H locs hw => ?_)
        refine lv_iconst (v := (-1)) hx hb dX7_answer_43 (by decide) ?_
        have e_21 := Option.some.inj hf
        obtain ⟨rfl, rfl⟩ := Prod.mk.inj e_21
        exact wd_iret hx hb hr hlocks hw dX7_answer_44
    · replace hf := if_f c_7 hf
      refine lv_bipush (v := (-4)) hx hb dX7_answer_28 (by decide) ?_
      have e_22 := Option.some.inj hf
      obtain ⟨rfl, rfl⟩ := Prod.mk.inj e_22
      exact wd_iret hx hb hr hlocks hw dX7_answer_30
  · replace hf := if_t c_3 hf
    refine lv_bipush (v := (-2)) hx hb dX7_answer_11 (by decide) ?_
    have e_23 := Option.some.inj hf
    obtain ⟨rfl, rfl⟩ := Prod.mk.inj e_23
    exact wd_iret hx hb hr hlocks hw dX7_answer_13
/-! DutyDesk.told(II)I -/
def rm_X7_told : Room := { frames := 2, cells := 0, slots := 0, locals := 47 }
def f_X7_told (S : St) (p1 : Int32) (p2 : Int32) : Option (Int32) :=
  (f_X1_has S p1).bind (fun r_2 => (if r_2 = 0 then
    some ((-9))
  else
    (f_X7_isBelow p2 6).bind (fun r_6 => (if r_6 = 0 then
    some ((-9))
  else
    (f_X1_get S p1).bind (fun r_9 => gn r_9 (nC S) ((if p2 = 0 then
    some ((gC S r_9 6))
  else
    (if p2 = 1 then
    some ((gC S r_9 9))
  else
    (if (gC S r_9 6) = 1 then
    (if p2 = 2 then
    some ((gC S r_9 10))
  else
    (if p2 = 3 then
    some ((gC S r_9 12))
  else
    (if p2 = 4 then
    (f_X6_textNow S (gC S r_9 0)).bind (fun r_20 => gk r_20 ((f_X0_isLate S r_9 r_20).bind (fun r_23 => (if r_23 = 0 then
    some (0)
  else
    some (1)))))
  else
    (if (gC S r_9 13) = 0 then
    some (0)
  else
    some (1)))))
  else
    some ((-1)))))))))))
set_option maxHeartbeats 4000000 in
set_option maxRecDepth 100000 in
theorem c_X7_told (G : GP) (l : Launch) (a : Nat → Nat) (ha : a 45 = G.2.2.1) (R : va_W) (S : St) (p1 : Int32) (p2 : Int32) (r0 : Int32) (hf : f_X7_told S p1 p2 = some r0) : MC G l yX7_told wsX7_told rm_X7_told [.ref (a 0), .int p1, .int p2] (xw G.2.1 a R S) (xw G.2.1 a R S) (some (.int r0)) 0 0 := by
  refine MC.mk (cc := cX7_told) (maxL := 4) (ret := (some .int)) (by decide) rfl (Nat.le_of_ble_eq_true rfl) ?_
  intro p e s m below meth c A ls ⟨hx, hb, hr, hml, hown, hlocks, _, hts⟩ hw hG hA hl
  have hl : lv_has ls 4 [(0, .ref (a 0)), (1, .int p1), (2, .int p2)] := hl
  have hin0 : ∀ w ∈ u_ws RX0 TX0 15, w ∈ wsX7_told := by decide +kernel
  have hin7 : ∀ w ∈ u_ws RX7 TX7 6, w ∈ wsX7_told := by decide +kernel
  rw [f_X7_told] at hf
  refine lv_aload_n hx hb dX7_told_0 rfl (lv_at hl 0 rfl) ?_
  refine va_get (D := G.1) (ci := 7) (v := .ref (a 6)) (C := RX7) (T := TX7) (N := 6) hx hb hts hin7 hown hG.1 hw.1 0 rfl rfl 5 (by decide) (hts (.fieldLink RX7 53 "DutyDesk" "calls" "LDutyDesk$Calls;") (List.mem_of_getElem? (i := 1) rfl)) (fun _ h9 => h9) rfl dX7_told_1 ?_
  refine lv_iload_n hx hb dX7_told_4 rfl (lv_at hl 1 rfl) ?_
  obtain ⟨r_2, h_1, hf⟩ := bind_of hf
  refine cVN (As := [.int p1]) (rest := []) ⟨hx, hb, hml, hown, hts⟩ hG hA hw (c_X1_has G l a ha R S p1 r_2 h_1) ⟨va_cnB 1 hts gX7_told_X1_has_n182 rfl rfl rfl (hG.2.1 (.methodLinkNest "DutyDesk" 182 yX1_has "DutyDesk") (List.mem_of_getElem? (i := 95) rfl)) (hts (.initialized RX1) (List.mem_of_getElem? (i := 4) rfl)) (by decide +kernel) ⟨Nat.le_of_ble_eq_true rfl, Nat.le_of_ble_eq_true rfl⟩, hts (.instanceMethod yX1_has) (List.mem_of_getElem? (i := 3) rfl), hts (.selects RX1 yX1_has yX1_has) (List.mem_of_getElem? (i := 5) rfl)⟩ (va_recv hG.1 hw.1 (ci := 1) (q0 := 6) rfl rfl) rfl hl.1 rfl (Nat.le_of_ble_eq_true rfl) dX7_told_5 ⟨Nat.zero_le _, Nat.zero_le _⟩ (fun H locs hw => ?_)
  refine lv_if_eq (tgt := 20) hx hb dX7_told_8 (by decide) (fun c_3 => ?_) (fun c_3 => ?_)
  · replace hf := if_t c_3 hf
    refine lv_bipush (v := (-9)) hx hb dX7_told_20 (by decide) ?_
    have e_4 := Option.some.inj hf
    subst e_4
    exact wd_iret hx hb hr hlocks hw dX7_told_22
  · replace hf := if_f c_3 hf
    refine lv_iload_n hx hb dX7_told_11 rfl (lv_at hl 2 rfl) ?_
    refine lv_bipush (v := 6) hx hb dX7_told_12 (by decide) ?_
    obtain ⟨r_6, h_5, hf⟩ := bind_of hf
    refine cS (As := [.int p2, .int 6]) (rest := []) ⟨hx, hb, hml, hown, hts⟩ hG hA hw (c_X7_isBelow G l _ p2 6 r_6 h_5) (va_cwS 2 hts gX7_told_X7_isBelow rfl rfl rfl (by decide +kernel) ⟨Nat.le_of_ble_eq_true rfl, Nat.le_of_ble_eq_true rfl⟩) rfl hl.1 rfl (Nat.le_of_ble_eq_true rfl) dX7_told_14 ⟨Nat.zero_le _, Nat.zero_le _⟩ (fun H locs hw => ?_)
    refine lv_if_ne (tgt := 23) hx hb dX7_told_17 (by decide) (fun c_7 => ?_) (fun c_7 => ?_)
    · replace hf := if_f c_7 hf
      refine lv_aload_n hx hb dX7_told_23 rfl (lv_at hl 0 rfl) ?_
      refine va_get (D := G.1) (ci := 7) (v := .ref (a 6)) (C := RX7) (T := TX7) (N := 6) hx hb hts hin7 hown hG.1 hw.1 0 rfl rfl 5 (by decide) (hts (.fieldLink RX7 53 "DutyDesk" "calls" "LDutyDesk$Calls;") (List.mem_of_getElem? (i := 1) rfl)) (fun _ h9 => h9) rfl dX7_told_24 ?_
      refine lv_iload_n hx hb dX7_told_27 rfl (lv_at hl 1 rfl) ?_
      obtain ⟨r_9, h_8, hf⟩ := bind_of hf
      refine cVN (As := [.int p1]) (rest := []) ⟨hx, hb, hml, hown, hts⟩ hG hA hw (c_X1_get G l a ha R S p1 r_9 h_8) ⟨va_cnB 1 hts gX7_told_X1_get_n183 rfl rfl rfl (hG.2.1 (.methodLinkNest "DutyDesk" 183 yX1_get "DutyDesk") (List.mem_of_getElem? (i := 97) rfl)) (hts (.initialized RX1) (List.mem_of_getElem? (i := 4) rfl)) (by decide +kernel) ⟨Nat.le_of_ble_eq_true rfl, Nat.le_of_ble_eq_true rfl⟩, hts (.instanceMethod yX1_get) (List.mem_of_getElem? (i := 12) rfl), hts (.selects RX1 yX1_get yX1_get) (List.mem_of_getElem? (i := 13) rfl)⟩ (va_recv hG.1 hw.1 (ci := 1) (q0 := 6) rfl rfl) rfl hl.1 rfl (Nat.le_of_ble_eq_true rfl) dX7_told_28 ⟨Nat.zero_le _, Nat.zero_le _⟩ (fun H locs hw => ?_)
      obtain ⟨hc_10, hf⟩ := gn_of hf
      refine lv_astore_n (lv' := [(3, .ref (a (50 + r_9))), (0, .ref (a 0)), (1, .int p1), (2, .int p2)]) hx hb dX7_told_31 rfl hl (by decide) rfl (fun ls hl => ?_)
      refine lv_iload_n hx hb dX7_told_32 rfl (lv_at hl 3 rfl) ?_
      refine lv_if_ne (tgt := 41) hx hb dX7_told_33 (by decide) (fun c_11 => ?_) (fun c_11 => ?_)
      · replace hf := if_f c_11 hf
        refine lv_iload_n hx hb dX7_told_41 rfl (lv_at hl 3 rfl) ?_
        refine lv_iconst (v := 1) hx hb dX7_told_42 (by decide) ?_
        refine lv_icmp_ne (tgt := 51) hx hb dX7_told_43 (by decide) (fun c_12 => ?_) (fun c_12 => ?_)
        · replace hf := if_f c_12 hf
          refine lv_aload_n hx hb dX7_told_51 rfl (lv_at hl 0 rfl) ?_
          refine va_getN (D := G.1) (ci := 0) (v := .int (gC S r_9 6)) (C := RX0) (T := TX0) (N := 15) (host := "DutyDesk") hx hb hts hin0 hown hG.1 hw.1 (45 + r_9) (xw_atC hc_10) rfl 6 (by decide) (va_Nw.use rfl (hG.2.1 (.fieldLinkNest "DutyDesk" 190 "DutyDesk$Call" "state" "I" "DutyDesk") (List.mem_of_getElem? (i := 31) rfl))) (fun _ h9 => h9) rfl dX7_told_52 ?_
          refine lv_iconst (v := 1) hx hb dX7_told_55 (by decide) ?_
          refine lv_icmp_eq (tgt := 61) hx hb dX7_told_56 (by decide) (fun c_13 => ?_) (fun c_13 => ?_)
          · replace hf := if_t c_13 hf
            refine lv_iload_n hx hb dX7_told_61 rfl (lv_at hl 3 rfl) ?_
            by_cases c_14 : p2 = 2
            · replace hf := if_t c_14 hf
              refine lv_tableIn (off := 26) (tgt := 88) hx hb dX7_told_62 (by rw [c_14]; decide) (by rw [c_14]; decide) (by rw [c_14]; rfl) (by decide) ?_
              refine lv_aload_n hx hb dX7_told_88 rfl (lv_at hl 0 rfl) ?_
              refine va_getN (D := G.1) (ci := 0) (v := .int (gC S r_9 10)) (C := RX0) (T := TX0) (N := 15) (host := "DutyDesk") hx hb hts hin0 hown hG.1 hw.1 (45 + r_9) (xw_atC hc_10) rfl 10 (by decide) (va_Nw.use rfl (hG.2.1 (.fieldLinkNest "DutyDesk" 199 "DutyDesk$Call" "taker" "I" "DutyDesk") (List.mem_of_getElem? (i := 38) rfl))) (fun _ h9 => h9) rfl dX7_told_89 ?_
              have e_15 := Option.some.inj hf
              subst e_15
              exact wd_iret hx hb hr hlocks hw dX7_told_92
            · replace hf := if_f c_14 hf
              by_cases c_16 : p2 = 3
              · replace hf := if_t c_16 hf
                refine lv_tableIn (off := 31) (tgt := 93) hx hb dX7_told_62 (by rw [c_16]; decide) (by rw [c_16]; decide) (by rw [c_16]; rfl) (by decide) ?_
                refine lv_aload_n hx hb dX7_told_93 rfl (lv_at hl 0 rfl) ?_
                refine va_getN (D := G.1) (ci := 0) (v := .int (gC S r_9 12)) (C := RX0) (T := TX0) (N := 15) (host := "DutyDesk") hx hb hts hin0 hown hG.1 hw.1 (45 + r_9) (xw_atC hc_10) rfl 12 (by decide) (va_Nw.use rfl (hG.2.1 (.fieldLinkNest "DutyDesk" 202 "DutyDesk$Call" "delay" "I" "DutyDesk") (List.mem_of_getElem? (i := 41) rfl))) (fun _ h9 => h9) rfl dX7_told_94 ?_
                have e_17 := Option.some.inj hf
                subst e_17
                exact wd_iret hx hb hr hlocks hw dX7_told_97
              · replace hf := if_f c_16 hf
                by_cases c_18 : p2 = 4
                · replace hf := if_t c_18 hf
                  refine lv_tableIn (off := 36) (tgt := 98) hx hb dX7_told_62 (by rw [c_18]; decide) (by rw [c_18]; decide) (by rw [c_18]; rfl) (by decide) ?_
                  refine lv_aload_n hx hb dX7_told_98 rfl (lv_at hl 0 rfl) ?_
                  refine lv_aload_n hx hb dX7_told_99 rfl (lv_at hl 1 rfl) ?_
                  refine va_get (D := G.1) (ci := 7) (v := .ref (a 2)) (C := RX7) (T := TX7) (N := 6) hx hb hts hin7 hown hG.1 hw.1 0 rfl rfl 1 (by decide) (hts (.fieldLink RX7 19 "DutyDesk" "statutes" "LDutyDesk$Statutes;") (List.mem_of_getElem? (i := 2) rfl)) (fun _ h9 => h9) rfl dX7_told_100 ?_
                  refine lv_aload_n hx hb dX7_told_103 rfl (lv_at hl 0 rfl) ?_
                  refine va_getN (D := G.1) (ci := 0) (v := .int (gC S r_9 0)) (C := RX0) (T := TX0) (N := 15) (host := "DutyDesk") hx hb hts hin0 hown hG.1 hw.1 (45 + r_9) (xw_atC hc_10) rfl 0 (by decide) (va_Nw.use rfl (hG.2.1 (.fieldLinkNest "DutyDesk" 205 "DutyDesk$Call" "day" "I" "DutyDesk") (List.mem_of_getElem? (i := 24) rfl))) (fun _ h9 => h9) rfl dX7_told_104 ?_
                  obtain ⟨r_20, h_19, hf⟩ := bind_of hf
                  refine cVN (As := [.int (gC S r_9 0)]) (rest := [.ref (a (50 + r_9))]) ⟨hx, hb, hml, hown, hts⟩ hG hA hw (c_X6_textNow G l a ha R S (gC S r_9 0) r_20 h_19) ⟨va_cnB 1 hts gX7_told_X6_textNow_n208 rfl rfl rfl (hG.2.1 (.methodLinkNest "DutyDesk" 208 yX6_textNow "DutyDesk") (List.mem_of_getElem? (i := 99) rfl)) (hts (.initialized RX6) (List.mem_of_getElem? (i := 17) rfl)) (by decide +kernel) ⟨Nat.le_of_ble_eq_true rfl, Nat.le_of_ble_eq_true rfl⟩, hts (.instanceMethod yX6_textNow) (List.mem_of_getElem? (i := 16) rfl), hts (.selects RX6 yX6_textNow yX6_textNow) (List.mem_of_getElem? (i := 18) rfl)⟩ (va_recv hG.1 hw.1 (ci := 6) (q0 := 2) rfl rfl) rfl hl.1 rfl (Nat.le_of_ble_eq_true rfl) dX7_told_107 ⟨Nat.zero_le _, Nat.zero_le _⟩ (fun H locs hw => ?_)
                  obtain ⟨ht_21, hf⟩ := gk_of hf
                  obtain ⟨r_23, h_22, hf⟩ := bind_of hf
                  refine cVN (As := [.ref (a r_20)]) (rest := []) ⟨hx, hb, hml, hown, hts⟩ hG hA hw (c_X0_isLate G l a ha R S r_9 r_20 r_23 h_22) ⟨va_cnB 1 hts gX7_told_X0_isLate_n211 rfl rfl rfl (hG.2.1 (.methodLinkNest "DutyDesk" 211 yX0_isLate "DutyDesk") (List.mem_of_getElem? (i := 100) rfl)) (hts (.initialized RX0) (List.mem_of_getElem? (i := 31) rfl)) (by decide +kernel) ⟨Nat.le_of_ble_eq_true rfl, Nat.le_of_ble_eq_true rfl⟩, hts (.instanceMethod yX0_isLate) (List.mem_of_getElem? (i := 30) rfl), hts (.selects RX0 yX0_isLate yX0_isLate) (List.mem_of_getElem? (i := 32) rfl)⟩ (va_recv hG.1 hw.1 (ci := 0) (q0 := 45 + r_9) rfl (xw_atC hc_10)) rfl hl.1 rfl (Nat.le_of_ble_eq_true rfl) dX7_told_110 ⟨Nat.zero_le _, Nat.zero_le _⟩ (fun H locs hw => ?_)
                  refine lv_if_eq (tgt := 120) hx hb dX7_told_113 (by decide) (fun c_24 => ?_) (fun c_24 => ?_)
                  · replace hf := if_t c_24 hf
                    refine lv_iconst (v := 0) hx hb dX7_told_120 (by decide) ?_
                    have e_25 := Option.some.inj hf
                    subst e_25
                    exact wd_iret hx hb hr hlocks hw dX7_told_121
                  · replace hf := if_f c_24 hf
                    refine lv_iconst (v := 1) hx hb dX7_told_116 (by decide) ?_
                    refine lv_goto (tgt := 121) hx hb dX7_told_117 (by decide) ?_
                    have e_26 := Option.some.inj hf
                    subst e_26
                    exact wd_iret hx hb hr hlocks hw dX7_told_121
                · replace hf := if_f c_18 hf
                  have nc_14 := lv_neT c_14 (show Int32.toInt 2 = 2 from rfl)
                  have nc_16 := lv_neT c_16 (show Int32.toInt 3 = 3 from rfl)
                  have nc_18 := lv_neT c_18 (show Int32.toInt 4 = 4 from rfl)
                  refine lv_tableOut (tgt := 122) hx hb dX7_told_62 (by omega) (by decide) ?_
                  refine lv_aload_n hx hb dX7_told_122 rfl (lv_at hl 0 rfl) ?_
                  refine va_getN (D := G.1) (ci := 0) (v := .int (gC S r_9 13)) (C := RX0) (T := TX0) (N := 15) (host := "DutyDesk") hx hb hts hin0 hown hG.1 hw.1 (45 + r_9) (xw_atC hc_10) rfl 13 (by decide) (va_Nw.use rfl (hG.2.1 (.fieldLinkNest "DutyDesk" 215 "DutyDesk$Call" "wasDuty" "Z" "DutyDesk") (List.mem_of_getElem? (i := 43) rfl))) (fun _ h9 => h9) rfl dX7_told_123 ?_
                  refine lv_if_eq (tgt := 133) hx hb dX7_told_126 (by decide) (fun c_27 => ?_) (fun c_27 => ?_)
                  · replace hf := if_t c_27 hf
                    refine lv_iconst (v := 0) hx hb dX7_told_133 (by decide) ?_
                    have e_28 := Option.some.inj hf
                    subst e_28
                    exact wd_iret hx hb hr hlocks hw dX7_told_134
                  · replace hf := if_f c_27 hf
                    refine lv_iconst (v := 1) hx hb dX7_told_129 (by decide) ?_
                    refine lv_goto (tgt := 134) hx hb dX7_told_130 (by decide) ?_
                    have e_29 := Option.some.inj hf
                    subst e_29
                    exact wd_iret hx hb hr hlocks hw dX7_told_134
          · replace hf := if_f c_13 hf
            refine lv_iconst (v := (-1)) hx hb dX7_told_59 (by decide) ?_
            have e_30 := Option.some.inj hf
            subst e_30
            exact wd_iret hx hb hr hlocks hw dX7_told_60
        · replace hf := if_t c_12 hf
          refine lv_aload_n hx hb dX7_told_46 rfl (lv_at hl 0 rfl) ?_
          refine va_getN (D := G.1) (ci := 0) (v := .int (gC S r_9 9)) (C := RX0) (T := TX0) (N := 15) (host := "DutyDesk") hx hb hts hin0 hown hG.1 hw.1 (45 + r_9) (xw_atC hc_10) rfl 9 (by decide) (va_Nw.use rfl (hG.2.1 (.fieldLinkNest "DutyDesk" 196 "DutyDesk$Call" "refused" "I" "DutyDesk") (List.mem_of_getElem? (i := 36) rfl))) (fun _ h9 => h9) rfl dX7_told_47 ?_
          have e_31 := Option.some.inj hf
          subst e_31
          exact wd_iret hx hb hr hlocks hw dX7_told_50
      · replace hf := if_t c_11 hf
        refine lv_aload_n hx hb dX7_told_36 rfl (lv_at hl 0 rfl) ?_
        refine va_getN (D := G.1) (ci := 0) (v := .int (gC S r_9 6)) (C := RX0) (T := TX0) (N := 15) (host := "DutyDesk") hx hb hts hin0 hown hG.1 hw.1 (45 + r_9) (xw_atC hc_10) rfl 6 (by decide) (va_Nw.use rfl (hG.2.1 (.fieldLinkNest "DutyDesk" 190 "DutyDesk$Call" "state" "I" "DutyDesk") (List.mem_of_getElem? (i := 31) rfl))) (fun _ h9 => h9) rfl dX7_told_37 ?_
        have e_32 := Option.some.inj hf
        subst e_32
        exact wd_iret hx hb hr hlocks hw dX7_told_40
    · replace hf := if_t c_7 hf
      refine lv_bipush (v := (-9)) hx hb dX7_told_20 (by decide) ?_
      have e_33 := Option.some.inj hf
      subst e_33
      exact wd_iret hx hb hr hlocks hw dX7_told_22
/-! DutyDesk.barred(II)I -/
def rm_X7_barred : Room := { frames := 4, cells := 0, slots := 0, locals := 94 }
def f_X7_barred (S : St) (p1 : Int32) (p2 : Int32) : Option (Int32) :=
  (f_X1_has S p1).bind (fun r_2 => (if r_2 = 0 then
    some ((-2))
  else
    (f_X3_has S p2).bind (fun r_6 => (if r_6 = 0 then
    some ((-2))
  else
    (f_X1_get S p1).bind (fun r_9 => gn r_9 (nC S) ((f_X6_textNow S (gC S r_9 0)).bind (fun r_12 => gk r_12 (gd 10 12 ((f_X1_reasonsAgainst S r_9 p2 (gT S r_12 (10 : Int32).toNatClampNeg)).bind (fun r_16 => some (r_16)))))))))))
set_option maxHeartbeats 4000000 in
set_option maxRecDepth 100000 in
theorem c_X7_barred (G : GP) (l : Launch) (a : Nat → Nat) (ha : a 45 = G.2.2.1) (R : va_W) (S : St) (p1 : Int32) (p2 : Int32) (r0 : Int32) (hf : f_X7_barred S p1 p2 = some r0) : MC G l yX7_barred wsX7_barred rm_X7_barred [.ref (a 0), .int p1, .int p2] (xw G.2.1 a R S) (xw G.2.1 a R S) (some (.int r0)) 0 0 := by
  refine MC.mk (cc := cX7_barred) (maxL := 4) (ret := (some .int)) (by decide) rfl (Nat.le_of_ble_eq_true rfl) ?_
  intro p e s m below meth c A ls ⟨hx, hb, hr, hml, hown, hlocks, _, hts⟩ hw hG hA hl
  have hl : lv_has ls 4 [(0, .ref (a 0)), (1, .int p1), (2, .int p2)] := hl
  have hin0 : ∀ w ∈ u_ws RX0 TX0 15, w ∈ wsX7_barred := by decide +kernel
  have hin7 : ∀ w ∈ u_ws RX7 TX7 6, w ∈ wsX7_barred := by decide +kernel
  rw [f_X7_barred] at hf
  refine lv_aload_n hx hb dX7_barred_0 rfl (lv_at hl 0 rfl) ?_
  refine va_get (D := G.1) (ci := 7) (v := .ref (a 6)) (C := RX7) (T := TX7) (N := 6) hx hb hts hin7 hown hG.1 hw.1 0 rfl rfl 5 (by decide) (hts (.fieldLink RX7 53 "DutyDesk" "calls" "LDutyDesk$Calls;") (List.mem_of_getElem? (i := 1) rfl)) (fun _ h9 => h9) rfl dX7_barred_1 ?_
  refine lv_iload_n hx hb dX7_barred_4 rfl (lv_at hl 1 rfl) ?_
  obtain ⟨r_2, h_1, hf⟩ := bind_of hf
  refine cVN (As := [.int p1]) (rest := []) ⟨hx, hb, hml, hown, hts⟩ hG hA hw (c_X1_has G l a ha R S p1 r_2 h_1) ⟨va_cnB 1 hts gX7_barred_X1_has_n182 rfl rfl rfl (hG.2.1 (.methodLinkNest "DutyDesk" 182 yX1_has "DutyDesk") (List.mem_of_getElem? (i := 95) rfl)) (hts (.initialized RX1) (List.mem_of_getElem? (i := 5) rfl)) (by decide +kernel) ⟨Nat.le_of_ble_eq_true rfl, Nat.le_of_ble_eq_true rfl⟩, hts (.instanceMethod yX1_has) (List.mem_of_getElem? (i := 4) rfl), hts (.selects RX1 yX1_has yX1_has) (List.mem_of_getElem? (i := 6) rfl)⟩ (va_recv hG.1 hw.1 (ci := 1) (q0 := 6) rfl rfl) rfl hl.1 rfl (Nat.le_of_ble_eq_true rfl) dX7_barred_5 ⟨Nat.zero_le _, Nat.zero_le _⟩ (fun H locs hw => ?_)
  refine lv_if_eq (tgt := 22) hx hb dX7_barred_8 (by decide) (fun c_3 => ?_) (fun c_3 => ?_)
  · replace hf := if_t c_3 hf
    refine lv_bipush (v := (-2)) hx hb dX7_barred_22 (by decide) ?_
    have e_4 := Option.some.inj hf
    subst e_4
    exact wd_iret hx hb hr hlocks hw dX7_barred_24
  · replace hf := if_f c_3 hf
    refine lv_aload_n hx hb dX7_barred_11 rfl (lv_at hl 0 rfl) ?_
    refine va_get (D := G.1) (ci := 7) (v := .ref (a 3)) (C := RX7) (T := TX7) (N := 6) hx hb hts hin7 hown hG.1 hw.1 0 rfl rfl 2 (by decide) (hts (.fieldLink RX7 26 "DutyDesk" "people" "LDutyDesk$People;") (List.mem_of_getElem? (i := 2) rfl)) (fun _ h9 => h9) rfl dX7_barred_12 ?_
    refine lv_iload_n hx hb dX7_barred_15 rfl (lv_at hl 2 rfl) ?_
    obtain ⟨r_6, h_5, hf⟩ := bind_of hf
    refine cVN (As := [.int p2]) (rest := []) ⟨hx, hb, hml, hown, hts⟩ hG hA hw (c_X3_has G l a ha R S p2 r_6 h_5) ⟨va_cnB 1 hts gX7_barred_X3_has_n76 rfl rfl rfl (hG.2.1 (.methodLinkNest "DutyDesk" 76 yX3_has "DutyDesk") (List.mem_of_getElem? (i := 54) rfl)) (hts (.initialized RX3) (List.mem_of_getElem? (i := 13) rfl)) (by decide +kernel) ⟨Nat.le_of_ble_eq_true rfl, Nat.le_of_ble_eq_true rfl⟩, hts (.instanceMethod yX3_has) (List.mem_of_getElem? (i := 12) rfl), hts (.selects RX3 yX3_has yX3_has) (List.mem_of_getElem? (i := 14) rfl)⟩ (va_recv hG.1 hw.1 (ci := 3) (q0 := 3) rfl rfl) rfl hl.1 rfl (Nat.le_of_ble_eq_true rfl) dX7_barred_16 ⟨Nat.zero_le _, Nat.zero_le _⟩ (fun H locs hw => ?_)
    refine lv_if_ne (tgt := 25) hx hb dX7_barred_19 (by decide) (fun c_7 => ?_) (fun c_7 => ?_)
    · replace hf := if_f c_7 hf
      refine lv_aload_n hx hb dX7_barred_25 rfl (lv_at hl 0 rfl) ?_
      refine va_get (D := G.1) (ci := 7) (v := .ref (a 6)) (C := RX7) (T := TX7) (N := 6) hx hb hts hin7 hown hG.1 hw.1 0 rfl rfl 5 (by decide) (hts (.fieldLink RX7 53 "DutyDesk" "calls" "LDutyDesk$Calls;") (List.mem_of_getElem? (i := 1) rfl)) (fun _ h9 => h9) rfl dX7_barred_26 ?_
      refine lv_iload_n hx hb dX7_barred_29 rfl (lv_at hl 1 rfl) ?_
      obtain ⟨r_9, h_8, hf⟩ := bind_of hf
      refine cVN (As := [.int p1]) (rest := []) ⟨hx, hb, hml, hown, hts⟩ hG hA hw (c_X1_get G l a ha R S p1 r_9 h_8) ⟨va_cnB 1 hts gX7_barred_X1_get_n183 rfl rfl rfl (hG.2.1 (.methodLinkNest "DutyDesk" 183 yX1_get "DutyDesk") (List.mem_of_getElem? (i := 97) rfl)) (hts (.initialized RX1) (List.mem_of_getElem? (i := 5) rfl)) (by decide +kernel) ⟨Nat.le_of_ble_eq_true rfl, Nat.le_of_ble_eq_true rfl⟩, hts (.instanceMethod yX1_get) (List.mem_of_getElem? (i := 17) rfl), hts (.selects RX1 yX1_get yX1_get) (List.mem_of_getElem? (i := 18) rfl)⟩ (va_recv hG.1 hw.1 (ci := 1) (q0 := 6) rfl rfl) rfl hl.1 rfl (Nat.le_of_ble_eq_true rfl) dX7_barred_30 ⟨Nat.zero_le _, Nat.zero_le _⟩ (fun H locs hw => ?_)
      obtain ⟨hc_10, hf⟩ := gn_of hf
      refine lv_astore_n (lv' := [(3, .ref (a (50 + r_9))), (0, .ref (a 0)), (1, .int p1), (2, .int p2)]) hx hb dX7_barred_33 rfl hl (by decide) rfl (fun ls hl => ?_)
      refine lv_aload_n hx hb dX7_barred_34 rfl (lv_at hl 1 rfl) ?_
      refine va_get (D := G.1) (ci := 7) (v := .ref (a 6)) (C := RX7) (T := TX7) (N := 6) hx hb hts hin7 hown hG.1 hw.1 0 rfl rfl 5 (by decide) (hts (.fieldLink RX7 53 "DutyDesk" "calls" "LDutyDesk$Calls;") (List.mem_of_getElem? (i := 1) rfl)) (fun _ h9 => h9) rfl dX7_barred_35 ?_
      refine lv_aload_n hx hb dX7_barred_38 rfl (lv_at hl 0 rfl) ?_
      refine lv_iload_n hx hb dX7_barred_39 rfl (lv_at hl 3 rfl) ?_
      refine lv_aload_n hx hb dX7_barred_40 rfl (lv_at hl 1 rfl) ?_
      refine va_get (D := G.1) (ci := 7) (v := .ref (a 2)) (C := RX7) (T := TX7) (N := 6) hx hb hts hin7 hown hG.1 hw.1 0 rfl rfl 1 (by decide) (hts (.fieldLink RX7 19 "DutyDesk" "statutes" "LDutyDesk$Statutes;") (List.mem_of_getElem? (i := 3) rfl)) (fun _ h9 => h9) rfl dX7_barred_41 ?_
      refine lv_aload_n hx hb dX7_barred_44 rfl (lv_at hl 0 rfl) ?_
      refine va_getN (D := G.1) (ci := 0) (v := .int (gC S r_9 0)) (C := RX0) (T := TX0) (N := 15) (host := "DutyDesk") hx hb hts hin0 hown hG.1 hw.1 (45 + r_9) (xw_atC hc_10) rfl 0 (by decide) (va_Nw.use rfl (hG.2.1 (.fieldLinkNest "DutyDesk" 205 "DutyDesk$Call" "day" "I" "DutyDesk") (List.mem_of_getElem? (i := 24) rfl))) (fun _ h9 => h9) rfl dX7_barred_45 ?_
      obtain ⟨r_12, h_11, hf⟩ := bind_of hf
      refine cVN (As := [.int (gC S r_9 0)]) (rest := [.int p2, .ref (a (50 + r_9)), .ref (a 6)]) ⟨hx, hb, hml, hown, hts⟩ hG hA hw (c_X6_textNow G l a ha R S (gC S r_9 0) r_12 h_11) ⟨va_cnB 1 hts gX7_barred_X6_textNow_n208 rfl rfl rfl (hG.2.1 (.methodLinkNest "DutyDesk" 208 yX6_textNow "DutyDesk") (List.mem_of_getElem? (i := 99) rfl)) (hts (.initialized RX6) (List.mem_of_getElem? (i := 22) rfl)) (by decide +kernel) ⟨Nat.le_of_ble_eq_true rfl, Nat.le_of_ble_eq_true rfl⟩, hts (.instanceMethod yX6_textNow) (List.mem_of_getElem? (i := 21) rfl), hts (.selects RX6 yX6_textNow yX6_textNow) (List.mem_of_getElem? (i := 23) rfl)⟩ (va_recv hG.1 hw.1 (ci := 6) (q0 := 2) rfl rfl) rfl hl.1 rfl (Nat.le_of_ble_eq_true rfl) dX7_barred_48 ⟨Nat.zero_le _, Nat.zero_le _⟩ (fun H locs hw => ?_)
      obtain ⟨ht_13, hf⟩ := gk_of hf
      refine lv_bipush (v := 10) hx hb dX7_barred_51 (by decide) ?_
      obtain ⟨h_14, hf⟩ := gd_of hf
      refine x_tald hx hb ha hG hw ht_13 h_14 dX7_barred_53 ?_
      obtain ⟨r_16, h_15, hf⟩ := bind_of hf
      refine cVN (As := [.ref (a (50 + r_9)), .int p2, .int (gT S r_12 (10 : Int32).toNatClampNeg)]) (rest := []) ⟨hx, hb, hml, hown, hts⟩ hG hA hw (c_X1_reasonsAgainst G l a ha R S r_9 p2 (gT S r_12 (10 : Int32).toNatClampNeg) r_16 h_15) ⟨va_cnB 3 hts gX7_barred_X1_reasonsAgainst_n219 rfl rfl rfl (hG.2.1 (.methodLinkNest "DutyDesk" 219 yX1_reasonsAgainst "DutyDesk") (List.mem_of_getElem? (i := 101) rfl)) (hts (.initialized RX1) (List.mem_of_getElem? (i := 5) rfl)) (by decide +kernel) ⟨Nat.le_of_ble_eq_true rfl, Nat.le_of_ble_eq_true rfl⟩, hts (.instanceMethod yX1_reasonsAgainst) (List.mem_of_getElem? (i := 35) rfl), hts (.selects RX1 yX1_reasonsAgainst yX1_reasonsAgainst) (List.mem_of_getElem? (i := 36) rfl)⟩ (va_recv hG.1 hw.1 (ci := 1) (q0 := 6) rfl rfl) rfl hl.1 rfl (Nat.le_of_ble_eq_true rfl) dX7_barred_54 ⟨Nat.zero_le _, Nat.zero_le _⟩ (fun H locs hw => ?_)
      have e_17 := Option.some.inj hf
      subst e_17
      exact wd_iret hx hb hr hlocks hw dX7_barred_57
    · replace hf := if_t c_7 hf
      refine lv_bipush (v := (-2)) hx hb dX7_barred_22 (by decide) ?_
      have e_18 := Option.some.inj hf
      subst e_18
      exact wd_iret hx hb hr hlocks hw dX7_barred_24
/-! DutyDesk.claim(II)I -/
def rm_X7_claim : Room := { frames := 4, cells := 0, slots := 0, locals := 87 }
def f_X7_claim (S : St) (p1 : Int32) (p2 : Int32) : Option (Int32) :=
  (f_X1_has S p1).bind (fun r_2 => (if r_2 = 0 then
    some ((-2))
  else
    (f_X6_canKnow S p2).bind (fun r_6 => (if r_6 = 0 then
    some ((-2))
  else
    (f_X1_get S p1).bind (fun r_9 => gn r_9 (nC S) ((if (gC S r_9 6) = 1 then
    (f_X6_textKnown S (gC S r_9 0) p2).bind (fun r_14 => gk r_14 ((f_X0_sumDue S r_9 r_14).bind (fun r_17 => some (r_17))))
  else
    some ((-1)))))))))
set_option maxHeartbeats 4000000 in
set_option maxRecDepth 100000 in
theorem c_X7_claim (G : GP) (l : Launch) (a : Nat → Nat) (ha : a 45 = G.2.2.1) (R : va_W) (S : St) (p1 : Int32) (p2 : Int32) (r0 : Int32) (hf : f_X7_claim S p1 p2 = some r0) : MC G l yX7_claim wsX7_claim rm_X7_claim [.ref (a 0), .int p1, .int p2] (xw G.2.1 a R S) (xw G.2.1 a R S) (some (.int r0)) 0 0 := by
  refine MC.mk (cc := cX7_claim) (maxL := 4) (ret := (some .int)) (by decide) rfl (Nat.le_of_ble_eq_true rfl) ?_
  intro p e s m below meth c A ls ⟨hx, hb, hr, hml, hown, hlocks, _, hts⟩ hw hG hA hl
  have hl : lv_has ls 4 [(0, .ref (a 0)), (1, .int p1), (2, .int p2)] := hl
  have hin0 : ∀ w ∈ u_ws RX0 TX0 15, w ∈ wsX7_claim := by decide +kernel
  have hin7 : ∀ w ∈ u_ws RX7 TX7 6, w ∈ wsX7_claim := by decide +kernel
  rw [f_X7_claim] at hf
  refine lv_aload_n hx hb dX7_claim_0 rfl (lv_at hl 0 rfl) ?_
  refine va_get (D := G.1) (ci := 7) (v := .ref (a 6)) (C := RX7) (T := TX7) (N := 6) hx hb hts hin7 hown hG.1 hw.1 0 rfl rfl 5 (by decide) (hts (.fieldLink RX7 53 "DutyDesk" "calls" "LDutyDesk$Calls;") (List.mem_of_getElem? (i := 1) rfl)) (fun _ h9 => h9) rfl dX7_claim_1 ?_
  refine lv_iload_n hx hb dX7_claim_4 rfl (lv_at hl 1 rfl) ?_
  obtain ⟨r_2, h_1, hf⟩ := bind_of hf
  refine cVN (As := [.int p1]) (rest := []) ⟨hx, hb, hml, hown, hts⟩ hG hA hw (c_X1_has G l a ha R S p1 r_2 h_1) ⟨va_cnB 1 hts gX7_claim_X1_has_n182 rfl rfl rfl (hG.2.1 (.methodLinkNest "DutyDesk" 182 yX1_has "DutyDesk") (List.mem_of_getElem? (i := 95) rfl)) (hts (.initialized RX1) (List.mem_of_getElem? (i := 4) rfl)) (by decide +kernel) ⟨Nat.le_of_ble_eq_true rfl, Nat.le_of_ble_eq_true rfl⟩, hts (.instanceMethod yX1_has) (List.mem_of_getElem? (i := 3) rfl), hts (.selects RX1 yX1_has yX1_has) (List.mem_of_getElem? (i := 5) rfl)⟩ (va_recv hG.1 hw.1 (ci := 1) (q0 := 6) rfl rfl) rfl hl.1 rfl (Nat.le_of_ble_eq_true rfl) dX7_claim_5 ⟨Nat.zero_le _, Nat.zero_le _⟩ (fun H locs hw => ?_)
  refine lv_if_eq (tgt := 22) hx hb dX7_claim_8 (by decide) (fun c_3 => ?_) (fun c_3 => ?_)
  · replace hf := if_t c_3 hf
    refine lv_bipush (v := (-2)) hx hb dX7_claim_22 (by decide) ?_
    have e_4 := Option.some.inj hf
    subst e_4
    exact wd_iret hx hb hr hlocks hw dX7_claim_24
  · replace hf := if_f c_3 hf
    refine lv_aload_n hx hb dX7_claim_11 rfl (lv_at hl 0 rfl) ?_
    refine va_get (D := G.1) (ci := 7) (v := .ref (a 2)) (C := RX7) (T := TX7) (N := 6) hx hb hts hin7 hown hG.1 hw.1 0 rfl rfl 1 (by decide) (hts (.fieldLink RX7 19 "DutyDesk" "statutes" "LDutyDesk$Statutes;") (List.mem_of_getElem? (i := 2) rfl)) (fun _ h9 => h9) rfl dX7_claim_12 ?_
    refine lv_iload_n hx hb dX7_claim_15 rfl (lv_at hl 2 rfl) ?_
    obtain ⟨r_6, h_5, hf⟩ := bind_of hf
    refine cVN (As := [.int p2]) (rest := []) ⟨hx, hb, hml, hown, hts⟩ hG hA hw (c_X6_canKnow G l a ha R S p2 r_6 h_5) ⟨va_cnB 1 hts gX7_claim_X6_canKnow_n137 rfl rfl rfl (hG.2.1 (.methodLinkNest "DutyDesk" 137 yX6_canKnow "DutyDesk") (List.mem_of_getElem? (i := 69) rfl)) (hts (.initialized RX6) (List.mem_of_getElem? (i := 12) rfl)) (by decide +kernel) ⟨Nat.le_of_ble_eq_true rfl, Nat.le_of_ble_eq_true rfl⟩, hts (.instanceMethod yX6_canKnow) (List.mem_of_getElem? (i := 11) rfl), hts (.selects RX6 yX6_canKnow yX6_canKnow) (List.mem_of_getElem? (i := 13) rfl)⟩ (va_recv hG.1 hw.1 (ci := 6) (q0 := 2) rfl rfl) rfl hl.1 rfl (Nat.le_of_ble_eq_true rfl) dX7_claim_16 ⟨Nat.zero_le _, Nat.zero_le _⟩ (fun H locs hw => ?_)
    refine lv_if_ne (tgt := 25) hx hb dX7_claim_19 (by decide) (fun c_7 => ?_) (fun c_7 => ?_)
    · replace hf := if_f c_7 hf
      refine lv_aload_n hx hb dX7_claim_25 rfl (lv_at hl 0 rfl) ?_
      refine va_get (D := G.1) (ci := 7) (v := .ref (a 6)) (C := RX7) (T := TX7) (N := 6) hx hb hts hin7 hown hG.1 hw.1 0 rfl rfl 5 (by decide) (hts (.fieldLink RX7 53 "DutyDesk" "calls" "LDutyDesk$Calls;") (List.mem_of_getElem? (i := 1) rfl)) (fun _ h9 => h9) rfl dX7_claim_26 ?_
      refine lv_iload_n hx hb dX7_claim_29 rfl (lv_at hl 1 rfl) ?_
      obtain ⟨r_9, h_8, hf⟩ := bind_of hf
      refine cVN (As := [.int p1]) (rest := []) ⟨hx, hb, hml, hown, hts⟩ hG hA hw (c_X1_get G l a ha R S p1 r_9 h_8) ⟨va_cnB 1 hts gX7_claim_X1_get_n183 rfl rfl rfl (hG.2.1 (.methodLinkNest "DutyDesk" 183 yX1_get "DutyDesk") (List.mem_of_getElem? (i := 97) rfl)) (hts (.initialized RX1) (List.mem_of_getElem? (i := 4) rfl)) (by decide +kernel) ⟨Nat.le_of_ble_eq_true rfl, Nat.le_of_ble_eq_true rfl⟩, hts (.instanceMethod yX1_get) (List.mem_of_getElem? (i := 16) rfl), hts (.selects RX1 yX1_get yX1_get) (List.mem_of_getElem? (i := 17) rfl)⟩ (va_recv hG.1 hw.1 (ci := 1) (q0 := 6) rfl rfl) rfl hl.1 rfl (Nat.le_of_ble_eq_true rfl) dX7_claim_30 ⟨Nat.zero_le _, Nat.zero_le _⟩ (fun H locs hw => ?_)
      obtain ⟨hc_10, hf⟩ := gn_of hf
      refine lv_astore_n (lv' := [(3, .ref (a (50 + r_9))), (0, .ref (a 0)), (1, .int p1), (2, .int p2)]) hx hb dX7_claim_33 rfl hl (by decide) rfl (fun ls hl => ?_)
      refine lv_aload_n hx hb dX7_claim_34 rfl (lv_at hl 0 rfl) ?_
      refine va_getN (D := G.1) (ci := 0) (v := .int (gC S r_9 6)) (C := RX0) (T := TX0) (N := 15) (host := "DutyDesk") hx hb hts hin0 hown hG.1 hw.1 (45 + r_9) (xw_atC hc_10) rfl 6 (by decide) (va_Nw.use rfl (hG.2.1 (.fieldLinkNest "DutyDesk" 190 "DutyDesk$Call" "state" "I" "DutyDesk") (List.mem_of_getElem? (i := 31) rfl))) (fun _ h9 => h9) rfl dX7_claim_35 ?_
      refine lv_iconst (v := 1) hx hb dX7_claim_38 (by decide) ?_
      refine lv_icmp_ne (tgt := 61) hx hb dX7_claim_39 (by decide) (fun c_11 => ?_) (fun c_11 => ?_)
      · replace hf := if_f c_11 hf
        refine lv_iconst (v := (-1)) hx hb dX7_claim_61 (by decide) ?_
        have e_12 := Option.some.inj hf
        subst e_12
        exact wd_iret hx hb hr hlocks hw dX7_claim_62
      · replace hf := if_t c_11 hf
        refine lv_aload_n hx hb dX7_claim_42 rfl (lv_at hl 0 rfl) ?_
        refine lv_aload_n hx hb dX7_claim_43 rfl (lv_at hl 1 rfl) ?_
        refine va_get (D := G.1) (ci := 7) (v := .ref (a 2)) (C := RX7) (T := TX7) (N := 6) hx hb hts hin7 hown hG.1 hw.1 0 rfl rfl 1 (by decide) (hts (.fieldLink RX7 19 "DutyDesk" "statutes" "LDutyDesk$Statutes;") (List.mem_of_getElem? (i := 2) rfl)) (fun _ h9 => h9) rfl dX7_claim_44 ?_
        refine lv_aload_n hx hb dX7_claim_47 rfl (lv_at hl 0 rfl) ?_
        refine va_getN (D := G.1) (ci := 0) (v := .int (gC S r_9 0)) (C := RX0) (T := TX0) (N := 15) (host := "DutyDesk") hx hb hts hin0 hown hG.1 hw.1 (45 + r_9) (xw_atC hc_10) rfl 0 (by decide) (va_Nw.use rfl (hG.2.1 (.fieldLinkNest "DutyDesk" 205 "DutyDesk$Call" "day" "I" "DutyDesk") (List.mem_of_getElem? (i := 24) rfl))) (fun _ h9 => h9) rfl dX7_claim_48 ?_
        refine lv_iload_n hx hb dX7_claim_51 rfl (lv_at hl 3 rfl) ?_
        obtain ⟨r_14, h_13, hf⟩ := bind_of hf
        refine cVN (As := [.int (gC S r_9 0), .int p2]) (rest := [.ref (a (50 + r_9))]) ⟨hx, hb, hml, hown, hts⟩ hG hA hw (c_X6_textKnown G l a ha R S (gC S r_9 0) p2 r_14 h_13) ⟨va_cnB 2 hts gX7_claim_X6_textKnown_n223 rfl rfl rfl (hG.2.1 (.methodLinkNest "DutyDesk" 223 yX6_textKnown "DutyDesk") (List.mem_of_getElem? (i := 102) rfl)) (hts (.initialized RX6) (List.mem_of_getElem? (i := 12) rfl)) (by decide +kernel) ⟨Nat.le_of_ble_eq_true rfl, Nat.le_of_ble_eq_true rfl⟩, hts (.instanceMethod yX6_textKnown) (List.mem_of_getElem? (i := 20) rfl), hts (.selects RX6 yX6_textKnown yX6_textKnown) (List.mem_of_getElem? (i := 21) rfl)⟩ (va_recv hG.1 hw.1 (ci := 6) (q0 := 2) rfl rfl) rfl hl.1 rfl (Nat.le_of_ble_eq_true rfl) dX7_claim_52 ⟨Nat.zero_le _, Nat.zero_le _⟩ (fun H locs hw => ?_)
        obtain ⟨ht_15, hf⟩ := gk_of hf
        obtain ⟨r_17, h_16, hf⟩ := bind_of hf
        refine cVN (As := [.ref (a r_14)]) (rest := []) ⟨hx, hb, hml, hown, hts⟩ hG hA hw (c_X0_sumDue G l a ha R S r_9 r_14 r_17 h_16) ⟨va_cnB 1 hts gX7_claim_X0_sumDue_n227 rfl rfl rfl (hG.2.1 (.methodLinkNest "DutyDesk" 227 yX0_sumDue "DutyDesk") (List.mem_of_getElem? (i := 103) rfl)) (hts (.initialized RX0) (List.mem_of_getElem? (i := 33) rfl)) (by decide +kernel) ⟨Nat.le_of_ble_eq_true rfl, Nat.le_of_ble_eq_true rfl⟩, hts (.instanceMethod yX0_sumDue) (List.mem_of_getElem? (i := 32) rfl), hts (.selects RX0 yX0_sumDue yX0_sumDue) (List.mem_of_getElem? (i := 34) rfl)⟩ (va_recv hG.1 hw.1 (ci := 0) (q0 := 45 + r_9) rfl (xw_atC hc_10)) rfl hl.1 rfl (Nat.le_of_ble_eq_true rfl) dX7_claim_55 ⟨Nat.zero_le _, Nat.zero_le _⟩ (fun H locs hw => ?_)
        refine lv_goto (tgt := 62) hx hb dX7_claim_58 (by decide) ?_
        have e_18 := Option.some.inj hf
        subst e_18
        exact wd_iret hx hb hr hlocks hw dX7_claim_62
    · replace hf := if_t c_7 hf
      refine lv_bipush (v := (-2)) hx hb dX7_claim_22 (by decide) ?_
      have e_19 := Option.some.inj hf
      subst e_19
      exact wd_iret hx hb hr hlocks hw dX7_claim_24
/-! DutyDesk.line(III)I -/
def rm_X7_line : Room := { frames := 4, cells := 0, slots := 0, locals := 88 }
def f_X7_line (S : St) (p1 : Int32) (p2 : Int32) (p3 : Int32) : Option (Int32) :=
  (f_X1_has S p1).bind (fun r_2 => (if r_2 = 0 then
    some ((-2))
  else
    (f_X6_canKnow S p2).bind (fun r_6 => (if r_6 = 0 then
    some ((-2))
  else
    (f_X1_get S p1).bind (fun r_9 => gn r_9 (nC S) ((if (gC S r_9 6) = 1 then
    (f_X7_isBelow p3 5).bind (fun r_14 => (if r_14 = 0 then
    some ((-1))
  else
    (f_X6_textKnown S (gC S r_9 0) p2).bind (fun r_17 => gk r_17 ((f_X0_lineDue S r_9 r_17 p3).bind (fun r_20 => some (r_20))))))
  else
    some ((-1)))))))))
set_option maxHeartbeats 4000000 in
set_option maxRecDepth 100000 in
theorem c_X7_line (G : GP) (l : Launch) (a : Nat → Nat) (ha : a 45 = G.2.2.1) (R : va_W) (S : St) (p1 : Int32) (p2 : Int32) (p3 : Int32) (r0 : Int32) (hf : f_X7_line S p1 p2 p3 = some r0) : MC G l yX7_line wsX7_line rm_X7_line [.ref (a 0), .int p1, .int p2, .int p3] (xw G.2.1 a R S) (xw G.2.1 a R S) (some (.int r0)) 0 0 := by
  refine MC.mk (cc := cX7_line) (maxL := 5) (ret := (some .int)) (by decide) rfl (Nat.le_of_ble_eq_true rfl) ?_
  intro p e s m below meth c A ls ⟨hx, hb, hr, hml, hown, hlocks, _, hts⟩ hw hG hA hl
  have hl : lv_has ls 5 [(0, .ref (a 0)), (1, .int p1), (2, .int p2), (3, .int p3)] := hl
  have hin0 : ∀ w ∈ u_ws RX0 TX0 15, w ∈ wsX7_line := by decide +kernel
  have hin7 : ∀ w ∈ u_ws RX7 TX7 6, w ∈ wsX7_line := by decide +kernel
  rw [f_X7_line] at hf
  refine lv_aload_n hx hb dX7_line_0 rfl (lv_at hl 0 rfl) ?_
  refine va_get (D := G.1) (ci := 7) (v := .ref (a 6)) (C := RX7) (T := TX7) (N := 6) hx hb hts hin7 hown hG.1 hw.1 0 rfl rfl 5 (by decide) (hts (.fieldLink RX7 53 "DutyDesk" "calls" "LDutyDesk$Calls;") (List.mem_of_getElem? (i := 1) rfl)) (fun _ h9 => h9) rfl dX7_line_1 ?_
  refine lv_iload_n hx hb dX7_line_4 rfl (lv_at hl 1 rfl) ?_
  obtain ⟨r_2, h_1, hf⟩ := bind_of hf
  refine cVN (As := [.int p1]) (rest := []) ⟨hx, hb, hml, hown, hts⟩ hG hA hw (c_X1_has G l a ha R S p1 r_2 h_1) ⟨va_cnB 1 hts gX7_line_X1_has_n182 rfl rfl rfl (hG.2.1 (.methodLinkNest "DutyDesk" 182 yX1_has "DutyDesk") (List.mem_of_getElem? (i := 95) rfl)) (hts (.initialized RX1) (List.mem_of_getElem? (i := 4) rfl)) (by decide +kernel) ⟨Nat.le_of_ble_eq_true rfl, Nat.le_of_ble_eq_true rfl⟩, hts (.instanceMethod yX1_has) (List.mem_of_getElem? (i := 3) rfl), hts (.selects RX1 yX1_has yX1_has) (List.mem_of_getElem? (i := 5) rfl)⟩ (va_recv hG.1 hw.1 (ci := 1) (q0 := 6) rfl rfl) rfl hl.1 rfl (Nat.le_of_ble_eq_true rfl) dX7_line_5 ⟨Nat.zero_le _, Nat.zero_le _⟩ (fun H locs hw => ?_)
  refine lv_if_eq (tgt := 22) hx hb dX7_line_8 (by decide) (fun c_3 => ?_) (fun c_3 => ?_)
  · replace hf := if_t c_3 hf
    refine lv_bipush (v := (-2)) hx hb dX7_line_22 (by decide) ?_
    have e_4 := Option.some.inj hf
    subst e_4
    exact wd_iret hx hb hr hlocks hw dX7_line_24
  · replace hf := if_f c_3 hf
    refine lv_aload_n hx hb dX7_line_11 rfl (lv_at hl 0 rfl) ?_
    refine va_get (D := G.1) (ci := 7) (v := .ref (a 2)) (C := RX7) (T := TX7) (N := 6) hx hb hts hin7 hown hG.1 hw.1 0 rfl rfl 1 (by decide) (hts (.fieldLink RX7 19 "DutyDesk" "statutes" "LDutyDesk$Statutes;") (List.mem_of_getElem? (i := 2) rfl)) (fun _ h9 => h9) rfl dX7_line_12 ?_
    refine lv_iload_n hx hb dX7_line_15 rfl (lv_at hl 2 rfl) ?_
    obtain ⟨r_6, h_5, hf⟩ := bind_of hf
    refine cVN (As := [.int p2]) (rest := []) ⟨hx, hb, hml, hown, hts⟩ hG hA hw (c_X6_canKnow G l a ha R S p2 r_6 h_5) ⟨va_cnB 1 hts gX7_line_X6_canKnow_n137 rfl rfl rfl (hG.2.1 (.methodLinkNest "DutyDesk" 137 yX6_canKnow "DutyDesk") (List.mem_of_getElem? (i := 69) rfl)) (hts (.initialized RX6) (List.mem_of_getElem? (i := 12) rfl)) (by decide +kernel) ⟨Nat.le_of_ble_eq_true rfl, Nat.le_of_ble_eq_true rfl⟩, hts (.instanceMethod yX6_canKnow) (List.mem_of_getElem? (i := 11) rfl), hts (.selects RX6 yX6_canKnow yX6_canKnow) (List.mem_of_getElem? (i := 13) rfl)⟩ (va_recv hG.1 hw.1 (ci := 6) (q0 := 2) rfl rfl) rfl hl.1 rfl (Nat.le_of_ble_eq_true rfl) dX7_line_16 ⟨Nat.zero_le _, Nat.zero_le _⟩ (fun H locs hw => ?_)
    refine lv_if_ne (tgt := 25) hx hb dX7_line_19 (by decide) (fun c_7 => ?_) (fun c_7 => ?_)
    · replace hf := if_f c_7 hf
      refine lv_aload_n hx hb dX7_line_25 rfl (lv_at hl 0 rfl) ?_
      refine va_get (D := G.1) (ci := 7) (v := .ref (a 6)) (C := RX7) (T := TX7) (N := 6) hx hb hts hin7 hown hG.1 hw.1 0 rfl rfl 5 (by decide) (hts (.fieldLink RX7 53 "DutyDesk" "calls" "LDutyDesk$Calls;") (List.mem_of_getElem? (i := 1) rfl)) (fun _ h9 => h9) rfl dX7_line_26 ?_
      refine lv_iload_n hx hb dX7_line_29 rfl (lv_at hl 1 rfl) ?_
      obtain ⟨r_9, h_8, hf⟩ := bind_of hf
      refine cVN (As := [.int p1]) (rest := []) ⟨hx, hb, hml, hown, hts⟩ hG hA hw (c_X1_get G l a ha R S p1 r_9 h_8) ⟨va_cnB 1 hts gX7_line_X1_get_n183 rfl rfl rfl (hG.2.1 (.methodLinkNest "DutyDesk" 183 yX1_get "DutyDesk") (List.mem_of_getElem? (i := 97) rfl)) (hts (.initialized RX1) (List.mem_of_getElem? (i := 4) rfl)) (by decide +kernel) ⟨Nat.le_of_ble_eq_true rfl, Nat.le_of_ble_eq_true rfl⟩, hts (.instanceMethod yX1_get) (List.mem_of_getElem? (i := 16) rfl), hts (.selects RX1 yX1_get yX1_get) (List.mem_of_getElem? (i := 17) rfl)⟩ (va_recv hG.1 hw.1 (ci := 1) (q0 := 6) rfl rfl) rfl hl.1 rfl (Nat.le_of_ble_eq_true rfl) dX7_line_30 ⟨Nat.zero_le _, Nat.zero_le _⟩ (fun H locs hw => ?_)
      obtain ⟨hc_10, hf⟩ := gn_of hf
      refine lv_astore (lv' := [(4, .ref (a (50 + r_9))), (0, .ref (a 0)), (1, .int p1), (2, .int p2), (3, .int p3)]) hx hb dX7_line_33 hl (by decide) rfl (fun ls hl => ?_)
      refine lv_aload hx hb dX7_line_35 (lv_at hl 0 rfl) ?_
      refine va_getN (D := G.1) (ci := 0) (v := .int (gC S r_9 6)) (C := RX0) (T := TX0) (N := 15) (host := "DutyDesk") hx hb hts hin0 hown hG.1 hw.1 (45 + r_9) (xw_atC hc_10) rfl 6 (by decide) (va_Nw.use rfl (hG.2.1 (.fieldLinkNest "DutyDesk" 190 "DutyDesk$Call" "state" "I" "DutyDesk") (List.mem_of_getElem? (i := 31) rfl))) (fun _ h9 => h9) rfl dX7_line_37 ?_
      refine lv_iconst (v := 1) hx hb dX7_line_40 (by decide) ?_
      refine lv_icmp_ne (tgt := 52) hx hb dX7_line_41 (by decide) (fun c_11 => ?_) (fun c_11 => ?_)
      · replace hf := if_f c_11 hf
        refine lv_iconst (v := (-1)) hx hb dX7_line_52 (by decide) ?_
        have e_12 := Option.some.inj hf
        subst e_12
        exact wd_iret hx hb hr hlocks hw dX7_line_53
      · replace hf := if_t c_11 hf
        refine lv_iload_n hx hb dX7_line_44 rfl (lv_at hl 4 rfl) ?_
        refine lv_iconst (v := 5) hx hb dX7_line_45 (by decide) ?_
        obtain ⟨r_14, h_13, hf⟩ := bind_of hf
        refine cS (As := [.int p3, .int 5]) (rest := []) ⟨hx, hb, hml, hown, hts⟩ hG hA hw (c_X7_isBelow G l _ p3 5 r_14 h_13) (va_cwS 2 hts gX7_line_X7_isBelow rfl rfl rfl (by decide +kernel) ⟨Nat.le_of_ble_eq_true rfl, Nat.le_of_ble_eq_true rfl⟩) rfl hl.1 rfl (Nat.le_of_ble_eq_true rfl) dX7_line_46 ⟨Nat.zero_le _, Nat.zero_le _⟩ (fun H locs hw => ?_)
        refine lv_if_ne (tgt := 54) hx hb dX7_line_49 (by decide) (fun c_15 => ?_) (fun c_15 => ?_)
        · replace hf := if_f c_15 hf
          refine lv_aload hx hb dX7_line_54 (lv_at hl 0 rfl) ?_
          refine lv_aload_n hx hb dX7_line_56 rfl (lv_at hl 1 rfl) ?_
          refine va_get (D := G.1) (ci := 7) (v := .ref (a 2)) (C := RX7) (T := TX7) (N := 6) hx hb hts hin7 hown hG.1 hw.1 0 rfl rfl 1 (by decide) (hts (.fieldLink RX7 19 "DutyDesk" "statutes" "LDutyDesk$Statutes;") (List.mem_of_getElem? (i := 2) rfl)) (fun _ h9 => h9) rfl dX7_line_57 ?_
          refine lv_aload hx hb dX7_line_60 (lv_at hl 0 rfl) ?_
          refine va_getN (D := G.1) (ci := 0) (v := .int (gC S r_9 0)) (C := RX0) (T := TX0) (N := 15) (host := "DutyDesk") hx hb hts hin0 hown hG.1 hw.1 (45 + r_9) (xw_atC hc_10) rfl 0 (by decide) (va_Nw.use rfl (hG.2.1 (.fieldLinkNest "DutyDesk" 205 "DutyDesk$Call" "day" "I" "DutyDesk") (List.mem_of_getElem? (i := 24) rfl))) (fun _ h9 => h9) rfl dX7_line_62 ?_
          refine lv_iload_n hx hb dX7_line_65 rfl (lv_at hl 3 rfl) ?_
          obtain ⟨r_17, h_16, hf⟩ := bind_of hf
          refine cVN (As := [.int (gC S r_9 0), .int p2]) (rest := [.ref (a (50 + r_9))]) ⟨hx, hb, hml, hown, hts⟩ hG hA hw (c_X6_textKnown G l a ha R S (gC S r_9 0) p2 r_17 h_16) ⟨va_cnB 2 hts gX7_line_X6_textKnown_n223 rfl rfl rfl (hG.2.1 (.methodLinkNest "DutyDesk" 223 yX6_textKnown "DutyDesk") (List.mem_of_getElem? (i := 102) rfl)) (hts (.initialized RX6) (List.mem_of_getElem? (i := 12) rfl)) (by decide +kernel) ⟨Nat.le_of_ble_eq_true rfl, Nat.le_of_ble_eq_true rfl⟩, hts (.instanceMethod yX6_textKnown) (List.mem_of_getElem? (i := 21) rfl), hts (.selects RX6 yX6_textKnown yX6_textKnown) (List.mem_of_getElem? (i := 22) rfl)⟩ (va_recv hG.1 hw.1 (ci := 6) (q0 := 2) rfl rfl) rfl hl.1 rfl (Nat.le_of_ble_eq_true rfl) dX7_line_66 ⟨Nat.zero_le _, Nat.zero_le _⟩ (fun H locs hw => ?_)
          obtain ⟨ht_18, hf⟩ := gk_of hf
          refine lv_iload_n hx hb dX7_line_69 rfl (lv_at hl 4 rfl) ?_
          obtain ⟨r_20, h_19, hf⟩ := bind_of hf
          refine cVN (As := [.ref (a r_17), .int p3]) (rest := []) ⟨hx, hb, hml, hown, hts⟩ hG hA hw (c_X0_lineDue G l a ha R S r_9 r_17 p3 r_20 h_19) ⟨va_cnB 2 hts gX7_line_X0_lineDue_n231 rfl rfl rfl (hG.2.1 (.methodLinkNest "DutyDesk" 231 yX0_lineDue "DutyDesk") (List.mem_of_getElem? (i := 104) rfl)) (hts (.initialized RX0) (List.mem_of_getElem? (i := 34) rfl)) (by decide +kernel) ⟨Nat.le_of_ble_eq_true rfl, Nat.le_of_ble_eq_true rfl⟩, hts (.instanceMethod yX0_lineDue) (List.mem_of_getElem? (i := 33) rfl), hts (.selects RX0 yX0_lineDue yX0_lineDue) (List.mem_of_getElem? (i := 35) rfl)⟩ (va_recv hG.1 hw.1 (ci := 0) (q0 := 45 + r_9) rfl (xw_atC hc_10)) rfl hl.1 rfl (Nat.le_of_ble_eq_true rfl) dX7_line_70 ⟨Nat.zero_le _, Nat.zero_le _⟩ (fun H locs hw => ?_)
          have e_21 := Option.some.inj hf
          subst e_21
          exact wd_iret hx hb hr hlocks hw dX7_line_73
        · replace hf := if_t c_15 hf
          refine lv_iconst (v := (-1)) hx hb dX7_line_52 (by decide) ?_
          have e_22 := Option.some.inj hf
          subst e_22
          exact wd_iret hx hb hr hlocks hw dX7_line_53
    · replace hf := if_t c_7 hf
      refine lv_bipush (v := (-2)) hx hb dX7_line_22 (by decide) ?_
      have e_23 := Option.some.inj hf
      subst e_23
      exact wd_iret hx hb hr hlocks hw dX7_line_24
/-! DutyDesk.pay(I)I -/
def rm_X7_pay : Room := { frames := 4, cells := 0, slots := 0, locals := 87 }
def f_X7_pay (S : St) (p1 : Int32) : Option (Int32 × St) :=
  (f_X1_has S p1).bind (fun r_2 => (if r_2 = 0 then
    some (((-2), S))
  else
    (f_X1_get S p1).bind (fun r_5 => gn r_5 (nC S) ((if (gC S r_5 6) = 1 then
    bnd (gC S r_5 14) fun x_8 => (f_X6_textNow S (gC S r_5 0)).bind (fun r_10 => gk r_10 ((f_X0_sumDue S r_5 r_10).bind (fun r_13 => bnd (sC S r_5 14 r_13) fun S_14 => some (((gC S_14 r_5 14) - x_8, S_14)))))
  else
    some (((-4), S)))))))
set_option maxHeartbeats 4000000 in
set_option maxRecDepth 100000 in
theorem c_X7_pay (G : GP) (l : Launch) (a : Nat → Nat) (ha : a 45 = G.2.2.1) (R : va_W) (S : St) (p1 : Int32) (r0 : Int32) (S9 : St) (hf : f_X7_pay S p1 = some (r0, S9)) : MC G l yX7_pay wsX7_pay rm_X7_pay [.ref (a 0), .int p1] (xw G.2.1 a R S) (xw G.2.1 a R S9) (some (.int r0)) 0 0 := by
  refine MC.mk (cc := cX7_pay) (maxL := 4) (ret := (some .int)) (by decide) rfl (Nat.le_of_ble_eq_true rfl) ?_
  intro p e s m below meth c A ls ⟨hx, hb, hr, hml, hown, hlocks, _, hts⟩ hw hG hA hl
  have hl : lv_has ls 4 [(0, .ref (a 0)), (1, .int p1)] := hl
  have hin0 : ∀ w ∈ u_ws RX0 TX0 15, w ∈ wsX7_pay := by decide +kernel
  have hin7 : ∀ w ∈ u_ws RX7 TX7 6, w ∈ wsX7_pay := by decide +kernel
  rw [f_X7_pay] at hf
  refine lv_aload_n hx hb dX7_pay_0 rfl (lv_at hl 0 rfl) ?_
  refine va_get (D := G.1) (ci := 7) (v := .ref (a 6)) (C := RX7) (T := TX7) (N := 6) hx hb hts hin7 hown hG.1 hw.1 0 rfl rfl 5 (by decide) (hts (.fieldLink RX7 53 "DutyDesk" "calls" "LDutyDesk$Calls;") (List.mem_of_getElem? (i := 1) rfl)) (fun _ h9 => h9) rfl dX7_pay_1 ?_
  refine lv_iload_n hx hb dX7_pay_4 rfl (lv_at hl 1 rfl) ?_
  obtain ⟨r_2, h_1, hf⟩ := bind_of hf
  refine cVN (As := [.int p1]) (rest := []) ⟨hx, hb, hml, hown, hts⟩ hG hA hw (c_X1_has G l a ha R S p1 r_2 h_1) ⟨va_cnB 1 hts gX7_pay_X1_has_n182 rfl rfl rfl (hG.2.1 (.methodLinkNest "DutyDesk" 182 yX1_has "DutyDesk") (List.mem_of_getElem? (i := 95) rfl)) (hts (.initialized RX1) (List.mem_of_getElem? (i := 4) rfl)) (by decide +kernel) ⟨Nat.le_of_ble_eq_true rfl, Nat.le_of_ble_eq_true rfl⟩, hts (.instanceMethod yX1_has) (List.mem_of_getElem? (i := 3) rfl), hts (.selects RX1 yX1_has yX1_has) (List.mem_of_getElem? (i := 5) rfl)⟩ (va_recv hG.1 hw.1 (ci := 1) (q0 := 6) rfl rfl) rfl hl.1 rfl (Nat.le_of_ble_eq_true rfl) dX7_pay_5 ⟨Nat.zero_le _, Nat.zero_le _⟩ (fun H locs hw => ?_)
  refine lv_if_ne (tgt := 14) hx hb dX7_pay_8 (by decide) (fun c_3 => ?_) (fun c_3 => ?_)
  · replace hf := if_f c_3 hf
    refine lv_aload_n hx hb dX7_pay_14 rfl (lv_at hl 0 rfl) ?_
    refine va_get (D := G.1) (ci := 7) (v := .ref (a 6)) (C := RX7) (T := TX7) (N := 6) hx hb hts hin7 hown hG.1 hw.1 0 rfl rfl 5 (by decide) (hts (.fieldLink RX7 53 "DutyDesk" "calls" "LDutyDesk$Calls;") (List.mem_of_getElem? (i := 1) rfl)) (fun _ h9 => h9) rfl dX7_pay_15 ?_
    refine lv_iload_n hx hb dX7_pay_18 rfl (lv_at hl 1 rfl) ?_
    obtain ⟨r_5, h_4, hf⟩ := bind_of hf
    refine cVN (As := [.int p1]) (rest := []) ⟨hx, hb, hml, hown, hts⟩ hG hA hw (c_X1_get G l a ha R S p1 r_5 h_4) ⟨va_cnB 1 hts gX7_pay_X1_get_n183 rfl rfl rfl (hG.2.1 (.methodLinkNest "DutyDesk" 183 yX1_get "DutyDesk") (List.mem_of_getElem? (i := 97) rfl)) (hts (.initialized RX1) (List.mem_of_getElem? (i := 4) rfl)) (by decide +kernel) ⟨Nat.le_of_ble_eq_true rfl, Nat.le_of_ble_eq_true rfl⟩, hts (.instanceMethod yX1_get) (List.mem_of_getElem? (i := 11) rfl), hts (.selects RX1 yX1_get yX1_get) (List.mem_of_getElem? (i := 12) rfl)⟩ (va_recv hG.1 hw.1 (ci := 1) (q0 := 6) rfl rfl) rfl hl.1 rfl (Nat.le_of_ble_eq_true rfl) dX7_pay_19 ⟨Nat.zero_le _, Nat.zero_le _⟩ (fun H locs hw => ?_)
    obtain ⟨hc_6, hf⟩ := gn_of hf
    refine lv_astore_n (lv' := [(2, .ref (a (50 + r_5))), (0, .ref (a 0)), (1, .int p1)]) hx hb dX7_pay_22 rfl hl (by decide) rfl (fun ls hl => ?_)
    refine lv_aload_n hx hb dX7_pay_23 rfl (lv_at hl 0 rfl) ?_
    refine va_getN (D := G.1) (ci := 0) (v := .int (gC S r_5 6)) (C := RX0) (T := TX0) (N := 15) (host := "DutyDesk") hx hb hts hin0 hown hG.1 hw.1 (45 + r_5) (xw_atC hc_6) rfl 6 (by decide) (va_Nw.use rfl (hG.2.1 (.fieldLinkNest "DutyDesk" 190 "DutyDesk$Call" "state" "I" "DutyDesk") (List.mem_of_getElem? (i := 31) rfl))) (fun _ h9 => h9) rfl dX7_pay_24 ?_
    refine lv_iconst (v := 1) hx hb dX7_pay_27 (by decide) ?_
    refine lv_icmp_eq (tgt := 34) hx hb dX7_pay_28 (by decide) (fun c_7 => ?_) (fun c_7 => ?_)
    · replace hf := if_t c_7 hf
      refine lv_aload_n hx hb dX7_pay_34 rfl (lv_at hl 0 rfl) ?_
      refine va_getN (D := G.1) (ci := 0) (v := .int (gC S r_5 14)) (C := RX0) (T := TX0) (N := 15) (host := "DutyDesk") hx hb hts hin0 hown hG.1 hw.1 (45 + r_5) (xw_atC hc_6) rfl 14 (by decide) (va_Nw.use rfl (hG.2.1 (.fieldLinkNest "DutyDesk" 234 "DutyDesk$Call" "settled" "I" "DutyDesk") (List.mem_of_getElem? (i := 45) rfl))) (fun _ h9 => h9) rfl dX7_pay_35 ?_
      refine lv_topi (fun x_8 ex_8 => ?_)
      replace hf := bnd_of ex_8 hf
      refine lv_istore_n (lv' := [(3, .int x_8), (2, .ref (a (50 + r_5))), (0, .ref (a 0)), (1, .int p1)]) hx hb dX7_pay_38 rfl hl (by decide) rfl (fun ls hl => ?_)
      refine lv_aload_n hx hb dX7_pay_39 rfl (lv_at hl 1 rfl) ?_
      refine lv_aload_n hx hb dX7_pay_40 rfl (lv_at hl 1 rfl) ?_
      refine lv_aload_n hx hb dX7_pay_41 rfl (lv_at hl 2 rfl) ?_
      refine va_get (D := G.1) (ci := 7) (v := .ref (a 2)) (C := RX7) (T := TX7) (N := 6) hx hb hts hin7 hown hG.1 hw.1 0 rfl rfl 1 (by decide) (hts (.fieldLink RX7 19 "DutyDesk" "statutes" "LDutyDesk$Statutes;") (List.mem_of_getElem? (i := 2) rfl)) (fun _ h9 => h9) rfl dX7_pay_42 ?_
      refine lv_aload_n hx hb dX7_pay_45 rfl (lv_at hl 1 rfl) ?_
      refine va_getN (D := G.1) (ci := 0) (v := .int (gC S r_5 0)) (C := RX0) (T := TX0) (N := 15) (host := "DutyDesk") hx hb hts hin0 hown hG.1 hw.1 (45 + r_5) (xw_atC hc_6) rfl 0 (by decide) (va_Nw.use rfl (hG.2.1 (.fieldLinkNest "DutyDesk" 205 "DutyDesk$Call" "day" "I" "DutyDesk") (List.mem_of_getElem? (i := 24) rfl))) (fun _ h9 => h9) rfl dX7_pay_46 ?_
      obtain ⟨r_10, h_9, hf⟩ := bind_of hf
      refine cVN (As := [.int (gC S r_5 0)]) (rest := [.ref (a (50 + r_5)), .ref (a (50 + r_5))]) ⟨hx, hb, hml, hown, hts⟩ hG hA hw (c_X6_textNow G l a ha R S (gC S r_5 0) r_10 h_9) ⟨va_cnB 1 hts gX7_pay_X6_textNow_n208 rfl rfl rfl (hG.2.1 (.methodLinkNest "DutyDesk" 208 yX6_textNow "DutyDesk") (List.mem_of_getElem? (i := 99) rfl)) (hts (.initialized RX6) (List.mem_of_getElem? (i := 16) rfl)) (by decide +kernel) ⟨Nat.le_of_ble_eq_true rfl, Nat.le_of_ble_eq_true rfl⟩, hts (.instanceMethod yX6_textNow) (List.mem_of_getElem? (i := 15) rfl), hts (.selects RX6 yX6_textNow yX6_textNow) (List.mem_of_getElem? (i := 17) rfl)⟩ (va_recv hG.1 hw.1 (ci := 6) (q0 := 2) rfl rfl) rfl hl.1 rfl (Nat.le_of_ble_eq_true rfl) dX7_pay_49 ⟨Nat.zero_le _, Nat.zero_le _⟩ (fun H locs hw => ?_)
      obtain ⟨ht_11, hf⟩ := gk_of hf
      obtain ⟨r_13, h_12, hf⟩ := bind_of hf
      refine cVN (As := [.ref (a r_10)]) (rest := [.ref (a (50 + r_5))]) ⟨hx, hb, hml, hown, hts⟩ hG hA hw (c_X0_sumDue G l a ha R S r_5 r_10 r_13 h_12) ⟨va_cnB 1 hts gX7_pay_X0_sumDue_n227 rfl rfl rfl (hG.2.1 (.methodLinkNest "DutyDesk" 227 yX0_sumDue "DutyDesk") (List.mem_of_getElem? (i := 103) rfl)) (hts (.initialized RX0) (List.mem_of_getElem? (i := 30) rfl)) (by decide +kernel) ⟨Nat.le_of_ble_eq_true rfl, Nat.le_of_ble_eq_true rfl⟩, hts (.instanceMethod yX0_sumDue) (List.mem_of_getElem? (i := 29) rfl), hts (.selects RX0 yX0_sumDue yX0_sumDue) (List.mem_of_getElem? (i := 31) rfl)⟩ (va_recv hG.1 hw.1 (ci := 0) (q0 := 45 + r_5) rfl (xw_atC hc_6)) rfl hl.1 rfl (Nat.le_of_ble_eq_true rfl) dX7_pay_52 ⟨Nat.zero_le _, Nat.zero_le _⟩ (fun H locs hw => ?_)
      refine va_putN (D := G.1) (ci := 0) (v := .int r_13) (ty := .int) (C := RX0) (T := TX0) (N := 15) (host := "DutyDesk") hx hb hts hin0 tyX0 tyX0_ok nmX0 hown hG.1 hw.1 hw.2.1 hw.2.2 (45 + r_5) (xw_atC hc_6) rfl 14 (by decide) (va_Nw.use rfl (hG.2.1 (.fieldLinkNest "DutyDesk" 234 "DutyDesk$Call" "settled" "I" "DutyDesk") (List.mem_of_getElem? (i := 45) rfl))) (fun _ h9 => h9) rfl (by decide +kernel) rfl rfl (Nat.le_of_ble_eq_true rfl) dX7_pay_55 (fun H locs hP hD hS => ?_)
      obtain ⟨S_14, eS_14⟩ : ∃ z : St, z = sC S r_5 14 r_13 := ⟨_, rfl⟩
      replace hf := bnd_of eS_14 hf
      have hw : Wd G A s H locs (xw G.2.1 a R S_14) := wd_eq (by rw [eS_14]; exact xw_upC hc_6 14 (by decide) _) hP hD hS
      have hc_15 : r_5 < nC S_14 := by rw [eS_14]; exact hc_6
      refine lv_aload_n hx hb dX7_pay_58 rfl (lv_at hl 1 rfl) ?_
      refine va_getN (D := G.1) (ci := 0) (v := .int (gC S_14 r_5 14)) (C := RX0) (T := TX0) (N := 15) (host := "DutyDesk") hx hb hts hin0 hown hG.1 hw.1 (45 + r_5) (xw_atC hc_15) rfl 14 (by decide) (va_Nw.use rfl (hG.2.1 (.fieldLinkNest "DutyDesk" 234 "DutyDesk$Call" "settled" "I" "DutyDesk") (List.mem_of_getElem? (i := 45) rfl))) (fun _ h9 => h9) rfl dX7_pay_59 ?_
      refine lv_iload_n hx hb dX7_pay_62 rfl (lv_at hl 0 rfl) ?_
      refine lv_isub hx hb dX7_pay_63 ?_
      have e_16 := Option.some.inj hf
      obtain ⟨rfl, rfl⟩ := Prod.mk.inj e_16
      exact wd_iret hx hb hr hlocks hw dX7_pay_64
    · replace hf := if_f c_7 hf
      refine lv_bipush (v := (-4)) hx hb dX7_pay_31 (by decide) ?_
      have e_17 := Option.some.inj hf
      obtain ⟨rfl, rfl⟩ := Prod.mk.inj e_17
      exact wd_iret hx hb hr hlocks hw dX7_pay_33
  · replace hf := if_t c_3 hf
    refine lv_bipush (v := (-2)) hx hb dX7_pay_11 (by decide) ?_
    have e_18 := Option.some.inj hf
    obtain ⟨rfl, rfl⟩ := Prod.mk.inj e_18
    exact wd_iret hx hb hr hlocks hw dX7_pay_13
/-! DutyDesk.paid(I)I -/
def rm_X7_paid : Room := { frames := 2, cells := 0, slots := 0, locals := 42 }
def f_X7_paid (S : St) (p1 : Int32) : Option (Int32) :=
  (f_X3_has S p1).bind (fun r_2 => (if r_2 = 0 then
    some ((-2))
  else
    (f_X1_settledFor S p1).bind (fun r_6 => some (r_6))))
set_option maxHeartbeats 4000000 in
set_option maxRecDepth 100000 in
theorem c_X7_paid (G : GP) (l : Launch) (a : Nat → Nat) (ha : a 45 = G.2.2.1) (R : va_W) (S : St) (p1 : Int32) (r0 : Int32) (hf : f_X7_paid S p1 = some r0) : MC G l yX7_paid wsX7_paid rm_X7_paid [.ref (a 0), .int p1] (xw G.2.1 a R S) (xw G.2.1 a R S) (some (.int r0)) 0 0 := by
  refine MC.mk (cc := cX7_paid) (maxL := 2) (ret := (some .int)) (by decide) rfl (Nat.le_of_ble_eq_true rfl) ?_
  intro p e s m below meth c A ls ⟨hx, hb, hr, hml, hown, hlocks, _, hts⟩ hw hG hA hl
  have hl : lv_has ls 2 [(0, .ref (a 0)), (1, .int p1)] := hl
  have hin7 : ∀ w ∈ u_ws RX7 TX7 6, w ∈ wsX7_paid := by decide +kernel
  rw [f_X7_paid] at hf
  refine lv_aload_n hx hb dX7_paid_0 rfl (lv_at hl 0 rfl) ?_
  refine va_get (D := G.1) (ci := 7) (v := .ref (a 3)) (C := RX7) (T := TX7) (N := 6) hx hb hts hin7 hown hG.1 hw.1 0 rfl rfl 2 (by decide) (hts (.fieldLink RX7 26 "DutyDesk" "people" "LDutyDesk$People;") (List.mem_of_getElem? (i := 1) rfl)) (fun _ h9 => h9) rfl dX7_paid_1 ?_
  refine lv_iload_n hx hb dX7_paid_4 rfl (lv_at hl 1 rfl) ?_
  obtain ⟨r_2, h_1, hf⟩ := bind_of hf
  refine cVN (As := [.int p1]) (rest := []) ⟨hx, hb, hml, hown, hts⟩ hG hA hw (c_X3_has G l a ha R S p1 r_2 h_1) ⟨va_cnB 1 hts gX7_paid_X3_has_n76 rfl rfl rfl (hG.2.1 (.methodLinkNest "DutyDesk" 76 yX3_has "DutyDesk") (List.mem_of_getElem? (i := 54) rfl)) (hts (.initialized RX3) (List.mem_of_getElem? (i := 4) rfl)) (by decide +kernel) ⟨Nat.le_of_ble_eq_true rfl, Nat.le_of_ble_eq_true rfl⟩, hts (.instanceMethod yX3_has) (List.mem_of_getElem? (i := 3) rfl), hts (.selects RX3 yX3_has yX3_has) (List.mem_of_getElem? (i := 5) rfl)⟩ (va_recv hG.1 hw.1 (ci := 3) (q0 := 3) rfl rfl) rfl hl.1 rfl (Nat.le_of_ble_eq_true rfl) dX7_paid_5 ⟨Nat.zero_le _, Nat.zero_le _⟩ (fun H locs hw => ?_)
  refine lv_if_eq (tgt := 22) hx hb dX7_paid_8 (by decide) (fun c_3 => ?_) (fun c_3 => ?_)
  · replace hf := if_t c_3 hf
    refine lv_bipush (v := (-2)) hx hb dX7_paid_22 (by decide) ?_
    have e_4 := Option.some.inj hf
    subst e_4
    exact wd_iret hx hb hr hlocks hw dX7_paid_24
  · replace hf := if_f c_3 hf
    refine lv_aload_n hx hb dX7_paid_11 rfl (lv_at hl 0 rfl) ?_
    refine va_get (D := G.1) (ci := 7) (v := .ref (a 6)) (C := RX7) (T := TX7) (N := 6) hx hb hts hin7 hown hG.1 hw.1 0 rfl rfl 5 (by decide) (hts (.fieldLink RX7 53 "DutyDesk" "calls" "LDutyDesk$Calls;") (List.mem_of_getElem? (i := 2) rfl)) (fun _ h9 => h9) rfl dX7_paid_12 ?_
    refine lv_iload_n hx hb dX7_paid_15 rfl (lv_at hl 1 rfl) ?_
    obtain ⟨r_6, h_5, hf⟩ := bind_of hf
    refine cVN (As := [.int p1]) (rest := []) ⟨hx, hb, hml, hown, hts⟩ hG hA hw (c_X1_settledFor G l a ha R S p1 r_6 h_5) ⟨va_cnB 1 hts gX7_paid_X1_settledFor_n237 rfl rfl rfl (hG.2.1 (.methodLinkNest "DutyDesk" 237 yX1_settledFor "DutyDesk") (List.mem_of_getElem? (i := 105) rfl)) (hts (.initialized RX1) (List.mem_of_getElem? (i := 12) rfl)) (by decide +kernel) ⟨Nat.le_of_ble_eq_true rfl, Nat.le_of_ble_eq_true rfl⟩, hts (.instanceMethod yX1_settledFor) (List.mem_of_getElem? (i := 11) rfl), hts (.selects RX1 yX1_settledFor yX1_settledFor) (List.mem_of_getElem? (i := 13) rfl)⟩ (va_recv hG.1 hw.1 (ci := 1) (q0 := 6) rfl rfl) rfl hl.1 rfl (Nat.le_of_ble_eq_true rfl) dX7_paid_16 ⟨Nat.zero_le _, Nat.zero_le _⟩ (fun H locs hw => ?_)
    refine lv_goto (tgt := 24) hx hb dX7_paid_19 (by decide) ?_
    have e_7 := Option.some.inj hf
    subst e_7
    exact wd_iret hx hb hr hlocks hw dX7_paid_24
/-! DutyDesk.count(I)I -/
def rm_X7_count : Room := { frames := 1, cells := 0, slots := 0, locals := 23 }
def f_X7_count (S : St) (p1 : Int32) : Option (Int32) :=
  (if p1 = 0 then
    some ((gI S 11))
  else
    (if p1 = 1 then
    some ((gI S 10))
  else
    (if p1 = 2 then
    some ((gI S 12))
  else
    (if p1 = 3 then
    (f_X2_allDuties S).bind (fun r_9 => some (r_9))
  else
    (if p1 = 4 then
    some ((gI S 0))
  else
    (if p1 = 5 then
    (f_X1_inState S 0).bind (fun r_15 => some (r_15))
  else
    (if p1 = 6 then
    (f_X1_inState S 1).bind (fun r_19 => some (r_19))
  else
    (if p1 = 7 then
    (f_X1_inState S 2).bind (fun r_23 => some (r_23))
  else
    some ((-1))))))))))
set_option maxHeartbeats 4000000 in
set_option maxRecDepth 100000 in
theorem c_X7_count (G : GP) (l : Launch) (a : Nat → Nat) (ha : a 45 = G.2.2.1) (R : va_W) (S : St) (p1 : Int32) (r0 : Int32) (hf : f_X7_count S p1 = some r0) : MC G l yX7_count wsX7_count rm_X7_count [.ref (a 0), .int p1] (xw G.2.1 a R S) (xw G.2.1 a R S) (some (.int r0)) 0 0 := by
  refine MC.mk (cc := cX7_count) (maxL := 2) (ret := (some .int)) (by decide) rfl (Nat.le_of_ble_eq_true rfl) ?_
  intro p e s m below meth c A ls ⟨hx, hb, hr, hml, hown, hlocks, _, hts⟩ hw hG hA hl
  have hl : lv_has ls 2 [(0, .ref (a 0)), (1, .int p1)] := hl
  have hin1 : ∀ w ∈ u_ws RX1 TX1 7, w ∈ wsX7_count := by decide +kernel
  have hin3 : ∀ w ∈ u_ws RX3 TX3 8, w ∈ wsX7_count := by decide +kernel
  have hin5 : ∀ w ∈ u_ws RX5 TX5 12, w ∈ wsX7_count := by decide +kernel
  have hin6 : ∀ w ∈ u_ws RX6 TX6 2, w ∈ wsX7_count := by decide +kernel
  have hin7 : ∀ w ∈ u_ws RX7 TX7 6, w ∈ wsX7_count := by decide +kernel
  rw [f_X7_count] at hf
  refine lv_iload_n hx hb dX7_count_0 rfl (lv_at hl 1 rfl) ?_
  by_cases c_1 : p1 = 0
  · replace hf := if_t c_1 hf
    refine lv_tableIn (off := 47) (tgt := 48) hx hb dX7_count_1 (by rw [c_1]; decide) (by rw [c_1]; decide) (by rw [c_1]; rfl) (by decide) ?_
    refine lv_aload_n hx hb dX7_count_48 rfl (lv_at hl 0 rfl) ?_
    refine va_get (D := G.1) (ci := 7) (v := .ref (a 3)) (C := RX7) (T := TX7) (N := 6) hx hb hts hin7 hown hG.1 hw.1 0 rfl rfl 2 (by decide) (hts (.fieldLink RX7 26 "DutyDesk" "people" "LDutyDesk$People;") (List.mem_of_getElem? (i := 1) rfl)) (fun _ h9 => h9) rfl dX7_count_49 ?_
    refine va_getN (D := G.1) (ci := 3) (v := .int (gI S 11)) (C := RX3) (T := TX3) (N := 8) (host := "DutyDesk") hx hb hts hin3 hown hG.1 hw.1 3 rfl rfl 7 (by decide) (va_Nw.use rfl (hG.2.1 (.fieldLinkNest "DutyDesk" 69 "DutyDesk$People" "size" "I" "DutyDesk") (List.mem_of_getElem? (i := 13) rfl))) (fun _ h9 => h9) rfl dX7_count_52 ?_
    have e_2 := Option.some.inj hf
    subst e_2
    exact wd_iret hx hb hr hlocks hw dX7_count_55
  · replace hf := if_f c_1 hf
    by_cases c_3 : p1 = 1
    · replace hf := if_t c_3 hf
      refine lv_tableIn (off := 55) (tgt := 56) hx hb dX7_count_1 (by rw [c_3]; decide) (by rw [c_3]; decide) (by rw [c_3]; rfl) (by decide) ?_
      refine lv_aload_n hx hb dX7_count_56 rfl (lv_at hl 0 rfl) ?_
      refine va_get (D := G.1) (ci := 7) (v := .ref (a 2)) (C := RX7) (T := TX7) (N := 6) hx hb hts hin7 hown hG.1 hw.1 0 rfl rfl 1 (by decide) (hts (.fieldLink RX7 19 "DutyDesk" "statutes" "LDutyDesk$Statutes;") (List.mem_of_getElem? (i := 2) rfl)) (fun _ h9 => h9) rfl dX7_count_57 ?_
      refine va_getN (D := G.1) (ci := 6) (v := .int (gI S 10)) (C := RX6) (T := TX6) (N := 2) (host := "DutyDesk") hx hb hts hin6 hown hG.1 hw.1 2 rfl rfl 1 (by decide) (va_Nw.use rfl (hG.2.1 (.fieldLinkNest "DutyDesk" 124 "DutyDesk$Statutes" "size" "I" "DutyDesk") (List.mem_of_getElem? (i := 4) rfl))) (fun _ h9 => h9) rfl dX7_count_60 ?_
      have e_4 := Option.some.inj hf
      subst e_4
      exact wd_iret hx hb hr hlocks hw dX7_count_63
    · replace hf := if_f c_3 hf
      by_cases c_5 : p1 = 2
      · replace hf := if_t c_5 hf
        refine lv_tableIn (off := 63) (tgt := 64) hx hb dX7_count_1 (by rw [c_5]; decide) (by rw [c_5]; decide) (by rw [c_5]; rfl) (by decide) ?_
        refine lv_aload_n hx hb dX7_count_64 rfl (lv_at hl 0 rfl) ?_
        refine va_get (D := G.1) (ci := 7) (v := .ref (a 6)) (C := RX7) (T := TX7) (N := 6) hx hb hts hin7 hown hG.1 hw.1 0 rfl rfl 5 (by decide) (hts (.fieldLink RX7 53 "DutyDesk" "calls" "LDutyDesk$Calls;") (List.mem_of_getElem? (i := 3) rfl)) (fun _ h9 => h9) rfl dX7_count_65 ?_
        refine va_getN (D := G.1) (ci := 1) (v := .int (gI S 12)) (C := RX1) (T := TX1) (N := 7) (host := "DutyDesk") hx hb hts hin1 hown hG.1 hw.1 6 rfl rfl 4 (by decide) (va_Nw.use rfl (hG.2.1 (.fieldLinkNest "DutyDesk" 169 "DutyDesk$Calls" "size" "I" "DutyDesk") (List.mem_of_getElem? (i := 18) rfl))) (fun _ h9 => h9) rfl dX7_count_68 ?_
        have e_6 := Option.some.inj hf
        subst e_6
        exact wd_iret hx hb hr hlocks hw dX7_count_71
      · replace hf := if_f c_5 hf
        by_cases c_7 : p1 = 3
        · replace hf := if_t c_7 hf
          refine lv_tableIn (off := 71) (tgt := 72) hx hb dX7_count_1 (by rw [c_7]; decide) (by rw [c_7]; decide) (by rw [c_7]; rfl) (by decide) ?_
          refine lv_aload_n hx hb dX7_count_72 rfl (lv_at hl 0 rfl) ?_
          refine va_get (D := G.1) (ci := 7) (v := .ref (a 4)) (C := RX7) (T := TX7) (N := 6) hx hb hts hin7 hown hG.1 hw.1 0 rfl rfl 3 (by decide) (hts (.fieldLink RX7 35 "DutyDesk" "nights" "LDutyDesk$Nights;") (List.mem_of_getElem? (i := 4) rfl)) (fun _ h9 => h9) rfl dX7_count_73 ?_
          obtain ⟨r_9, h_8, hf⟩ := bind_of hf
          refine cVN (As := []) (rest := []) ⟨hx, hb, hml, hown, hts⟩ hG hA hw (c_X2_allDuties G l a ha R S r_9 h_8) ⟨va_cnB 0 hts gX7_count_X2_allDuties_n240 rfl rfl rfl (hG.2.1 (.methodLinkNest "DutyDesk" 240 yX2_allDuties "DutyDesk") (List.mem_of_getElem? (i := 106) rfl)) (hts (.initialized RX2) (List.mem_of_getElem? (i := 7) rfl)) (by decide +kernel) ⟨Nat.le_of_ble_eq_true rfl, Nat.le_of_ble_eq_true rfl⟩, hts (.instanceMethod yX2_allDuties) (List.mem_of_getElem? (i := 6) rfl), hts (.selects RX2 yX2_allDuties yX2_allDuties) (List.mem_of_getElem? (i := 8) rfl)⟩ (va_recv hG.1 hw.1 (ci := 2) (q0 := 4) rfl rfl) rfl hl.1 rfl (Nat.le_of_ble_eq_true rfl) dX7_count_76 ⟨Nat.zero_le _, Nat.zero_le _⟩ (fun H locs hw => ?_)
          have e_10 := Option.some.inj hf
          subst e_10
          exact wd_iret hx hb hr hlocks hw dX7_count_79
        · replace hf := if_f c_7 hf
          by_cases c_11 : p1 = 4
          · replace hf := if_t c_11 hf
            refine lv_tableIn (off := 79) (tgt := 80) hx hb dX7_count_1 (by rw [c_11]; decide) (by rw [c_11]; decide) (by rw [c_11]; rfl) (by decide) ?_
            refine lv_aload_n hx hb dX7_count_80 rfl (lv_at hl 0 rfl) ?_
            refine va_get (D := G.1) (ci := 7) (v := .ref (a 1)) (C := RX7) (T := TX7) (N := 6) hx hb hts hin7 hown hG.1 hw.1 0 rfl rfl 0 (by decide) (hts (.fieldLink RX7 10 "DutyDesk" "reader" "LDutyDesk$Reader;") (List.mem_of_getElem? (i := 5) rfl)) (fun _ h9 => h9) rfl dX7_count_81 ?_
            refine va_getN (D := G.1) (ci := 5) (v := .int (gI S 0)) (C := RX5) (T := TX5) (N := 12) (host := "DutyDesk") hx hb hts hin5 hown hG.1 hw.1 1 rfl rfl 1 (by decide) (va_Nw.use rfl (hG.2.1 (.fieldLinkNest "DutyDesk" 57 "DutyDesk$Reader" "length" "I" "DutyDesk") (List.mem_of_getElem? (i := 0) rfl))) (fun _ h9 => h9) rfl dX7_count_84 ?_
            have e_12 := Option.some.inj hf
            subst e_12
            exact wd_iret hx hb hr hlocks hw dX7_count_87
          · replace hf := if_f c_11 hf
            by_cases c_13 : p1 = 5
            · replace hf := if_t c_13 hf
              refine lv_tableIn (off := 87) (tgt := 88) hx hb dX7_count_1 (by rw [c_13]; decide) (by rw [c_13]; decide) (by rw [c_13]; rfl) (by decide) ?_
              refine lv_aload_n hx hb dX7_count_88 rfl (lv_at hl 0 rfl) ?_
              refine va_get (D := G.1) (ci := 7) (v := .ref (a 6)) (C := RX7) (T := TX7) (N := 6) hx hb hts hin7 hown hG.1 hw.1 0 rfl rfl 5 (by decide) (hts (.fieldLink RX7 53 "DutyDesk" "calls" "LDutyDesk$Calls;") (List.mem_of_getElem? (i := 3) rfl)) (fun _ h9 => h9) rfl dX7_count_89 ?_
              refine lv_iconst (v := 0) hx hb dX7_count_92 (by decide) ?_
              obtain ⟨r_15, h_14, hf⟩ := bind_of hf
              refine cVN (As := [.int 0]) (rest := []) ⟨hx, hb, hml, hown, hts⟩ hG hA hw (c_X1_inState G l a ha R S 0 r_15 h_14) ⟨va_cnB 1 hts gX7_count_X1_inState_n243 rfl rfl rfl (hG.2.1 (.methodLinkNest "DutyDesk" 243 yX1_inState "DutyDesk") (List.mem_of_getElem? (i := 107) rfl)) (hts (.initialized RX1) (List.mem_of_getElem? (i := 13) rfl)) (by decide +kernel) ⟨Nat.le_of_ble_eq_true rfl, Nat.le_of_ble_eq_true rfl⟩, hts (.instanceMethod yX1_inState) (List.mem_of_getElem? (i := 12) rfl), hts (.selects RX1 yX1_inState yX1_inState) (List.mem_of_getElem? (i := 14) rfl)⟩ (va_recv hG.1 hw.1 (ci := 1) (q0 := 6) rfl rfl) rfl hl.1 rfl (Nat.le_of_ble_eq_true rfl) dX7_count_93 ⟨Nat.zero_le _, Nat.zero_le _⟩ (fun H locs hw => ?_)
              have e_16 := Option.some.inj hf
              subst e_16
              exact wd_iret hx hb hr hlocks hw dX7_count_96
            · replace hf := if_f c_13 hf
              by_cases c_17 : p1 = 6
              · replace hf := if_t c_17 hf
                refine lv_tableIn (off := 96) (tgt := 97) hx hb dX7_count_1 (by rw [c_17]; decide) (by rw [c_17]; decide) (by rw [c_17]; rfl) (by decide) ?_
                refine lv_aload_n hx hb dX7_count_97 rfl (lv_at hl 0 rfl) ?_
                refine va_get (D := G.1) (ci := 7) (v := .ref (a 6)) (C := RX7) (T := TX7) (N := 6) hx hb hts hin7 hown hG.1 hw.1 0 rfl rfl 5 (by decide) (hts (.fieldLink RX7 53 "DutyDesk" "calls" "LDutyDesk$Calls;") (List.mem_of_getElem? (i := 3) rfl)) (fun _ h9 => h9) rfl dX7_count_98 ?_
                refine lv_iconst (v := 1) hx hb dX7_count_101 (by decide) ?_
                obtain ⟨r_19, h_18, hf⟩ := bind_of hf
                refine cVN (As := [.int 1]) (rest := []) ⟨hx, hb, hml, hown, hts⟩ hG hA hw (c_X1_inState G l a ha R S 1 r_19 h_18) ⟨va_cnB 1 hts gX7_count_X1_inState_n243 rfl rfl rfl (hG.2.1 (.methodLinkNest "DutyDesk" 243 yX1_inState "DutyDesk") (List.mem_of_getElem? (i := 107) rfl)) (hts (.initialized RX1) (List.mem_of_getElem? (i := 13) rfl)) (by decide +kernel) ⟨Nat.le_of_ble_eq_true rfl, Nat.le_of_ble_eq_true rfl⟩, hts (.instanceMethod yX1_inState) (List.mem_of_getElem? (i := 12) rfl), hts (.selects RX1 yX1_inState yX1_inState) (List.mem_of_getElem? (i := 14) rfl)⟩ (va_recv hG.1 hw.1 (ci := 1) (q0 := 6) rfl rfl) rfl hl.1 rfl (Nat.le_of_ble_eq_true rfl) dX7_count_102 ⟨Nat.zero_le _, Nat.zero_le _⟩ (fun H locs hw => ?_)
                have e_20 := Option.some.inj hf
                subst e_20
                exact wd_iret hx hb hr hlocks hw dX7_count_105
              · replace hf := if_f c_17 hf
                by_cases c_21 : p1 = 7
                · replace hf := if_t c_21 hf
                  refine lv_tableIn (off := 105) (tgt := 106) hx hb dX7_count_1 (by rw [c_21]; decide) (by rw [c_21]; decide) (by rw [c_21]; rfl) (by decide) ?_
                  refine lv_aload_n hx hb dX7_count_106 rfl (lv_at hl 0 rfl) ?_
                  refine va_get (D := G.1) (ci := 7) (v := .ref (a 6)) (C := RX7) (T := TX7) (N := 6) hx hb hts hin7 hown hG.1 hw.1 0 rfl rfl 5 (by decide) (hts (.fieldLink RX7 53 "DutyDesk" "calls" "LDutyDesk$Calls;") (List.mem_of_getElem? (i := 3) rfl)) (fun _ h9 => h9) rfl dX7_count_107 ?_
                  refine lv_iconst (v := 2) hx hb dX7_count_110 (by decide) ?_
                  obtain ⟨r_23, h_22, hf⟩ := bind_of hf
                  refine cVN (As := [.int 2]) (rest := []) ⟨hx, hb, hml, hown, hts⟩ hG hA hw (c_X1_inState G l a ha R S 2 r_23 h_22) ⟨va_cnB 1 hts gX7_count_X1_inState_n243 rfl rfl rfl (hG.2.1 (.methodLinkNest "DutyDesk" 243 yX1_inState "DutyDesk") (List.mem_of_getElem? (i := 107) rfl)) (hts (.initialized RX1) (List.mem_of_getElem? (i := 13) rfl)) (by decide +kernel) ⟨Nat.le_of_ble_eq_true rfl, Nat.le_of_ble_eq_true rfl⟩, hts (.instanceMethod yX1_inState) (List.mem_of_getElem? (i := 12) rfl), hts (.selects RX1 yX1_inState yX1_inState) (List.mem_of_getElem? (i := 14) rfl)⟩ (va_recv hG.1 hw.1 (ci := 1) (q0 := 6) rfl rfl) rfl hl.1 rfl (Nat.le_of_ble_eq_true rfl) dX7_count_111 ⟨Nat.zero_le _, Nat.zero_le _⟩ (fun H locs hw => ?_)
                  have e_24 := Option.some.inj hf
                  subst e_24
                  exact wd_iret hx hb hr hlocks hw dX7_count_114
                · replace hf := if_f c_21 hf
                  have nc_1 := lv_neT c_1 (show Int32.toInt 0 = 0 from rfl)
                  have nc_3 := lv_neT c_3 (show Int32.toInt 1 = 1 from rfl)
                  have nc_5 := lv_neT c_5 (show Int32.toInt 2 = 2 from rfl)
                  have nc_7 := lv_neT c_7 (show Int32.toInt 3 = 3 from rfl)
                  have nc_11 := lv_neT c_11 (show Int32.toInt 4 = 4 from rfl)
                  have nc_13 := lv_neT c_13 (show Int32.toInt 5 = 5 from rfl)
                  have nc_17 := lv_neT c_17 (show Int32.toInt 6 = 6 from rfl)
                  have nc_21 := lv_neT c_21 (show Int32.toInt 7 = 7 from rfl)
                  refine lv_tableOut (tgt := 115) hx hb dX7_count_1 (by omega) (by decide) ?_
                  refine lv_iconst (v := (-1)) hx hb dX7_count_115 (by decide) ?_
                  have e_25 := Option.some.inj hf
                  subst e_25
                  exact wd_iret hx hb hr hlocks hw dX7_count_116
