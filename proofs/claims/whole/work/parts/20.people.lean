/-! DutyDesk.isBelow(II)Z -/
def rm_X7_isBelow : Room := { frames := 0, cells := 0, slots := 0, locals := 0 }
def f_X7_isBelow (p1 : Int32) (p2 : Int32) : Option (Int32) :=
  (if p1 < 0 then
    some (0)
  else
    (if p2 ≤ p1 then
    some (0)
  else
    some (1)))
set_option maxHeartbeats 4000000 in
set_option maxRecDepth 100000 in
theorem c_X7_isBelow (G : GP) (l : Launch) (W0 : va_W) (p1 : Int32) (p2 : Int32) (r0 : Int32) (hf : f_X7_isBelow p1 p2 = some r0) : MC G l yX7_isBelow wsX7_isBelow rm_X7_isBelow [.int p1, .int p2] (W0) (W0) (some (.int r0)) 0 0 := by
  refine MC.mk (cc := cX7_isBelow) (maxL := 2) (ret := (some .boolean)) (by decide) rfl (Nat.le_of_ble_eq_true rfl) ?_
  intro p e s m below meth c A ls ⟨hx, hb, hr, hml, hown, hlocks, _, hts⟩ hw hG hA hl
  have hl : lv_has ls 2 [(0, .int p1), (1, .int p2)] := hl
  rw [f_X7_isBelow] at hf
  refine lv_iload_n hx hb dX7_isBelow_0 rfl (lv_at hl 0 rfl) ?_
  refine lv_if_lt (tgt := 13) hx hb dX7_isBelow_1 (by decide) (fun c_1 => ?_) (fun c_1 => ?_)
  · replace hf := if_t c_1 hf
    refine lv_iconst (v := 0) hx hb dX7_isBelow_13 (by decide) ?_
    have e_2 := Option.some.inj hf
    subst e_2
    exact wd_zret hx hb hr rfl hlocks hw dX7_isBelow_14
  · replace hf := if_f c_1 hf
    refine lv_iload_n hx hb dX7_isBelow_4 rfl (lv_at hl 0 rfl) ?_
    refine lv_iload_n hx hb dX7_isBelow_5 rfl (lv_at hl 1 rfl) ?_
    refine lv_icmp_ge (tgt := 13) hx hb dX7_isBelow_6 (by decide) (fun c_3 => ?_) (fun c_3 => ?_)
    · replace hf := if_t c_3 hf
      refine lv_iconst (v := 0) hx hb dX7_isBelow_13 (by decide) ?_
      have e_4 := Option.some.inj hf
      subst e_4
      exact wd_zret hx hb hr rfl hlocks hw dX7_isBelow_14
    · replace hf := if_f c_3 hf
      refine lv_iconst (v := 1) hx hb dX7_isBelow_9 (by decide) ?_
      refine lv_goto (tgt := 14) hx hb dX7_isBelow_10 (by decide) ?_
      have e_5 := Option.some.inj hf
      subst e_5
      exact wd_zret hx hb hr rfl hlocks hw dX7_isBelow_14
/-! DutyDesk.hasBit(II)Z -/
def rm_X7_hasBit : Room := { frames := 0, cells := 0, slots := 0, locals := 0 }
def f_X7_hasBit (p1 : Int32) (p2 : Int32) : Option (Int32) :=
  (if ((p1 >>> (p2 &&& 31)) &&& 1) = 1 then
    some (1)
  else
    some (0))
set_option maxHeartbeats 4000000 in
set_option maxRecDepth 100000 in
theorem c_X7_hasBit (G : GP) (l : Launch) (W0 : va_W) (p1 : Int32) (p2 : Int32) (r0 : Int32) (hf : f_X7_hasBit p1 p2 = some r0) : MC G l yX7_hasBit wsX7_hasBit rm_X7_hasBit [.int p1, .int p2] (W0) (W0) (some (.int r0)) 0 0 := by
  refine MC.mk (cc := cX7_hasBit) (maxL := 2) (ret := (some .boolean)) (by decide) rfl (Nat.le_of_ble_eq_true rfl) ?_
  intro p e s m below meth c A ls ⟨hx, hb, hr, hml, hown, hlocks, _, hts⟩ hw hG hA hl
  have hl : lv_has ls 2 [(0, .int p1), (1, .int p2)] := hl
  rw [f_X7_hasBit] at hf
  refine lv_iload_n hx hb dX7_hasBit_0 rfl (lv_at hl 0 rfl) ?_
  refine lv_iload_n hx hb dX7_hasBit_1 rfl (lv_at hl 1 rfl) ?_
  refine lv_ishr hx hb dX7_hasBit_2 ?_
  refine lv_iconst (v := 1) hx hb dX7_hasBit_3 (by decide) ?_
  refine lv_iand hx hb dX7_hasBit_4 ?_
  refine lv_iconst (v := 1) hx hb dX7_hasBit_5 (by decide) ?_
  refine lv_icmp_ne (tgt := 13) hx hb dX7_hasBit_6 (by decide) (fun c_1 => ?_) (fun c_1 => ?_)
  · replace hf := if_f c_1 hf
    refine lv_iconst (v := 0) hx hb dX7_hasBit_13 (by decide) ?_
    have e_2 := Option.some.inj hf
    subst e_2
    exact wd_zret hx hb hr rfl hlocks hw dX7_hasBit_14
  · replace hf := if_t c_1 hf
    refine lv_iconst (v := 1) hx hb dX7_hasBit_9 (by decide) ?_
    refine lv_goto (tgt := 14) hx hb dX7_hasBit_10 (by decide) ?_
    have e_3 := Option.some.inj hf
    subst e_3
    exact wd_zret hx hb hr rfl hlocks hw dX7_hasBit_14
/-! DutyDesk$People.isOn(II)Z -/
def rm_X3_isOn : Room := { frames := 1, cells := 0, slots := 0, locals := 21 }
def f_X3_isOn (S : St) (p1 : Int32) (p2 : Int32) : Option (Int32) :=
  gd p1 24 ((f_X7_hasBit (gM S 11 p1.toNatClampNeg) p2).bind (fun r_3 => gz r_3 (some (r_3))))
set_option maxHeartbeats 4000000 in
set_option maxRecDepth 100000 in
theorem c_X3_isOn (G : GP) (l : Launch) (a : Nat → Nat) (ha : a 45 = G.2.2.1) (R : va_W) (S : St) (p1 : Int32) (p2 : Int32) (r0 : Int32) (hf : f_X3_isOn S p1 p2 = some r0) : MC G l yX3_isOn wsX3_isOn rm_X3_isOn [.ref (a 3), .int p1, .int p2] (xw G.2.1 a R S) (xw G.2.1 a R S) (some (.int r0)) 0 0 := by
  refine MC.mk (cc := cX3_isOn) (maxL := 3) (ret := (some .boolean)) (by decide) rfl (Nat.le_of_ble_eq_true rfl) ?_
  intro p e s m below meth c A ls ⟨hx, hb, hr, hml, hown, hlocks, _, hts⟩ hw hG hA hl
  have hl : lv_has ls 3 [(0, .ref (a 3)), (1, .int p1), (2, .int p2)] := hl
  have hin3 : ∀ w ∈ u_ws RX3 TX3 8, w ∈ wsX3_isOn := by decide +kernel
  rw [f_X3_isOn] at hf
  refine lv_aload_n hx hb dX3_isOn_0 rfl (lv_at hl 0 rfl) ?_
  refine va_get (D := G.1) (ci := 3) (v := .ref (a 11)) (C := RX3) (T := TX3) (N := 8) hx hb hts hin3 hown hG.1 hw.1 3 rfl rfl 1 (by decide) (hts (.fieldLink RX3 15 "DutyDesk$People" "panels" "[I") (List.mem_of_getElem? (i := 1) rfl)) (fun _ h9 => h9) rfl dX3_isOn_1 ?_
  refine lv_iload_n hx hb dX3_isOn_4 rfl (lv_at hl 1 rfl) ?_
  obtain ⟨h_1, hf⟩ := gd_of hf
  refine va_iald hx hb hG.1 hw.1 11 1 (xw_atM (k := 11) rfl) rfl h_1 dX3_isOn_5 ?_
  refine lv_iload_n hx hb dX3_isOn_6 rfl (lv_at hl 2 rfl) ?_
  obtain ⟨r_3, h_2, hf⟩ := bind_of hf
  refine cSN (As := [.int (gM S 11 p1.toNatClampNeg), .int p2]) (rest := []) ⟨hx, hb, hml, hown, hts⟩ hG hA hw (c_X7_hasBit G l _ (gM S 11 p1.toNatClampNeg) p2 r_3 h_2) ⟨va_cnB 2 hts gX3_isOn_X7_hasBit_n47 rfl rfl rfl (hG.2.1 (.methodLinkNest "DutyDesk$People" 47 yX7_hasBit "DutyDesk") (List.mem_of_getElem? (i := 57) rfl)) (hts (.initialized RX7) (List.mem_of_getElem? (i := 3) rfl)) (by decide +kernel) ⟨Nat.le_of_ble_eq_true rfl, Nat.le_of_ble_eq_true rfl⟩, hts (.static yX7_hasBit) (List.mem_of_getElem? (i := 2) rfl), trivial⟩ rfl hl.1 rfl (Nat.le_of_ble_eq_true rfl) dX3_isOn_7 ⟨Nat.zero_le _, Nat.zero_le _⟩ (fun H locs hw => ?_)
  obtain ⟨h_4, hf⟩ := gz_of hf
  have e_5 := Option.some.inj hf
  subst e_5
  exact wd_zret hx hb hr h_4 hlocks hw dX3_isOn_10
/-! DutyDesk$People.isStruck(II)Z -/
def rm_X3_isStruck : Room := { frames := 0, cells := 0, slots := 0, locals := 0 }
def f_X3_isStruck (S : St) (p1 : Int32) (p2 : Int32) : Option (Int32) :=
  gd p1 24 ((if (gM S 13 p1.toNatClampNeg) = (-1) then
    some (0)
  else
    gd p1 24 ((if p2 < (gM S 13 p1.toNatClampNeg) then
    some (0)
  else
    some (1)))))
set_option maxHeartbeats 4000000 in
set_option maxRecDepth 100000 in
theorem c_X3_isStruck (G : GP) (l : Launch) (a : Nat → Nat) (ha : a 45 = G.2.2.1) (R : va_W) (S : St) (p1 : Int32) (p2 : Int32) (r0 : Int32) (hf : f_X3_isStruck S p1 p2 = some r0) : MC G l yX3_isStruck wsX3_isStruck rm_X3_isStruck [.ref (a 3), .int p1, .int p2] (xw G.2.1 a R S) (xw G.2.1 a R S) (some (.int r0)) 0 0 := by
  refine MC.mk (cc := cX3_isStruck) (maxL := 3) (ret := (some .boolean)) (by decide) rfl (Nat.le_of_ble_eq_true rfl) ?_
  intro p e s m below meth c A ls ⟨hx, hb, hr, hml, hown, hlocks, _, hts⟩ hw hG hA hl
  have hl : lv_has ls 3 [(0, .ref (a 3)), (1, .int p1), (2, .int p2)] := hl
  have hin3 : ∀ w ∈ u_ws RX3 TX3 8, w ∈ wsX3_isStruck := by decide +kernel
  rw [f_X3_isStruck] at hf
  refine lv_aload_n hx hb dX3_isStruck_0 rfl (lv_at hl 0 rfl) ?_
  refine va_get (D := G.1) (ci := 3) (v := .ref (a 13)) (C := RX3) (T := TX3) (N := 8) hx hb hts hin3 hown hG.1 hw.1 3 rfl rfl 3 (by decide) (hts (.fieldLink RX3 21 "DutyDesk$People" "struck" "[I") (List.mem_of_getElem? (i := 1) rfl)) (fun _ h9 => h9) rfl dX3_isStruck_1 ?_
  refine lv_iload_n hx hb dX3_isStruck_4 rfl (lv_at hl 1 rfl) ?_
  obtain ⟨h_1, hf⟩ := gd_of hf
  refine va_iald hx hb hG.1 hw.1 13 1 (xw_atM (k := 13) rfl) rfl h_1 dX3_isStruck_5 ?_
  refine lv_iconst (v := (-1)) hx hb dX3_isStruck_6 (by decide) ?_
  refine lv_icmp_eq (tgt := 24) hx hb dX3_isStruck_7 (by decide) (fun c_2 => ?_) (fun c_2 => ?_)
  · replace hf := if_t c_2 hf
    refine lv_iconst (v := 0) hx hb dX3_isStruck_24 (by decide) ?_
    have e_3 := Option.some.inj hf
    subst e_3
    exact wd_zret hx hb hr rfl hlocks hw dX3_isStruck_25
  · replace hf := if_f c_2 hf
    refine lv_iload_n hx hb dX3_isStruck_10 rfl (lv_at hl 2 rfl) ?_
    refine lv_aload_n hx hb dX3_isStruck_11 rfl (lv_at hl 0 rfl) ?_
    refine va_get (D := G.1) (ci := 3) (v := .ref (a 13)) (C := RX3) (T := TX3) (N := 8) hx hb hts hin3 hown hG.1 hw.1 3 rfl rfl 3 (by decide) (hts (.fieldLink RX3 21 "DutyDesk$People" "struck" "[I") (List.mem_of_getElem? (i := 1) rfl)) (fun _ h9 => h9) rfl dX3_isStruck_12 ?_
    refine lv_iload_n hx hb dX3_isStruck_15 rfl (lv_at hl 1 rfl) ?_
    obtain ⟨h_4, hf⟩ := gd_of hf
    refine va_iald hx hb hG.1 hw.1 13 1 (xw_atM (k := 13) rfl) rfl h_4 dX3_isStruck_16 ?_
    refine lv_icmp_lt (tgt := 24) hx hb dX3_isStruck_17 (by decide) (fun c_5 => ?_) (fun c_5 => ?_)
    · replace hf := if_t c_5 hf
      refine lv_iconst (v := 0) hx hb dX3_isStruck_24 (by decide) ?_
      have e_6 := Option.some.inj hf
      subst e_6
      exact wd_zret hx hb hr rfl hlocks hw dX3_isStruck_25
    · replace hf := if_f c_5 hf
      refine lv_iconst (v := 1) hx hb dX3_isStruck_20 (by decide) ?_
      refine lv_goto (tgt := 25) hx hb dX3_isStruck_21 (by decide) ?_
      have e_7 := Option.some.inj hf
      subst e_7
      exact wd_zret hx hb hr rfl hlocks hw dX3_isStruck_25
/-! DutyDesk$People.isThere(II)Z -/
def rm_X3_isThere : Room := { frames := 1, cells := 0, slots := 0, locals := 22 }
def f_X3_isThere (S : St) (p1 : Int32) (p2 : Int32) : Option (Int32) :=
  gd p2 1000 ((f_X7_hasBit (gM S 15 p2.toNatClampNeg) p1).bind (fun r_3 => (if r_3 = 0 then
    (f_X3_isStruck S p1 p2).bind (fun r_7 => (if r_7 = 0 then
    some (1)
  else
    some (0)))
  else
    some (0))))
set_option maxHeartbeats 4000000 in
set_option maxRecDepth 100000 in
theorem c_X3_isThere (G : GP) (l : Launch) (a : Nat → Nat) (ha : a 45 = G.2.2.1) (R : va_W) (S : St) (p1 : Int32) (p2 : Int32) (r0 : Int32) (hf : f_X3_isThere S p1 p2 = some r0) : MC G l yX3_isThere wsX3_isThere rm_X3_isThere [.ref (a 3), .int p1, .int p2] (xw G.2.1 a R S) (xw G.2.1 a R S) (some (.int r0)) 0 0 := by
  refine MC.mk (cc := cX3_isThere) (maxL := 3) (ret := (some .boolean)) (by decide) rfl (Nat.le_of_ble_eq_true rfl) ?_
  intro p e s m below meth c A ls ⟨hx, hb, hr, hml, hown, hlocks, _, hts⟩ hw hG hA hl
  have hl : lv_has ls 3 [(0, .ref (a 3)), (1, .int p1), (2, .int p2)] := hl
  have hin3 : ∀ w ∈ u_ws RX3 TX3 8, w ∈ wsX3_isThere := by decide +kernel
  rw [f_X3_isThere] at hf
  refine lv_aload_n hx hb dX3_isThere_0 rfl (lv_at hl 0 rfl) ?_
  refine va_get (D := G.1) (ci := 3) (v := .ref (a 15)) (C := RX3) (T := TX3) (N := 8) hx hb hts hin3 hown hG.1 hw.1 3 rfl rfl 5 (by decide) (hts (.fieldLink RX3 27 "DutyDesk$People" "awayBits" "[I") (List.mem_of_getElem? (i := 1) rfl)) (fun _ h9 => h9) rfl dX3_isThere_1 ?_
  refine lv_iload_n hx hb dX3_isThere_4 rfl (lv_at hl 2 rfl) ?_
  obtain ⟨h_1, hf⟩ := gd_of hf
  refine va_iald hx hb hG.1 hw.1 15 1 (xw_atM (k := 15) rfl) rfl h_1 dX3_isThere_5 ?_
  refine lv_iload_n hx hb dX3_isThere_6 rfl (lv_at hl 1 rfl) ?_
  obtain ⟨r_3, h_2, hf⟩ := bind_of hf
  refine cSN (As := [.int (gM S 15 p2.toNatClampNeg), .int p1]) (rest := []) ⟨hx, hb, hml, hown, hts⟩ hG hA hw (c_X7_hasBit G l _ (gM S 15 p2.toNatClampNeg) p1 r_3 h_2) ⟨va_cnB 2 hts gX3_isThere_X7_hasBit_n47 rfl rfl rfl (hG.2.1 (.methodLinkNest "DutyDesk$People" 47 yX7_hasBit "DutyDesk") (List.mem_of_getElem? (i := 57) rfl)) (hts (.initialized RX7) (List.mem_of_getElem? (i := 3) rfl)) (by decide +kernel) ⟨Nat.le_of_ble_eq_true rfl, Nat.le_of_ble_eq_true rfl⟩, hts (.static yX7_hasBit) (List.mem_of_getElem? (i := 2) rfl), trivial⟩ rfl hl.1 rfl (Nat.le_of_ble_eq_true rfl) dX3_isThere_7 ⟨Nat.zero_le _, Nat.zero_le _⟩ (fun H locs hw => ?_)
  refine lv_if_ne (tgt := 26) hx hb dX3_isThere_10 (by decide) (fun c_4 => ?_) (fun c_4 => ?_)
  · replace hf := if_f c_4 hf
    refine lv_iconst (v := 0) hx hb dX3_isThere_26 (by decide) ?_
    have e_5 := Option.some.inj hf
    subst e_5
    exact wd_zret hx hb hr rfl hlocks hw dX3_isThere_27
  · replace hf := if_t c_4 hf
    refine lv_aload_n hx hb dX3_isThere_13 rfl (lv_at hl 0 rfl) ?_
    refine lv_iload_n hx hb dX3_isThere_14 rfl (lv_at hl 1 rfl) ?_
    refine lv_iload_n hx hb dX3_isThere_15 rfl (lv_at hl 2 rfl) ?_
    obtain ⟨r_7, h_6, hf⟩ := bind_of hf
    refine cV (As := [.int p1, .int p2]) (rest := []) ⟨hx, hb, hml, hown, hts⟩ hG hA hw (c_X3_isStruck G l a ha R S p1 p2 r_7 h_6) (cwV 2 hts gX3_isThere_X3_isStruck rfl rfl rfl (by decide +kernel) ⟨Nat.le_of_ble_eq_true rfl, Nat.le_of_ble_eq_true rfl⟩) (va_recv hG.1 hw.1 (ci := 3) (q0 := 3) rfl rfl) rfl hl.1 rfl (Nat.le_of_ble_eq_true rfl) dX3_isThere_16 ⟨Nat.zero_le _, Nat.zero_le _⟩ (fun H locs hw => ?_)
    refine lv_if_ne (tgt := 26) hx hb dX3_isThere_19 (by decide) (fun c_8 => ?_) (fun c_8 => ?_)
    · replace hf := if_f c_8 hf
      refine lv_iconst (v := 0) hx hb dX3_isThere_26 (by decide) ?_
      have e_9 := Option.some.inj hf
      subst e_9
      exact wd_zret hx hb hr rfl hlocks hw dX3_isThere_27
    · replace hf := if_t c_8 hf
      refine lv_iconst (v := 1) hx hb dX3_isThere_22 (by decide) ?_
      refine lv_goto (tgt := 27) hx hb dX3_isThere_23 (by decide) ?_
      have e_10 := Option.some.inj hf
      subst e_10
      exact wd_zret hx hb hr rfl hlocks hw dX3_isThere_27
/-! DutyDesk$People.speaks(II)Z -/
def rm_X3_speaks : Room := { frames := 1, cells := 0, slots := 0, locals := 21 }
def f_X3_speaks (S : St) (p1 : Int32) (p2 : Int32) : Option (Int32) :=
  (if p2 = (-1) then
    some (1)
  else
    gd p1 24 ((f_X7_hasBit (gM S 12 p1.toNatClampNeg) p2).bind (fun r_5 => (if r_5 = 0 then
    some (0)
  else
    some (1)))))
set_option maxHeartbeats 4000000 in
set_option maxRecDepth 100000 in
theorem c_X3_speaks (G : GP) (l : Launch) (a : Nat → Nat) (ha : a 45 = G.2.2.1) (R : va_W) (S : St) (p1 : Int32) (p2 : Int32) (r0 : Int32) (hf : f_X3_speaks S p1 p2 = some r0) : MC G l yX3_speaks wsX3_speaks rm_X3_speaks [.ref (a 3), .int p1, .int p2] (xw G.2.1 a R S) (xw G.2.1 a R S) (some (.int r0)) 0 0 := by
  refine MC.mk (cc := cX3_speaks) (maxL := 3) (ret := (some .boolean)) (by decide) rfl (Nat.le_of_ble_eq_true rfl) ?_
  intro p e s m below meth c A ls ⟨hx, hb, hr, hml, hown, hlocks, _, hts⟩ hw hG hA hl
  have hl : lv_has ls 3 [(0, .ref (a 3)), (1, .int p1), (2, .int p2)] := hl
  have hin3 : ∀ w ∈ u_ws RX3 TX3 8, w ∈ wsX3_speaks := by decide +kernel
  rw [f_X3_speaks] at hf
  refine lv_iload_n hx hb dX3_speaks_0 rfl (lv_at hl 2 rfl) ?_
  refine lv_iconst (v := (-1)) hx hb dX3_speaks_1 (by decide) ?_
  refine lv_icmp_eq (tgt := 18) hx hb dX3_speaks_2 (by decide) (fun c_1 => ?_) (fun c_1 => ?_)
  · replace hf := if_t c_1 hf
    refine lv_iconst (v := 1) hx hb dX3_speaks_18 (by decide) ?_
    refine lv_goto (tgt := 23) hx hb dX3_speaks_19 (by decide) ?_
    have e_2 := Option.some.inj hf
    subst e_2
    exact wd_zret hx hb hr rfl hlocks hw dX3_speaks_23
  · replace hf := if_f c_1 hf
    refine lv_aload_n hx hb dX3_speaks_5 rfl (lv_at hl 0 rfl) ?_
    refine va_get (D := G.1) (ci := 3) (v := .ref (a 12)) (C := RX3) (T := TX3) (N := 8) hx hb hts hin3 hown hG.1 hw.1 3 rfl rfl 2 (by decide) (hts (.fieldLink RX3 18 "DutyDesk$People" "tongues" "[I") (List.mem_of_getElem? (i := 1) rfl)) (fun _ h9 => h9) rfl dX3_speaks_6 ?_
    refine lv_iload_n hx hb dX3_speaks_9 rfl (lv_at hl 1 rfl) ?_
    obtain ⟨h_3, hf⟩ := gd_of hf
    refine va_iald hx hb hG.1 hw.1 12 1 (xw_atM (k := 12) rfl) rfl h_3 dX3_speaks_10 ?_
    refine lv_iload_n hx hb dX3_speaks_11 rfl (lv_at hl 2 rfl) ?_
    obtain ⟨r_5, h_4, hf⟩ := bind_of hf
    refine cSN (As := [.int (gM S 12 p1.toNatClampNeg), .int p2]) (rest := []) ⟨hx, hb, hml, hown, hts⟩ hG hA hw (c_X7_hasBit G l _ (gM S 12 p1.toNatClampNeg) p2 r_5 h_4) ⟨va_cnB 2 hts gX3_speaks_X7_hasBit_n47 rfl rfl rfl (hG.2.1 (.methodLinkNest "DutyDesk$People" 47 yX7_hasBit "DutyDesk") (List.mem_of_getElem? (i := 57) rfl)) (hts (.initialized RX7) (List.mem_of_getElem? (i := 3) rfl)) (by decide +kernel) ⟨Nat.le_of_ble_eq_true rfl, Nat.le_of_ble_eq_true rfl⟩, hts (.static yX7_hasBit) (List.mem_of_getElem? (i := 2) rfl), trivial⟩ rfl hl.1 rfl (Nat.le_of_ble_eq_true rfl) dX3_speaks_12 ⟨Nat.zero_le _, Nat.zero_le _⟩ (fun H locs hw => ?_)
    refine lv_if_eq (tgt := 22) hx hb dX3_speaks_15 (by decide) (fun c_6 => ?_) (fun c_6 => ?_)
    · replace hf := if_t c_6 hf
      refine lv_iconst (v := 0) hx hb dX3_speaks_22 (by decide) ?_
      have e_7 := Option.some.inj hf
      subst e_7
      exact wd_zret hx hb hr rfl hlocks hw dX3_speaks_23
    · replace hf := if_f c_6 hf
      refine lv_iconst (v := 1) hx hb dX3_speaks_18 (by decide) ?_
      refine lv_goto (tgt := 23) hx hb dX3_speaks_19 (by decide) ?_
      have e_8 := Option.some.inj hf
      subst e_8
      exact wd_zret hx hb hr rfl hlocks hw dX3_speaks_23
/-! DutyDesk$People.minutesBetween(II)I -/
def rm_X3_minutesBetween : Room := { frames := 0, cells := 0, slots := 0, locals := 0 }
def f_X3_minutesBetween (S : St) (p1 : Int32) (p2 : Int32) : Option (Int32) :=
  gd ((p1 * 10) + p2) 100 (some ((gM S 16 ((p1 * 10) + p2).toNatClampNeg)))
set_option maxHeartbeats 4000000 in
set_option maxRecDepth 100000 in
theorem c_X3_minutesBetween (G : GP) (l : Launch) (a : Nat → Nat) (ha : a 45 = G.2.2.1) (R : va_W) (S : St) (p1 : Int32) (p2 : Int32) (r0 : Int32) (hf : f_X3_minutesBetween S p1 p2 = some r0) : MC G l yX3_minutesBetween wsX3_minutesBetween rm_X3_minutesBetween [.ref (a 3), .int p1, .int p2] (xw G.2.1 a R S) (xw G.2.1 a R S) (some (.int r0)) 0 0 := by
  refine MC.mk (cc := cX3_minutesBetween) (maxL := 3) (ret := (some .int)) (by decide) rfl (Nat.le_of_ble_eq_true rfl) ?_
  intro p e s m below meth c A ls ⟨hx, hb, hr, hml, hown, hlocks, _, hts⟩ hw hG hA hl
  have hl : lv_has ls 3 [(0, .ref (a 3)), (1, .int p1), (2, .int p2)] := hl
  have hin3 : ∀ w ∈ u_ws RX3 TX3 8, w ∈ wsX3_minutesBetween := by decide +kernel
  rw [f_X3_minutesBetween] at hf
  refine lv_aload_n hx hb dX3_minutesBetween_0 rfl (lv_at hl 0 rfl) ?_
  refine va_get (D := G.1) (ci := 3) (v := .ref (a 16)) (C := RX3) (T := TX3) (N := 8) hx hb hts hin3 hown hG.1 hw.1 3 rfl rfl 6 (by decide) (hts (.fieldLink RX3 30 "DutyDesk$People" "minutes" "[I") (List.mem_of_getElem? (i := 1) rfl)) (fun _ h9 => h9) rfl dX3_minutesBetween_1 ?_
  refine lv_iload_n hx hb dX3_minutesBetween_4 rfl (lv_at hl 1 rfl) ?_
  refine lv_bipush (v := 10) hx hb dX3_minutesBetween_5 (by decide) ?_
  refine lv_imul hx hb dX3_minutesBetween_7 ?_
  refine lv_iload_n hx hb dX3_minutesBetween_8 rfl (lv_at hl 2 rfl) ?_
  refine lv_iadd hx hb dX3_minutesBetween_9 ?_
  obtain ⟨h_1, hf⟩ := gd_of hf
  refine va_iald hx hb hG.1 hw.1 16 1 (xw_atM (k := 16) rfl) rfl h_1 dX3_minutesBetween_10 ?_
  have e_2 := Option.some.inj hf
  subst e_2
  exact wd_iret hx hb hr hlocks hw dX3_minutesBetween_11
/-! DutyDesk$People.has(I)Z -/
def rm_X3_has : Room := { frames := 1, cells := 0, slots := 0, locals := 21 }
def f_X3_has (S : St) (p1 : Int32) : Option (Int32) :=
  (f_X7_isBelow p1 (gI S 11)).bind (fun r_2 => gz r_2 (some (r_2)))
set_option maxHeartbeats 4000000 in
set_option maxRecDepth 100000 in
theorem c_X3_has (G : GP) (l : Launch) (a : Nat → Nat) (ha : a 45 = G.2.2.1) (R : va_W) (S : St) (p1 : Int32) (r0 : Int32) (hf : f_X3_has S p1 = some r0) : MC G l yX3_has wsX3_has rm_X3_has [.ref (a 3), .int p1] (xw G.2.1 a R S) (xw G.2.1 a R S) (some (.int r0)) 0 0 := by
  refine MC.mk (cc := cX3_has) (maxL := 2) (ret := (some .boolean)) (by decide) rfl (Nat.le_of_ble_eq_true rfl) ?_
  intro p e s m below meth c A ls ⟨hx, hb, hr, hml, hown, hlocks, _, hts⟩ hw hG hA hl
  have hl : lv_has ls 2 [(0, .ref (a 3)), (1, .int p1)] := hl
  have hin3 : ∀ w ∈ u_ws RX3 TX3 8, w ∈ wsX3_has := by decide +kernel
  rw [f_X3_has] at hf
  refine lv_iload_n hx hb dX3_has_0 rfl (lv_at hl 1 rfl) ?_
  refine lv_aload_n hx hb dX3_has_1 rfl (lv_at hl 0 rfl) ?_
  refine va_get (D := G.1) (ci := 3) (v := .int (gI S 11)) (C := RX3) (T := TX3) (N := 8) hx hb hts hin3 hown hG.1 hw.1 3 rfl rfl 7 (by decide) (hts (.fieldLink RX3 39 "DutyDesk$People" "size" "I") (List.mem_of_getElem? (i := 1) rfl)) (fun _ h9 => h9) rfl dX3_has_2 ?_
  obtain ⟨r_2, h_1, hf⟩ := bind_of hf
  refine cSN (As := [.int p1, .int (gI S 11)]) (rest := []) ⟨hx, hb, hml, hown, hts⟩ hG hA hw (c_X7_isBelow G l _ p1 (gI S 11) r_2 h_1) ⟨va_cnB 2 hts gX3_has_X7_isBelow_n43 rfl rfl rfl (hG.2.1 (.methodLinkNest "DutyDesk$People" 43 yX7_isBelow "DutyDesk") (List.mem_of_getElem? (i := 55) rfl)) (hts (.initialized RX7) (List.mem_of_getElem? (i := 3) rfl)) (by decide +kernel) ⟨Nat.le_of_ble_eq_true rfl, Nat.le_of_ble_eq_true rfl⟩, hts (.static yX7_isBelow) (List.mem_of_getElem? (i := 2) rfl), trivial⟩ rfl hl.1 rfl (Nat.le_of_ble_eq_true rfl) dX3_has_5 ⟨Nat.zero_le _, Nat.zero_le _⟩ (fun H locs hw => ?_)
  obtain ⟨h_3, hf⟩ := gz_of hf
  have e_4 := Option.some.inj hf
  subst e_4
  exact wd_zret hx hb hr h_3 hlocks hw dX3_has_8
/-! DutyDesk$People.add(III)I -/
def rm_X3_add : Room := { frames := 0, cells := 0, slots := 0, locals := 0 }
def f_X3_add (S : St) (p1 : Int32) (p2 : Int32) (p3 : Int32) : Option (Int32 × St) :=
  gd (gI S 11) 24 (bnd (sM S 10 ((gI S 11).toNatClampNeg) p1) fun S_2 => gd (gI S_2 11) 24 (bnd (sM S_2 11 ((gI S_2 11).toNatClampNeg) p2) fun S_4 => gd (gI S_4 11) 24 (bnd (sM S_4 12 ((gI S_4 11).toNatClampNeg) p3) fun S_6 => bnd (sI S_6 11 ((gI S_6 11) + 1)) fun S_7 => some (((gI S_7 11) - 1, S_7)))))
set_option maxHeartbeats 4000000 in
set_option maxRecDepth 100000 in
theorem c_X3_add (G : GP) (l : Launch) (a : Nat → Nat) (ha : a 45 = G.2.2.1) (R : va_W) (S : St) (p1 : Int32) (p2 : Int32) (p3 : Int32) (r0 : Int32) (S9 : St) (hf : f_X3_add S p1 p2 p3 = some (r0, S9)) : MC G l yX3_add wsX3_add rm_X3_add [.ref (a 3), .int p1, .int p2, .int p3] (xw G.2.1 a R S) (xw G.2.1 a R S9) (some (.int r0)) 0 0 := by
  refine MC.mk (cc := cX3_add) (maxL := 4) (ret := (some .int)) (by decide) rfl (Nat.le_of_ble_eq_true rfl) ?_
  intro p e s m below meth c A ls ⟨hx, hb, hr, hml, hown, hlocks, _, hts⟩ hw hG hA hl
  have hl : lv_has ls 4 [(0, .ref (a 3)), (1, .int p1), (2, .int p2), (3, .int p3)] := hl
  have hin3 : ∀ w ∈ u_ws RX3 TX3 8, w ∈ wsX3_add := by decide +kernel
  rw [f_X3_add] at hf
  refine lv_aload_n hx hb dX3_add_0 rfl (lv_at hl 0 rfl) ?_
  refine va_get (D := G.1) (ci := 3) (v := .ref (a 10)) (C := RX3) (T := TX3) (N := 8) hx hb hts hin3 hown hG.1 hw.1 3 rfl rfl 0 (by decide) (hts (.fieldLink RX3 9 "DutyDesk$People" "town" "[I") (List.mem_of_getElem? (i := 1) rfl)) (fun _ h9 => h9) rfl dX3_add_1 ?_
  refine lv_aload_n hx hb dX3_add_4 rfl (lv_at hl 0 rfl) ?_
  refine va_get (D := G.1) (ci := 3) (v := .int (gI S 11)) (C := RX3) (T := TX3) (N := 8) hx hb hts hin3 hown hG.1 hw.1 3 rfl rfl 7 (by decide) (hts (.fieldLink RX3 39 "DutyDesk$People" "size" "I") (List.mem_of_getElem? (i := 2) rfl)) (fun _ h9 => h9) rfl dX3_add_5 ?_
  refine lv_iload_n hx hb dX3_add_8 rfl (lv_at hl 1 rfl) ?_
  obtain ⟨h_1, hf⟩ := gd_of hf
  refine va_iast hx hb hG.1 hw.1 hw.2.1 hw.2.2 10 1 (xw_atM (k := 10) rfl) rfl h_1 dX3_add_9 (fun H locs hP hD hS => ?_)
  obtain ⟨S_2, eS_2⟩ : ∃ z : St, z = sM S 10 ((gI S 11).toNatClampNeg) p1 := ⟨_, rfl⟩
  replace hf := bnd_of eS_2 hf
  have hw : Wd G A s H locs (xw G.2.1 a R S_2) := wd_eq (by rw [eS_2]; exact xw_upM (k := 10) rfl _) hP hD hS
  refine lv_aload_n hx hb dX3_add_10 rfl (lv_at hl 0 rfl) ?_
  refine va_get (D := G.1) (ci := 3) (v := .ref (a 11)) (C := RX3) (T := TX3) (N := 8) hx hb hts hin3 hown hG.1 hw.1 3 rfl rfl 1 (by decide) (hts (.fieldLink RX3 15 "DutyDesk$People" "panels" "[I") (List.mem_of_getElem? (i := 3) rfl)) (fun _ h9 => h9) rfl dX3_add_11 ?_
  refine lv_aload_n hx hb dX3_add_14 rfl (lv_at hl 0 rfl) ?_
  refine va_get (D := G.1) (ci := 3) (v := .int (gI S_2 11)) (C := RX3) (T := TX3) (N := 8) hx hb hts hin3 hown hG.1 hw.1 3 rfl rfl 7 (by decide) (hts (.fieldLink RX3 39 "DutyDesk$People" "size" "I") (List.mem_of_getElem? (i := 2) rfl)) (fun _ h9 => h9) rfl dX3_add_15 ?_
  refine lv_iload_n hx hb dX3_add_18 rfl (lv_at hl 2 rfl) ?_
  obtain ⟨h_3, hf⟩ := gd_of hf
  refine va_iast hx hb hG.1 hw.1 hw.2.1 hw.2.2 11 1 (xw_atM (k := 11) rfl) rfl h_3 dX3_add_19 (fun H locs hP hD hS => ?_)
  obtain ⟨S_4, eS_4⟩ : ∃ z : St, z = sM S_2 11 ((gI S_2 11).toNatClampNeg) p2 := ⟨_, rfl⟩
  replace hf := bnd_of eS_4 hf
  have hw : Wd G A s H locs (xw G.2.1 a R S_4) := wd_eq (by rw [eS_4]; exact xw_upM (k := 11) rfl _) hP hD hS
  refine lv_aload_n hx hb dX3_add_20 rfl (lv_at hl 0 rfl) ?_
  refine va_get (D := G.1) (ci := 3) (v := .ref (a 12)) (C := RX3) (T := TX3) (N := 8) hx hb hts hin3 hown hG.1 hw.1 3 rfl rfl 2 (by decide) (hts (.fieldLink RX3 18 "DutyDesk$People" "tongues" "[I") (List.mem_of_getElem? (i := 4) rfl)) (fun _ h9 => h9) rfl dX3_add_21 ?_
  refine lv_aload_n hx hb dX3_add_24 rfl (lv_at hl 0 rfl) ?_
  refine va_get (D := G.1) (ci := 3) (v := .int (gI S_4 11)) (C := RX3) (T := TX3) (N := 8) hx hb hts hin3 hown hG.1 hw.1 3 rfl rfl 7 (by decide) (hts (.fieldLink RX3 39 "DutyDesk$People" "size" "I") (List.mem_of_getElem? (i := 2) rfl)) (fun _ h9 => h9) rfl dX3_add_25 ?_
  refine lv_iload_n hx hb dX3_add_28 rfl (lv_at hl 3 rfl) ?_
  obtain ⟨h_5, hf⟩ := gd_of hf
  refine va_iast hx hb hG.1 hw.1 hw.2.1 hw.2.2 12 1 (xw_atM (k := 12) rfl) rfl h_5 dX3_add_29 (fun H locs hP hD hS => ?_)
  obtain ⟨S_6, eS_6⟩ : ∃ z : St, z = sM S_4 12 ((gI S_4 11).toNatClampNeg) p3 := ⟨_, rfl⟩
  replace hf := bnd_of eS_6 hf
  have hw : Wd G A s H locs (xw G.2.1 a R S_6) := wd_eq (by rw [eS_6]; exact xw_upM (k := 12) rfl _) hP hD hS
  refine lv_aload_n hx hb dX3_add_30 rfl (lv_at hl 0 rfl) ?_
  refine lv_dup hx hb dX3_add_31 rfl ?_
  refine va_get (D := G.1) (ci := 3) (v := .int (gI S_6 11)) (C := RX3) (T := TX3) (N := 8) hx hb hts hin3 hown hG.1 hw.1 3 rfl rfl 7 (by decide) (hts (.fieldLink RX3 39 "DutyDesk$People" "size" "I") (List.mem_of_getElem? (i := 2) rfl)) (fun _ h9 => h9) rfl dX3_add_32 ?_
  refine lv_iconst (v := 1) hx hb dX3_add_35 (by decide) ?_
  refine lv_iadd hx hb dX3_add_36 ?_
  refine va_put (D := G.1) (ci := 3) (v := .int ((gI S_6 11) + 1)) (ty := .int) (C := RX3) (T := TX3) (N := 8) hx hb hts hin3 tyX3 tyX3_ok nmX3 hown hG.1 hw.1 hw.2.1 hw.2.2 3 rfl rfl 7 (by decide) (hts (.fieldLink RX3 39 "DutyDesk$People" "size" "I") (List.mem_of_getElem? (i := 2) rfl)) (fun _ h9 => h9) rfl (by decide +kernel) rfl rfl (Nat.le_of_ble_eq_true rfl) dX3_add_37 (fun H locs hP hD hS => ?_)
  obtain ⟨S_7, eS_7⟩ : ∃ z : St, z = sI S_6 11 ((gI S_6 11) + 1) := ⟨_, rfl⟩
  replace hf := bnd_of eS_7 hf
  have hw : Wd G A s H locs (xw G.2.1 a R S_7) := wd_eq (by rw [eS_7]; exact xw_upI11 _) hP hD hS
  refine lv_aload_n hx hb dX3_add_40 rfl (lv_at hl 0 rfl) ?_
  refine va_get (D := G.1) (ci := 3) (v := .int (gI S_7 11)) (C := RX3) (T := TX3) (N := 8) hx hb hts hin3 hown hG.1 hw.1 3 rfl rfl 7 (by decide) (hts (.fieldLink RX3 39 "DutyDesk$People" "size" "I") (List.mem_of_getElem? (i := 2) rfl)) (fun _ h9 => h9) rfl dX3_add_41 ?_
  refine lv_iconst (v := 1) hx hb dX3_add_44 (by decide) ?_
  refine lv_isub hx hb dX3_add_45 ?_
  have e_8 := Option.some.inj hf
  obtain ⟨rfl, rfl⟩ := Prod.mk.inj e_8
  exact wd_iret hx hb hr hlocks hw dX3_add_46
/-! DutyDesk$People.isAway(II)Z -/
def rm_X3_isAway : Room := { frames := 1, cells := 0, slots := 0, locals := 21 }
def f_X3_isAway (S : St) (p1 : Int32) (p2 : Int32) : Option (Int32) :=
  gd p2 1000 ((f_X7_hasBit (gM S 15 p2.toNatClampNeg) p1).bind (fun r_3 => gz r_3 (some (r_3))))
set_option maxHeartbeats 4000000 in
set_option maxRecDepth 100000 in
theorem c_X3_isAway (G : GP) (l : Launch) (a : Nat → Nat) (ha : a 45 = G.2.2.1) (R : va_W) (S : St) (p1 : Int32) (p2 : Int32) (r0 : Int32) (hf : f_X3_isAway S p1 p2 = some r0) : MC G l yX3_isAway wsX3_isAway rm_X3_isAway [.ref (a 3), .int p1, .int p2] (xw G.2.1 a R S) (xw G.2.1 a R S) (some (.int r0)) 0 0 := by
  refine MC.mk (cc := cX3_isAway) (maxL := 3) (ret := (some .boolean)) (by decide) rfl (Nat.le_of_ble_eq_true rfl) ?_
  intro p e s m below meth c A ls ⟨hx, hb, hr, hml, hown, hlocks, _, hts⟩ hw hG hA hl
  have hl : lv_has ls 3 [(0, .ref (a 3)), (1, .int p1), (2, .int p2)] := hl
  have hin3 : ∀ w ∈ u_ws RX3 TX3 8, w ∈ wsX3_isAway := by decide +kernel
  rw [f_X3_isAway] at hf
  refine lv_aload_n hx hb dX3_isAway_0 rfl (lv_at hl 0 rfl) ?_
  refine va_get (D := G.1) (ci := 3) (v := .ref (a 15)) (C := RX3) (T := TX3) (N := 8) hx hb hts hin3 hown hG.1 hw.1 3 rfl rfl 5 (by decide) (hts (.fieldLink RX3 27 "DutyDesk$People" "awayBits" "[I") (List.mem_of_getElem? (i := 1) rfl)) (fun _ h9 => h9) rfl dX3_isAway_1 ?_
  refine lv_iload_n hx hb dX3_isAway_4 rfl (lv_at hl 2 rfl) ?_
  obtain ⟨h_1, hf⟩ := gd_of hf
  refine va_iald hx hb hG.1 hw.1 15 1 (xw_atM (k := 15) rfl) rfl h_1 dX3_isAway_5 ?_
  refine lv_iload_n hx hb dX3_isAway_6 rfl (lv_at hl 1 rfl) ?_
  obtain ⟨r_3, h_2, hf⟩ := bind_of hf
  refine cSN (As := [.int (gM S 15 p2.toNatClampNeg), .int p1]) (rest := []) ⟨hx, hb, hml, hown, hts⟩ hG hA hw (c_X7_hasBit G l _ (gM S 15 p2.toNatClampNeg) p1 r_3 h_2) ⟨va_cnB 2 hts gX3_isAway_X7_hasBit_n47 rfl rfl rfl (hG.2.1 (.methodLinkNest "DutyDesk$People" 47 yX7_hasBit "DutyDesk") (List.mem_of_getElem? (i := 57) rfl)) (hts (.initialized RX7) (List.mem_of_getElem? (i := 3) rfl)) (by decide +kernel) ⟨Nat.le_of_ble_eq_true rfl, Nat.le_of_ble_eq_true rfl⟩, hts (.static yX7_hasBit) (List.mem_of_getElem? (i := 2) rfl), trivial⟩ rfl hl.1 rfl (Nat.le_of_ble_eq_true rfl) dX3_isAway_7 ⟨Nat.zero_le _, Nat.zero_le _⟩ (fun H locs hw => ?_)
  obtain ⟨h_4, hf⟩ := gz_of hf
  have e_5 := Option.some.inj hf
  subst e_5
  exact wd_zret hx hb hr h_4 hlocks hw dX3_isAway_10
/-! DutyDesk$People.turnAway(II)V -/
def rm_X3_turnAway : Room := { frames := 0, cells := 0, slots := 0, locals := 0 }
def f_X3_turnAway (S : St) (p1 : Int32) (p2 : Int32) : Option (St) :=
  gd p2 1000 (gd p2 1000 (bnd (sM S 15 (p2.toNatClampNeg) ((gM S 15 p2.toNatClampNeg) ^^^ ((1 : Int32) <<< (p1 &&& 31)))) fun S_3 => some (S_3)))
set_option maxHeartbeats 4000000 in
set_option maxRecDepth 100000 in
theorem c_X3_turnAway (G : GP) (l : Launch) (a : Nat → Nat) (ha : a 45 = G.2.2.1) (R : va_W) (S : St) (p1 : Int32) (p2 : Int32) (S9 : St) (hf : f_X3_turnAway S p1 p2 = some S9) : MC G l yX3_turnAway wsX3_turnAway rm_X3_turnAway [.ref (a 3), .int p1, .int p2] (xw G.2.1 a R S) (xw G.2.1 a R S9) none 0 0 := by
  refine MC.mk (cc := cX3_turnAway) (maxL := 3) (ret := none) (by decide) rfl (Nat.le_of_ble_eq_true rfl) ?_
  intro p e s m below meth c A ls ⟨hx, hb, hr, hml, hown, hlocks, _, hts⟩ hw hG hA hl
  have hl : lv_has ls 3 [(0, .ref (a 3)), (1, .int p1), (2, .int p2)] := hl
  have hin3 : ∀ w ∈ u_ws RX3 TX3 8, w ∈ wsX3_turnAway := by decide +kernel
  rw [f_X3_turnAway] at hf
  refine lv_aload_n hx hb dX3_turnAway_0 rfl (lv_at hl 0 rfl) ?_
  refine va_get (D := G.1) (ci := 3) (v := .ref (a 15)) (C := RX3) (T := TX3) (N := 8) hx hb hts hin3 hown hG.1 hw.1 3 rfl rfl 5 (by decide) (hts (.fieldLink RX3 27 "DutyDesk$People" "awayBits" "[I") (List.mem_of_getElem? (i := 1) rfl)) (fun _ h9 => h9) rfl dX3_turnAway_1 ?_
  refine lv_iload_n hx hb dX3_turnAway_4 rfl (lv_at hl 2 rfl) ?_
  refine lv_dup2_11 hx hb dX3_turnAway_5 rfl rfl ?_
  obtain ⟨h_1, hf⟩ := gd_of hf
  refine va_iald hx hb hG.1 hw.1 15 1 (xw_atM (k := 15) rfl) rfl h_1 dX3_turnAway_6 ?_
  refine lv_iconst (v := 1) hx hb dX3_turnAway_7 (by decide) ?_
  refine lv_iload_n hx hb dX3_turnAway_8 rfl (lv_at hl 1 rfl) ?_
  refine lv_ishl hx hb dX3_turnAway_9 ?_
  refine lv_ixor hx hb dX3_turnAway_10 ?_
  obtain ⟨h_2, hf⟩ := gd_of hf
  refine va_iast hx hb hG.1 hw.1 hw.2.1 hw.2.2 15 1 (xw_atM (k := 15) rfl) rfl h_2 dX3_turnAway_11 (fun H locs hP hD hS => ?_)
  obtain ⟨S_3, eS_3⟩ : ∃ z : St, z = sM S 15 (p2.toNatClampNeg) ((gM S 15 p2.toNatClampNeg) ^^^ ((1 : Int32) <<< (p1 &&& 31))) := ⟨_, rfl⟩
  replace hf := bnd_of eS_3 hf
  have hw : Wd G A s H locs (xw G.2.1 a R S_3) := wd_eq (by rw [eS_3]; exact xw_upM (k := 15) rfl _) hP hD hS
  have e_4 := Option.some.inj hf
  subst e_4
  exact wd_vret hx hb hr hlocks hw dX3_turnAway_12
/-! DutyDesk$People.setMinutes(III)V -/
def rm_X3_setMinutes : Room := { frames := 0, cells := 0, slots := 0, locals := 0 }
def f_X3_setMinutes (S : St) (p1 : Int32) (p2 : Int32) (p3 : Int32) : Option (St) :=
  gd ((p1 * 10) + p2) 100 (bnd (sM S 16 (((p1 * 10) + p2).toNatClampNeg) p3) fun S_2 => gd ((p2 * 10) + p1) 100 (bnd (sM S_2 16 (((p2 * 10) + p1).toNatClampNeg) p3) fun S_4 => some (S_4)))
set_option maxHeartbeats 4000000 in
set_option maxRecDepth 100000 in
theorem c_X3_setMinutes (G : GP) (l : Launch) (a : Nat → Nat) (ha : a 45 = G.2.2.1) (R : va_W) (S : St) (p1 : Int32) (p2 : Int32) (p3 : Int32) (S9 : St) (hf : f_X3_setMinutes S p1 p2 p3 = some S9) : MC G l yX3_setMinutes wsX3_setMinutes rm_X3_setMinutes [.ref (a 3), .int p1, .int p2, .int p3] (xw G.2.1 a R S) (xw G.2.1 a R S9) none 0 0 := by
  refine MC.mk (cc := cX3_setMinutes) (maxL := 4) (ret := none) (by decide) rfl (Nat.le_of_ble_eq_true rfl) ?_
  intro p e s m below meth c A ls ⟨hx, hb, hr, hml, hown, hlocks, _, hts⟩ hw hG hA hl
  have hl : lv_has ls 4 [(0, .ref (a 3)), (1, .int p1), (2, .int p2), (3, .int p3)] := hl
  have hin3 : ∀ w ∈ u_ws RX3 TX3 8, w ∈ wsX3_setMinutes := by decide +kernel
  rw [f_X3_setMinutes] at hf
  refine lv_aload_n hx hb dX3_setMinutes_0 rfl (lv_at hl 0 rfl) ?_
  refine va_get (D := G.1) (ci := 3) (v := .ref (a 16)) (C := RX3) (T := TX3) (N := 8) hx hb hts hin3 hown hG.1 hw.1 3 rfl rfl 6 (by decide) (hts (.fieldLink RX3 30 "DutyDesk$People" "minutes" "[I") (List.mem_of_getElem? (i := 1) rfl)) (fun _ h9 => h9) rfl dX3_setMinutes_1 ?_
  refine lv_iload_n hx hb dX3_setMinutes_4 rfl (lv_at hl 1 rfl) ?_
  refine lv_bipush (v := 10) hx hb dX3_setMinutes_5 (by decide) ?_
  refine lv_imul hx hb dX3_setMinutes_7 ?_
  refine lv_iload_n hx hb dX3_setMinutes_8 rfl (lv_at hl 2 rfl) ?_
  refine lv_iadd hx hb dX3_setMinutes_9 ?_
  refine lv_iload_n hx hb dX3_setMinutes_10 rfl (lv_at hl 3 rfl) ?_
  obtain ⟨h_1, hf⟩ := gd_of hf
  refine va_iast hx hb hG.1 hw.1 hw.2.1 hw.2.2 16 1 (xw_atM (k := 16) rfl) rfl h_1 dX3_setMinutes_11 (fun H locs hP hD hS => ?_)
  obtain ⟨S_2, eS_2⟩ : ∃ z : St, z = sM S 16 (((p1 * 10) + p2).toNatClampNeg) p3 := ⟨_, rfl⟩
  replace hf := bnd_of eS_2 hf
  have hw : Wd G A s H locs (xw G.2.1 a R S_2) := wd_eq (by rw [eS_2]; exact xw_upM (k := 16) rfl _) hP hD hS
  refine lv_aload_n hx hb dX3_setMinutes_12 rfl (lv_at hl 0 rfl) ?_
  refine va_get (D := G.1) (ci := 3) (v := .ref (a 16)) (C := RX3) (T := TX3) (N := 8) hx hb hts hin3 hown hG.1 hw.1 3 rfl rfl 6 (by decide) (hts (.fieldLink RX3 30 "DutyDesk$People" "minutes" "[I") (List.mem_of_getElem? (i := 1) rfl)) (fun _ h9 => h9) rfl dX3_setMinutes_13 ?_
  refine lv_iload_n hx hb dX3_setMinutes_16 rfl (lv_at hl 2 rfl) ?_
  refine lv_bipush (v := 10) hx hb dX3_setMinutes_17 (by decide) ?_
  refine lv_imul hx hb dX3_setMinutes_19 ?_
  refine lv_iload_n hx hb dX3_setMinutes_20 rfl (lv_at hl 1 rfl) ?_
  refine lv_iadd hx hb dX3_setMinutes_21 ?_
  refine lv_iload_n hx hb dX3_setMinutes_22 rfl (lv_at hl 3 rfl) ?_
  obtain ⟨h_3, hf⟩ := gd_of hf
  refine va_iast hx hb hG.1 hw.1 hw.2.1 hw.2.2 16 1 (xw_atM (k := 16) rfl) rfl h_3 dX3_setMinutes_23 (fun H locs hP hD hS => ?_)
  obtain ⟨S_4, eS_4⟩ : ∃ z : St, z = sM S_2 16 (((p2 * 10) + p1).toNatClampNeg) p3 := ⟨_, rfl⟩
  replace hf := bnd_of eS_4 hf
  have hw : Wd G A s H locs (xw G.2.1 a R S_4) := wd_eq (by rw [eS_4]; exact xw_upM (k := 16) rfl _) hP hD hS
  have e_5 := Option.some.inj hf
  subst e_5
  exact wd_vret hx hb hr hlocks hw dX3_setMinutes_24
