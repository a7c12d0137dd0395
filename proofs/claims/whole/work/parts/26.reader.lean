/-! DutyDesk$Reader.append(I)V -/
def rm_X5_append : Room := { frames := 0, cells := 0, slots := 0, locals := 0 }
def f_X5_append_L3 (p1 : Int32) : (Int32 × St) → Option ((Int32 × St) ⊕ (St))
  | (v_1, S_2) =>
  (if v_1 < 0 then
    some (.inr (S_2))
  else
    (if 1000 ≤ (gI S_2 0) then
    some (.inr (S_2))
  else
    gd (gI S_2 0) 1000 (bnd (sM S_2 7 ((gI S_2 0).toNatClampNeg) (vp_nar .byte ((p1 >>> (v_1 &&& 31)).toInt8.toInt32))) fun S_10 => bnd (sI S_10 0 ((gI S_10 0) + 1)) fun S_11 => bnd (v_1 + (-8)) fun x_12 => some (.inl (x_12, S_11)))))
def f_X5_append (S : St) (p1 : Int32) : Option (St) :=
  loopF (f_X5_append_L3 p1) FU (24, S)
set_option maxHeartbeats 4000000 in
set_option maxRecDepth 100000 in
theorem c_X5_append (G : GP) (l : Launch) (a : Nat → Nat) (ha : a 45 = G.2.2.1) (R : va_W) (S : St) (p1 : Int32) (S9 : St) (hf : f_X5_append S p1 = some S9) : MC G l yX5_append wsX5_append rm_X5_append [.ref (a 1), .int p1] (xw G.2.1 a R S) (xw G.2.1 a R S9) none 0 0 := by
  refine MC.mk (cc := cX5_append) (maxL := 3) (ret := none) (by decide) rfl (Nat.le_of_ble_eq_true rfl) ?_
  intro p e s m below meth c A ls ⟨hx, hb, hr, hml, hown, hlocks, _, hts⟩ hw hG hA hl
  have hl : lv_has ls 3 [(0, .ref (a 1)), (1, .int p1)] := hl
  have hin5 : ∀ w ∈ u_ws RX5 TX5 12, w ∈ wsX5_append := by decide +kernel
  rw [f_X5_append] at hf
  refine lv_bipush (v := 24) hx hb dX5_append_0 (by decide) ?_
  refine lv_istore_n (lv' := [(2, .int 24), (0, .ref (a 1)), (1, .int p1)]) hx hb dX5_append_2 rfl hl (by decide) rfl (fun ls hl => ?_)
  refine loopF_ind (body := f_X5_append_L3 p1) (fun (q : Int32 × St) => match q with | (v_1, S_2) => ∀ (H : Heap) (locs : List Loc) (ls : Array Slot), Wd G A s H locs (xw G.2.1 a R S_2) → lv_has ls 3 [(0, .ref (a 1)), (1, .int p1), (2, .int v_1)] → WQ p l e rm_X5_append s m [.ref (a 1), .int p1] below meth c G A (xw G.2.1 a R S9) none 0 0 H locs 0 0 (F0 m 3 ls [])) ?_ FU (24, S) hf _ _ _ hw (lv_sub hl [1, 2, 0] rfl)
  clear hf hw hl
  intro ⟨v_1, S_2⟩ t0_3 hf hz1_0_3 hz2_0_3 H locs ls hw hl
  rw [f_X5_append_L3] at hf
  refine lv_iload_n hx hb dX5_append_3 rfl (lv_at hl 2 rfl) ?_
  refine lv_if_lt (tgt := 46) hx hb dX5_append_4 (by decide) (fun c_3 => ?_) (fun c_3 => ?_)
  · replace hf := if_t c_3 hf
    have e_4 := Option.some.inj hf
    have e_5 := hz2_0_3 _ e_4.symm
    subst e_5
    exact wd_vret hx hb hr hlocks hw dX5_append_46
  · replace hf := if_f c_3 hf
    refine lv_aload_n hx hb dX5_append_7 rfl (lv_at hl 0 rfl) ?_
    refine va_get (D := G.1) (ci := 5) (v := .int (gI S_2 0)) (C := RX5) (T := TX5) (N := 12) hx hb hts hin5 hown hG.1 hw.1 1 rfl rfl 1 (by decide) (hts (.fieldLink RX5 23 "DutyDesk$Reader" "length" "I") (List.mem_of_getElem? (i := 1) rfl)) (fun _ h9 => h9) rfl dX5_append_8 ?_
    refine lv_sipush (v := 1000) hx hb dX5_append_11 (by decide) ?_
    refine lv_icmp_ge (tgt := 46) hx hb dX5_append_14 (by decide) (fun c_6 => ?_) (fun c_6 => ?_)
    · replace hf := if_t c_6 hf
      have e_7 := Option.some.inj hf
      have e_8 := hz2_0_3 _ e_7.symm
      subst e_8
      exact wd_vret hx hb hr hlocks hw dX5_append_46
    · replace hf := if_f c_6 hf
      refine lv_aload_n hx hb dX5_append_17 rfl (lv_at hl 0 rfl) ?_
      refine va_get (D := G.1) (ci := 5) (v := .ref (a 7)) (C := RX5) (T := TX5) (N := 12) hx hb hts hin5 hown hG.1 hw.1 1 rfl rfl 0 (by decide) (hts (.fieldLink RX5 9 "DutyDesk$Reader" "tape" "[B") (List.mem_of_getElem? (i := 2) rfl)) (fun _ h9 => h9) rfl dX5_append_18 ?_
      refine lv_aload_n hx hb dX5_append_21 rfl (lv_at hl 0 rfl) ?_
      refine va_get (D := G.1) (ci := 5) (v := .int (gI S_2 0)) (C := RX5) (T := TX5) (N := 12) hx hb hts hin5 hown hG.1 hw.1 1 rfl rfl 1 (by decide) (hts (.fieldLink RX5 23 "DutyDesk$Reader" "length" "I") (List.mem_of_getElem? (i := 1) rfl)) (fun _ h9 => h9) rfl dX5_append_22 ?_
      refine lv_iload_n hx hb dX5_append_25 rfl (lv_at hl 1 rfl) ?_
      refine lv_iload_n hx hb dX5_append_26 rfl (lv_at hl 2 rfl) ?_
      refine lv_ishr hx hb dX5_append_27 ?_
      refine lv_i2b (v := (p1 >>> (v_1 &&& 31)).toInt8.toInt32) hx hb dX5_append_28 rfl ?_
      obtain ⟨h_9, hf⟩ := gd_of hf
      refine va_bast hx hb hG.1 hw.1 hw.2.1 hw.2.2 7 0 rfl rfl h_9 dX5_append_29 (fun H locs hP hD hS => ?_)
      obtain ⟨S_10, eS_10⟩ : ∃ z : St, z = sM S_2 7 ((gI S_2 0).toNatClampNeg) (vp_nar .byte ((p1 >>> (v_1 &&& 31)).toInt8.toInt32)) := ⟨_, rfl⟩
      replace hf := bnd_of eS_10 hf
      have hw : Wd G A s H locs (xw G.2.1 a R S_10) := wd_eq (by rw [eS_10]; exact xw_up7 _) hP hD hS
      refine lv_aload_n hx hb dX5_append_30 rfl (lv_at hl 0 rfl) ?_
      refine lv_dup hx hb dX5_append_31 rfl ?_
      refine va_get (D := G.1) (ci := 5) (v := .int (gI S_10 0)) (C := RX5) (T := TX5) (N := 12) hx hb hts hin5 hown hG.1 hw.1 1 rfl rfl 1 (by decide) (hts (.fieldLink RX5 23 "DutyDesk$Reader" "length" "I") (List.mem_of_getElem? (i := 1) rfl)) (fun _ h9 => h9) rfl dX5_append_32 ?_
      refine lv_iconst (v := 1) hx hb dX5_append_35 (by decide) ?_
      refine lv_iadd hx hb dX5_append_36 ?_
      refine va_put (D := G.1) (ci := 5) (v := .int ((gI S_10 0) + 1)) (ty := .int) (C := RX5) (T := TX5) (N := 12) hx hb hts hin5 tyX5 tyX5_ok nmX5 hown hG.1 hw.1 hw.2.1 hw.2.2 1 rfl rfl 1 (by decide) (hts (.fieldLink RX5 23 "DutyDesk$Reader" "length" "I") (List.mem_of_getElem? (i := 1) rfl)) (fun _ h9 => h9) rfl (by decide +kernel) rfl rfl (Nat.le_of_ble_eq_true rfl) dX5_append_37 (fun H locs hP hD hS => ?_)
      obtain ⟨S_11, eS_11⟩ : ∃ z : St, z = sI S_10 0 ((gI S_10 0) + 1) := ⟨_, rfl⟩
      replace hf := bnd_of eS_11 hf
      have hw : Wd G A s H locs (xw G.2.1 a R S_11) := wd_eq (by rw [eS_11]; exact xw_upI0 _) hP hD hS
      obtain ⟨x_12, ex_12⟩ : ∃ z : Int32, z = v_1 + (-8) := ⟨_, rfl⟩
      replace hf := bnd_of ex_12 hf
      refine lv_iinc (v := x_12) (lv' := [(2, .int x_12), (0, .ref (a 1)), (1, .int p1)]) hx hb dX5_append_40 hl (k := 2) rfl (by rw [ex_12]; rfl) (by decide) rfl (fun ls hl => ?_)
      refine lv_goto (tgt := 3) hx hb dX5_append_43 (by decide) ?_
      have e_13 := Option.some.inj hf
      exact hz1_0_3 _ e_13.symm _ _ _ hw (lv_sub hl [1, 2, 0] rfl)
/-! DutyDesk$Reader.isLetter(B)Z -/
def rm_X5_isLetter : Room := { frames := 0, cells := 0, slots := 0, locals := 0 }
def f_X5_isLetter (p1 : Int32) : Option (Int32) :=
  (if p1 < 97 then
    some (0)
  else
    (if 122 < p1 then
    some (0)
  else
    some (1)))
set_option maxHeartbeats 4000000 in
set_option maxRecDepth 100000 in
theorem c_X5_isLetter (G : GP) (l : Launch) (W0 : va_W) (p1 : Int32) (r0 : Int32) (hf : f_X5_isLetter p1 = some r0) : MC G l yX5_isLetter wsX5_isLetter rm_X5_isLetter [.int p1] (W0) (W0) (some (.int r0)) 0 0 := by
  refine MC.mk (cc := cX5_isLetter) (maxL := 1) (ret := (some .boolean)) (by decide) rfl (Nat.le_of_ble_eq_true rfl) ?_
  intro p e s m below meth c A ls ⟨hx, hb, hr, hml, hown, hlocks, _, hts⟩ hw hG hA hl
  have hl : lv_has ls 1 [(0, .int p1)] := hl
  rw [f_X5_isLetter] at hf
  refine lv_iload_n hx hb dX5_isLetter_0 rfl (lv_at hl 0 rfl) ?_
  refine lv_bipush (v := 97) hx hb dX5_isLetter_1 (by decide) ?_
  refine lv_icmp_lt (tgt := 16) hx hb dX5_isLetter_3 (by decide) (fun c_1 => ?_) (fun c_1 => ?_)
  · replace hf := if_t c_1 hf
    refine lv_iconst (v := 0) hx hb dX5_isLetter_16 (by decide) ?_
    have e_2 := Option.some.inj hf
    subst e_2
    exact wd_zret hx hb hr rfl hlocks hw dX5_isLetter_17
  · replace hf := if_f c_1 hf
    refine lv_iload_n hx hb dX5_isLetter_6 rfl (lv_at hl 0 rfl) ?_
    refine lv_bipush (v := 122) hx hb dX5_isLetter_7 (by decide) ?_
    refine lv_icmp_gt (tgt := 16) hx hb dX5_isLetter_9 (by decide) (fun c_3 => ?_) (fun c_3 => ?_)
    · replace hf := if_t c_3 hf
      refine lv_iconst (v := 0) hx hb dX5_isLetter_16 (by decide) ?_
      have e_4 := Option.some.inj hf
      subst e_4
      exact wd_zret hx hb hr rfl hlocks hw dX5_isLetter_17
    · replace hf := if_f c_3 hf
      refine lv_iconst (v := 1) hx hb dX5_isLetter_12 (by decide) ?_
      refine lv_goto (tgt := 17) hx hb dX5_isLetter_13 (by decide) ?_
      have e_5 := Option.some.inj hf
      subst e_5
      exact wd_zret hx hb hr rfl hlocks hw dX5_isLetter_17
/-! DutyDesk$Reader.skipLetters()V -/
def rm_X5_skipLetters : Room := { frames := 1, cells := 0, slots := 0, locals := 20 }
def f_X5_skipLetters_L0  : St → Option ((St) ⊕ (St))
  | S_1 =>
  (if (gI S_1 0) ≤ (gI S_1 1) then
    some (.inr (S_1))
  else
    gd (gI S_1 1) 1000 ((f_X5_isLetter (gM S_1 7 (gI S_1 1).toNatClampNeg)).bind (fun r_7 => (if r_7 = 0 then
    some (.inr (S_1))
  else
    bnd (sI S_1 1 ((gI S_1 1) + 1)) fun S_11 => some (.inl S_11)))))
def f_X5_skipLetters (S : St) : Option (St) :=
  loopF (f_X5_skipLetters_L0 ) FU S
set_option maxHeartbeats 4000000 in
set_option maxRecDepth 100000 in
theorem c_X5_skipLetters (G : GP) (l : Launch) (a : Nat → Nat) (ha : a 45 = G.2.2.1) (R : va_W) (S : St) (S9 : St) (hf : f_X5_skipLetters S = some S9) : MC G l yX5_skipLetters wsX5_skipLetters rm_X5_skipLetters [.ref (a 1)] (xw G.2.1 a R S) (xw G.2.1 a R S9) none 0 0 := by
  refine MC.mk (cc := cX5_skipLetters) (maxL := 1) (ret := none) (by decide) rfl (Nat.le_of_ble_eq_true rfl) ?_
  intro p e s m below meth c A ls ⟨hx, hb, hr, hml, hown, hlocks, _, hts⟩ hw hG hA hl
  have hl : lv_has ls 1 [(0, .ref (a 1))] := hl
  have hin5 : ∀ w ∈ u_ws RX5 TX5 12, w ∈ wsX5_skipLetters := by decide +kernel
  rw [f_X5_skipLetters] at hf
  refine loopF_ind (body := f_X5_skipLetters_L0 ) (fun (S_1 : St) => ∀ (H : Heap) (locs : List Loc) (ls : Array Slot), Wd G A s H locs (xw G.2.1 a R S_1) → lv_has ls 1 [(0, .ref (a 1))] → WQ p l e rm_X5_skipLetters s m [.ref (a 1)] below meth c G A (xw G.2.1 a R S9) none 0 0 H locs 0 0 (F0 m 0 ls [])) ?_ FU S hf _ _ _ hw (lv_sub hl [0] rfl)
  clear hf hw hl
  intro S_1 t0_0 hf hz1_0_0 hz2_0_0 H locs ls hw hl
  rw [f_X5_skipLetters_L0] at hf
  refine lv_aload_n hx hb dX5_skipLetters_0 rfl (lv_at hl 0 rfl) ?_
  refine va_get (D := G.1) (ci := 5) (v := .int (gI S_1 1)) (C := RX5) (T := TX5) (N := 12) hx hb hts hin5 hown hG.1 hw.1 1 rfl rfl 3 (by decide) (hts (.fieldLink RX5 35 "DutyDesk$Reader" "at" "I") (List.mem_of_getElem? (i := 1) rfl)) (fun _ h9 => h9) rfl dX5_skipLetters_1 ?_
  refine lv_aload_n hx hb dX5_skipLetters_4 rfl (lv_at hl 0 rfl) ?_
  refine va_get (D := G.1) (ci := 5) (v := .int (gI S_1 0)) (C := RX5) (T := TX5) (N := 12) hx hb hts hin5 hown hG.1 hw.1 1 rfl rfl 1 (by decide) (hts (.fieldLink RX5 23 "DutyDesk$Reader" "length" "I") (List.mem_of_getElem? (i := 2) rfl)) (fun _ h9 => h9) rfl dX5_skipLetters_5 ?_
  refine lv_icmp_ge (tgt := 39) hx hb dX5_skipLetters_8 (by decide) (fun c_2 => ?_) (fun c_2 => ?_)
  · replace hf := if_t c_2 hf
    have e_3 := Option.some.inj hf
    have e_4 := hz2_0_0 _ e_3.symm
    subst e_4
    exact wd_vret hx hb hr hlocks hw dX5_skipLetters_39
  · replace hf := if_f c_2 hf
    refine lv_aload_n hx hb dX5_skipLetters_11 rfl (lv_at hl 0 rfl) ?_
    refine va_get (D := G.1) (ci := 5) (v := .ref (a 7)) (C := RX5) (T := TX5) (N := 12) hx hb hts hin5 hown hG.1 hw.1 1 rfl rfl 0 (by decide) (hts (.fieldLink RX5 9 "DutyDesk$Reader" "tape" "[B") (List.mem_of_getElem? (i := 3) rfl)) (fun _ h9 => h9) rfl dX5_skipLetters_12 ?_
    refine lv_aload_n hx hb dX5_skipLetters_15 rfl (lv_at hl 0 rfl) ?_
    refine va_get (D := G.1) (ci := 5) (v := .int (gI S_1 1)) (C := RX5) (T := TX5) (N := 12) hx hb hts hin5 hown hG.1 hw.1 1 rfl rfl 3 (by decide) (hts (.fieldLink RX5 35 "DutyDesk$Reader" "at" "I") (List.mem_of_getElem? (i := 1) rfl)) (fun _ h9 => h9) rfl dX5_skipLetters_16 ?_
    obtain ⟨h_5, hf⟩ := gd_of hf
    refine va_bald hx hb hG.1 hw.1 7 0 rfl rfl h_5 dX5_skipLetters_19 ?_
    obtain ⟨r_7, h_6, hf⟩ := bind_of hf
    refine cS (As := [.int (gM S_1 7 (gI S_1 1).toNatClampNeg)]) (rest := []) ⟨hx, hb, hml, hown, hts⟩ hG hA hw (c_X5_isLetter G l _ (gM S_1 7 (gI S_1 1).toNatClampNeg) r_7 h_6) (va_cwS 1 hts gX5_skipLetters_X5_isLetter rfl rfl rfl (by decide +kernel) ⟨Nat.le_of_ble_eq_true rfl, Nat.le_of_ble_eq_true rfl⟩) rfl hl.1 rfl (Nat.le_of_ble_eq_true rfl) dX5_skipLetters_20 ⟨Nat.zero_le _, Nat.zero_le _⟩ (fun H locs hw => ?_)
    refine lv_if_eq (tgt := 39) hx hb dX5_skipLetters_23 (by decide) (fun c_8 => ?_) (fun c_8 => ?_)
    · replace hf := if_t c_8 hf
      have e_9 := Option.some.inj hf
      have e_10 := hz2_0_0 _ e_9.symm
      subst e_10
      exact wd_vret hx hb hr hlocks hw dX5_skipLetters_39
    · replace hf := if_f c_8 hf
      refine lv_aload_n hx hb dX5_skipLetters_26 rfl (lv_at hl 0 rfl) ?_
      refine lv_dup hx hb dX5_skipLetters_27 rfl ?_
      refine va_get (D := G.1) (ci := 5) (v := .int (gI S_1 1)) (C := RX5) (T := TX5) (N := 12) hx hb hts hin5 hown hG.1 hw.1 1 rfl rfl 3 (by decide) (hts (.fieldLink RX5 35 "DutyDesk$Reader" "at" "I") (List.mem_of_getElem? (i := 1) rfl)) (fun _ h9 => h9) rfl dX5_skipLetters_28 ?_
      refine lv_iconst (v := 1) hx hb dX5_skipLetters_31 (by decide) ?_
      refine lv_iadd hx hb dX5_skipLetters_32 ?_
      refine va_put (D := G.1) (ci := 5) (v := .int ((gI S_1 1) + 1)) (ty := .int) (C := RX5) (T := TX5) (N := 12) hx hb hts hin5 tyX5 tyX5_ok nmX5 hown hG.1 hw.1 hw.2.1 hw.2.2 1 rfl rfl 3 (by decide) (hts (.fieldLink RX5 35 "DutyDesk$Reader" "at" "I") (List.mem_of_getElem? (i := 1) rfl)) (fun _ h9 => h9) rfl (by decide +kernel) rfl rfl (Nat.le_of_ble_eq_true rfl) dX5_skipLetters_33 (fun H locs hP hD hS => ?_)
      obtain ⟨S_11, eS_11⟩ : ∃ z : St, z = sI S_1 1 ((gI S_1 1) + 1) := ⟨_, rfl⟩
      replace hf := bnd_of eS_11 hf
      have hw : Wd G A s H locs (xw G.2.1 a R S_11) := wd_eq (by rw [eS_11]; exact xw_upI1 _) hP hD hS
      refine lv_goto (tgt := 0) hx hb dX5_skipLetters_36 (by decide) ?_
      have e_12 := Option.some.inj hf
      exact hz1_0_0 _ e_12.symm _ _ _ hw (lv_sub hl [0] rfl)
/-! DutyDesk$Reader.isDigit(B)Z -/
def rm_X5_isDigit : Room := { frames := 0, cells := 0, slots := 0, locals := 0 }
def f_X5_isDigit (p1 : Int32) : Option (Int32) :=
  (if p1 < 48 then
    some (0)
  else
    (if 57 < p1 then
    some (0)
  else
    some (1)))
set_option maxHeartbeats 4000000 in
set_option maxRecDepth 100000 in
theorem c_X5_isDigit (G : GP) (l : Launch) (W0 : va_W) (p1 : Int32) (r0 : Int32) (hf : f_X5_isDigit p1 = some r0) : MC G l yX5_isDigit wsX5_isDigit rm_X5_isDigit [.int p1] (W0) (W0) (some (.int r0)) 0 0 := by
  refine MC.mk (cc := cX5_isDigit) (maxL := 1) (ret := (some .boolean)) (by decide) rfl (Nat.le_of_ble_eq_true rfl) ?_
  intro p e s m below meth c A ls ⟨hx, hb, hr, hml, hown, hlocks, _, hts⟩ hw hG hA hl
  have hl : lv_has ls 1 [(0, .int p1)] := hl
  rw [f_X5_isDigit] at hf
  refine lv_iload_n hx hb dX5_isDigit_0 rfl (lv_at hl 0 rfl) ?_
  refine lv_bipush (v := 48) hx hb dX5_isDigit_1 (by decide) ?_
  refine lv_icmp_lt (tgt := 16) hx hb dX5_isDigit_3 (by decide) (fun c_1 => ?_) (fun c_1 => ?_)
  · replace hf := if_t c_1 hf
    refine lv_iconst (v := 0) hx hb dX5_isDigit_16 (by decide) ?_
    have e_2 := Option.some.inj hf
    subst e_2
    exact wd_zret hx hb hr rfl hlocks hw dX5_isDigit_17
  · replace hf := if_f c_1 hf
    refine lv_iload_n hx hb dX5_isDigit_6 rfl (lv_at hl 0 rfl) ?_
    refine lv_bipush (v := 57) hx hb dX5_isDigit_7 (by decide) ?_
    refine lv_icmp_gt (tgt := 16) hx hb dX5_isDigit_9 (by decide) (fun c_3 => ?_) (fun c_3 => ?_)
    · replace hf := if_t c_3 hf
      refine lv_iconst (v := 0) hx hb dX5_isDigit_16 (by decide) ?_
      have e_4 := Option.some.inj hf
      subst e_4
      exact wd_zret hx hb hr rfl hlocks hw dX5_isDigit_17
    · replace hf := if_f c_3 hf
      refine lv_iconst (v := 1) hx hb dX5_isDigit_12 (by decide) ?_
      refine lv_goto (tgt := 17) hx hb dX5_isDigit_13 (by decide) ?_
      have e_5 := Option.some.inj hf
      subst e_5
      exact wd_zret hx hb hr rfl hlocks hw dX5_isDigit_17
/-! DutyDesk$Reader.readNumber()V -/
def rm_X5_readNumber : Room := { frames := 1, cells := 0, slots := 0, locals := 20 }
def f_X5_readNumber_J81 (S_1 : St) : Option (St) :=
  (if ((gI S_1 1) - (gI S_1 3)) ≤ 4 then
    bnd (sI S_1 2 2) fun S_3 => some (S_3)
  else
    bnd (sI S_1 2 0) fun S_5 => some (S_5))
def f_X5_readNumber_L5  : St → Option ((St) ⊕ (St))
  | S_8 =>
  (if (gI S_8 0) ≤ (gI S_8 1) then
    (f_X5_readNumber_J81 S_8).bind (fun z_10 => some (.inr (z_10)))
  else
    gd (gI S_8 1) 1000 ((f_X5_isDigit (gM S_8 7 (gI S_8 1).toNatClampNeg)).bind (fun r_16 => (if r_16 = 0 then
    (f_X5_readNumber_J81 S_8).bind (fun z_18 => some (.inr (z_18)))
  else
    (if 4 ≤ ((gI S_8 1) - (gI S_8 3)) then
    bnd (sI S_8 1 ((gI S_8 1) + 1)) fun S_23 => some (.inl S_23)
  else
    gd (gI S_8 1) 1000 (bnd (sI S_8 4 ((((gI S_8 4) * 10) + (gM S_8 7 (gI S_8 1).toNatClampNeg)) - 48)) fun S_26 => bnd (sI S_26 1 ((gI S_26 1) + 1)) fun S_27 => some (.inl S_27)))))))
def f_X5_readNumber (S : St) : Option (St) :=
  bnd (sI S 4 0) fun S_7 => loopF (f_X5_readNumber_L5 ) FU S_7
set_option maxHeartbeats 4000000 in
set_option maxRecDepth 100000 in
theorem c_X5_readNumber (G : GP) (l : Launch) (a : Nat → Nat) (ha : a 45 = G.2.2.1) (R : va_W) (S : St) (S9 : St) (hf : f_X5_readNumber S = some S9) : MC G l yX5_readNumber wsX5_readNumber rm_X5_readNumber [.ref (a 1)] (xw G.2.1 a R S) (xw G.2.1 a R S9) none 0 0 := by
  refine MC.mk (cc := cX5_readNumber) (maxL := 1) (ret := none) (by decide) rfl (Nat.le_of_ble_eq_true rfl) ?_
  intro p e s m below meth c A ls ⟨hx, hb, hr, hml, hown, hlocks, _, hts⟩ hw hG hA hl
  have hl : lv_has ls 1 [(0, .ref (a 1))] := hl
  have hin5 : ∀ w ∈ u_ws RX5 TX5 12, w ∈ wsX5_readNumber := by decide +kernel
  rw [f_X5_readNumber] at hf
  have j81 : ∀ (S_1 : St) (H : Heap) (locs : List Loc) (ls : Array Slot), f_X5_readNumber_J81 S_1 = some S9 → Wd G A s H locs (xw G.2.1 a R S_1) → lv_has ls 1 [(0, .ref (a 1))] → WQ p l e rm_X5_readNumber s m [.ref (a 1)] below meth c G A (xw G.2.1 a R S9) none 0 0 H locs 0 0 (F0 m 81 ls []) := by
    intro S_1 H locs ls hf hw hl
    rw [f_X5_readNumber_J81] at hf
    refine lv_aload_n hx hb dX5_readNumber_81 rfl (lv_at hl 0 rfl) ?_
    refine lv_aload_n hx hb dX5_readNumber_82 rfl (lv_at hl 0 rfl) ?_
    refine va_get (D := G.1) (ci := 5) (v := .int (gI S_1 1)) (C := RX5) (T := TX5) (N := 12) hx hb hts hin5 hown hG.1 hw.1 1 rfl rfl 3 (by decide) (hts (.fieldLink RX5 35 "DutyDesk$Reader" "at" "I") (List.mem_of_getElem? (i := 2) rfl)) (fun _ h9 => h9) rfl dX5_readNumber_83 ?_
    refine lv_aload_n hx hb dX5_readNumber_86 rfl (lv_at hl 0 rfl) ?_
    refine va_get (D := G.1) (ci := 5) (v := .int (gI S_1 3)) (C := RX5) (T := TX5) (N := 12) hx hb hts hin5 hown hG.1 hw.1 1 rfl rfl 5 (by decide) (hts (.fieldLink RX5 56 "DutyDesk$Reader" "tokenPlace" "I") (List.mem_of_getElem? (i := 5) rfl)) (fun _ h9 => h9) rfl dX5_readNumber_87 ?_
    refine lv_isub hx hb dX5_readNumber_90 ?_
    refine lv_iconst (v := 4) hx hb dX5_readNumber_91 (by decide) ?_
    refine lv_icmp_le (tgt := 99) hx hb dX5_readNumber_92 (by decide) (fun c_2 => ?_) (fun c_2 => ?_)
    · replace hf := if_t c_2 hf
      refine lv_iconst (v := 2) hx hb dX5_readNumber_99 (by decide) ?_
      refine va_put (D := G.1) (ci := 5) (v := .int 2) (ty := .int) (C := RX5) (T := TX5) (N := 12) hx hb hts hin5 tyX5 tyX5_ok nmX5 hown hG.1 hw.1 hw.2.1 hw.2.2 1 rfl rfl 4 (by decide) (hts (.fieldLink RX5 38 "DutyDesk$Reader" "token" "I") (List.mem_of_getElem? (i := 6) rfl)) (fun _ h9 => h9) rfl (by decide +kernel) rfl rfl (Nat.le_of_ble_eq_true rfl) dX5_readNumber_100 (fun H locs hP hD hS => ?_)
      obtain ⟨S_3, eS_3⟩ : ∃ z : St, z = sI S_1 2 2 := ⟨_, rfl⟩
      replace hf := bnd_of eS_3 hf
      have hw : Wd G A s H locs (xw G.2.1 a R S_3) := wd_eq (by rw [eS_3]; exact xw_upI2 _) hP hD hS
      have e_4 := Option.some.inj hf
      subst e_4
      exact wd_vret hx hb hr hlocks hw dX5_readNumber_103
    · replace hf := if_f c_2 hf
      refine lv_iconst (v := 0) hx hb dX5_readNumber_95 (by decide) ?_
      refine lv_goto (tgt := 100) hx hb dX5_readNumber_96 (by decide) ?_
      refine va_put (D := G.1) (ci := 5) (v := .int 0) (ty := .int) (C := RX5) (T := TX5) (N := 12) hx hb hts hin5 tyX5 tyX5_ok nmX5 hown hG.1 hw.1 hw.2.1 hw.2.2 1 rfl rfl 4 (by decide) (hts (.fieldLink RX5 38 "DutyDesk$Reader" "token" "I") (List.mem_of_getElem? (i := 6) rfl)) (fun _ h9 => h9) rfl (by decide +kernel) rfl rfl (Nat.le_of_ble_eq_true rfl) dX5_readNumber_100 (fun H locs hP hD hS => ?_)
      obtain ⟨S_5, eS_5⟩ : ∃ z : St, z = sI S_1 2 0 := ⟨_, rfl⟩
      replace hf := bnd_of eS_5 hf
      have hw : Wd G A s H locs (xw G.2.1 a R S_5) := wd_eq (by rw [eS_5]; exact xw_upI2 _) hP hD hS
      have e_6 := Option.some.inj hf
      subst e_6
      exact wd_vret hx hb hr hlocks hw dX5_readNumber_103
  refine lv_aload_n hx hb dX5_readNumber_0 rfl (lv_at hl 0 rfl) ?_
  refine lv_iconst (v := 0) hx hb dX5_readNumber_1 (by decide) ?_
  refine va_put (D := G.1) (ci := 5) (v := .int 0) (ty := .int) (C := RX5) (T := TX5) (N := 12) hx hb hts hin5 tyX5 tyX5_ok nmX5 hown hG.1 hw.1 hw.2.1 hw.2.2 1 rfl rfl 6 (by decide) (hts (.fieldLink RX5 72 "DutyDesk$Reader" "number" "I") (List.mem_of_getElem? (i := 1) rfl)) (fun _ h9 => h9) rfl (by decide +kernel) rfl rfl (Nat.le_of_ble_eq_true rfl) dX5_readNumber_2 (fun H locs hP hD hS => ?_)
  obtain ⟨S_7, eS_7⟩ : ∃ z : St, z = sI S 4 0 := ⟨_, rfl⟩
  replace hf := bnd_of eS_7 hf
  have hw : Wd G A s H locs (xw G.2.1 a R S_7) := wd_eq (by rw [eS_7]; exact xw_upI4 _) hP hD hS
  refine loopF_ind (body := f_X5_readNumber_L5 ) (fun (S_8 : St) => ∀ (H : Heap) (locs : List Loc) (ls : Array Slot), Wd G A s H locs (xw G.2.1 a R S_8) → lv_has ls 1 [(0, .ref (a 1))] → WQ p l e rm_X5_readNumber s m [.ref (a 1)] below meth c G A (xw G.2.1 a R S9) none 0 0 H locs 0 0 (F0 m 5 ls [])) ?_ FU S_7 hf _ _ _ hw (lv_sub hl [0] rfl)
  clear hf hw hl
  intro S_8 t0_5 hf hz1_0_5 hz2_0_5 H locs ls hw hl
  rw [f_X5_readNumber_L5] at hf
  refine lv_aload_n hx hb dX5_readNumber_5 rfl (lv_at hl 0 rfl) ?_
  refine va_get (D := G.1) (ci := 5) (v := .int (gI S_8 1)) (C := RX5) (T := TX5) (N := 12) hx hb hts hin5 hown hG.1 hw.1 1 rfl rfl 3 (by decide) (hts (.fieldLink RX5 35 "DutyDesk$Reader" "at" "I") (List.mem_of_getElem? (i := 2) rfl)) (fun _ h9 => h9) rfl dX5_readNumber_6 ?_
  refine lv_aload_n hx hb dX5_readNumber_9 rfl (lv_at hl 0 rfl) ?_
  refine va_get (D := G.1) (ci := 5) (v := .int (gI S_8 0)) (C := RX5) (T := TX5) (N := 12) hx hb hts hin5 hown hG.1 hw.1 1 rfl rfl 1 (by decide) (hts (.fieldLink RX5 23 "DutyDesk$Reader" "length" "I") (List.mem_of_getElem? (i := 3) rfl)) (fun _ h9 => h9) rfl dX5_readNumber_10 ?_
  refine lv_icmp_ge (tgt := 81) hx hb dX5_readNumber_13 (by decide) (fun c_9 => ?_) (fun c_9 => ?_)
  · replace hf := if_t c_9 hf
    obtain ⟨z_10, hj_11, hf⟩ := bind_of hf
    have e_12 := Option.some.inj hf
    have e_13 := hz2_0_5 _ e_12.symm
    exact j81 S_8 _ _ _ (hj_11.trans (congrArg some e_13)) hw (lv_sub hl [0] rfl)
  · replace hf := if_f c_9 hf
    refine lv_aload_n hx hb dX5_readNumber_16 rfl (lv_at hl 0 rfl) ?_
    refine va_get (D := G.1) (ci := 5) (v := .ref (a 7)) (C := RX5) (T := TX5) (N := 12) hx hb hts hin5 hown hG.1 hw.1 1 rfl rfl 0 (by decide) (hts (.fieldLink RX5 9 "DutyDesk$Reader" "tape" "[B") (List.mem_of_getElem? (i := 4) rfl)) (fun _ h9 => h9) rfl dX5_readNumber_17 ?_
    refine lv_aload_n hx hb dX5_readNumber_20 rfl (lv_at hl 0 rfl) ?_
    refine va_get (D := G.1) (ci := 5) (v := .int (gI S_8 1)) (C := RX5) (T := TX5) (N := 12) hx hb hts hin5 hown hG.1 hw.1 1 rfl rfl 3 (by decide) (hts (.fieldLink RX5 35 "DutyDesk$Reader" "at" "I") (List.mem_of_getElem? (i := 2) rfl)) (fun _ h9 => h9) rfl dX5_readNumber_21 ?_
    obtain ⟨h_14, hf⟩ := gd_of hf
    refine va_bald hx hb hG.1 hw.1 7 0 rfl rfl h_14 dX5_readNumber_24 ?_
    obtain ⟨r_16, h_15, hf⟩ := bind_of hf
    refine cS (As := [.int (gM S_8 7 (gI S_8 1).toNatClampNeg)]) (rest := []) ⟨hx, hb, hml, hown, hts⟩ hG hA hw (c_X5_isDigit G l _ (gM S_8 7 (gI S_8 1).toNatClampNeg) r_16 h_15) (va_cwS 1 hts gX5_readNumber_X5_isDigit rfl rfl rfl (by decide +kernel) ⟨Nat.le_of_ble_eq_true rfl, Nat.le_of_ble_eq_true rfl⟩) rfl hl.1 rfl (Nat.le_of_ble_eq_true rfl) dX5_readNumber_25 ⟨Nat.zero_le _, Nat.zero_le _⟩ (fun H locs hw => ?_)
    refine lv_if_eq (tgt := 81) hx hb dX5_readNumber_28 (by decide) (fun c_17 => ?_) (fun c_17 => ?_)
    · replace hf := if_t c_17 hf
      obtain ⟨z_18, hj_19, hf⟩ := bind_of hf
      have e_20 := Option.some.inj hf
      have e_21 := hz2_0_5 _ e_20.symm
      exact j81 S_8 _ _ _ (hj_19.trans (congrArg some e_21)) hw (lv_sub hl [0] rfl)
    · replace hf := if_f c_17 hf
      refine lv_aload_n hx hb dX5_readNumber_31 rfl (lv_at hl 0 rfl) ?_
      refine va_get (D := G.1) (ci := 5) (v := .int (gI S_8 1)) (C := RX5) (T := TX5) (N := 12) hx hb hts hin5 hown hG.1 hw.1 1 rfl rfl 3 (by decide) (hts (.fieldLink RX5 35 "DutyDesk$Reader" "at" "I") (List.mem_of_getElem? (i := 2) rfl)) (fun _ h9 => h9) rfl dX5_readNumber_32 ?_
      refine lv_aload_n hx hb dX5_readNumber_35 rfl (lv_at hl 0 rfl) ?_
      refine va_get (D := G.1) (ci := 5) (v := .int (gI S_8 3)) (C := RX5) (T := TX5) (N := 12) hx hb hts hin5 hown hG.1 hw.1 1 rfl rfl 5 (by decide) (hts (.fieldLink RX5 56 "DutyDesk$Reader" "tokenPlace" "I") (List.mem_of_getElem? (i := 5) rfl)) (fun _ h9 => h9) rfl dX5_readNumber_36 ?_
      refine lv_isub hx hb dX5_readNumber_39 ?_
      refine lv_iconst (v := 4) hx hb dX5_readNumber_40 (by decide) ?_
      refine lv_icmp_ge (tgt := 68) hx hb dX5_readNumber_41 (by decide) (fun c_22 => ?_) (fun c_22 => ?_)
      · replace hf := if_t c_22 hf
        refine lv_aload_n hx hb dX5_readNumber_68 rfl (lv_at hl 0 rfl) ?_
        refine lv_dup hx hb dX5_readNumber_69 rfl ?_
        refine va_get (D := G.1) (ci := 5) (v := .int (gI S_8 1)) (C := RX5) (T := TX5) (N := 12) hx hb hts hin5 hown hG.1 hw.1 1 rfl rfl 3 (by decide) (hts (.fieldLink RX5 35 "DutyDesk$Reader" "at" "I") (List.mem_of_getElem? (i := 2) rfl)) (fun _ h9 => h9) rfl dX5_readNumber_70 ?_
        refine lv_iconst (v := 1) hx hb dX5_readNumber_73 (by decide) ?_
        refine lv_iadd hx hb dX5_readNumber_74 ?_
        refine va_put (D := G.1) (ci := 5) (v := .int ((gI S_8 1) + 1)) (ty := .int) (C := RX5) (T := TX5) (N := 12) hx hb hts hin5 tyX5 tyX5_ok nmX5 hown hG.1 hw.1 hw.2.1 hw.2.2 1 rfl rfl 3 (by decide) (hts (.fieldLink RX5 35 "DutyDesk$Reader" "at" "I") (List.mem_of_getElem? (i := 2) rfl)) (fun _ h9 => h9) rfl (by decide +kernel) rfl rfl (Nat.le_of_ble_eq_true rfl) dX5_readNumber_75 (fun H locs hP hD hS => ?_)
        obtain ⟨S_23, eS_23⟩ : ∃ z : St, z = sI S_8 1 ((gI S_8 1) + 1) := ⟨_, rfl⟩
        replace hf := bnd_of eS_23 hf
        have hw : Wd G A s H locs (xw G.2.1 a R S_23) := wd_eq (by rw [eS_23]; exact xw_upI1 _) hP hD hS
        refine lv_goto (tgt := 5) hx hb dX5_readNumber_78 (by decide) ?_
        have e_24 := Option.some.inj hf
        exact hz1_0_5 _ e_24.symm _ _ _ hw (lv_sub hl [0] rfl)
      · replace hf := if_f c_22 hf
        refine lv_aload_n hx hb dX5_readNumber_44 rfl (lv_at hl 0 rfl) ?_
        refine lv_aload_n hx hb dX5_readNumber_45 rfl (lv_at hl 0 rfl) ?_
        refine va_get (D := G.1) (ci := 5) (v := .int (gI S_8 4)) (C := RX5) (T := TX5) (N := 12) hx hb hts hin5 hown hG.1 hw.1 1 rfl rfl 6 (by decide) (hts (.fieldLink RX5 72 "DutyDesk$Reader" "number" "I") (List.mem_of_getElem? (i := 1) rfl)) (fun _ h9 => h9) rfl dX5_readNumber_46 ?_
        refine lv_bipush (v := 10) hx hb dX5_readNumber_49 (by decide) ?_
        refine lv_imul hx hb dX5_readNumber_51 ?_
        refine lv_aload_n hx hb dX5_readNumber_52 rfl (lv_at hl 0 rfl) ?_
        refine va_get (D := G.1) (ci := 5) (v := .ref (a 7)) (C := RX5) (T := TX5) (N := 12) hx hb hts hin5 hown hG.1 hw.1 1 rfl rfl 0 (by decide) (hts (.fieldLink RX5 9 "DutyDesk$Reader" "tape" "[B") (List.mem_of_getElem? (i := 4) rfl)) (fun _ h9 => h9) rfl dX5_readNumber_53 ?_
        refine lv_aload_n hx hb dX5_readNumber_56 rfl (lv_at hl 0 rfl) ?_
        refine va_get (D := G.1) (ci := 5) (v := .int (gI S_8 1)) (C := RX5) (T := TX5) (N := 12) hx hb hts hin5 hown hG.1 hw.1 1 rfl rfl 3 (by decide) (hts (.fieldLink RX5 35 "DutyDesk$Reader" "at" "I") (List.mem_of_getElem? (i := 2) rfl)) (fun _ h9 => h9) rfl dX5_readNumber_57 ?_
        obtain ⟨h_25, hf⟩ := gd_of hf
        refine va_bald hx hb hG.1 hw.1 7 0 rfl rfl h_25 dX5_readNumber_60 ?_
        refine lv_iadd hx hb dX5_readNumber_61 ?_
        refine lv_bipush (v := 48) hx hb dX5_readNumber_62 (by decide) ?_
        refine lv_isub hx hb dX5_readNumber_64 ?_
        refine va_put (D := G.1) (ci := 5) (v := .int ((((gI S_8 4) * 10) + (gM S_8 7 (gI S_8 1).toNatClampNeg)) - 48)) (ty := .int) (C := RX5) (T := TX5) (N := 12) hx hb hts hin5 tyX5 tyX5_ok nmX5 hown hG.1 hw.1 hw.2.1 hw.2.2 1 rfl rfl 6 (by decide) (hts (.fieldLink RX5 72 "DutyDesk$Reader" "number" "I") (List.mem_of_getElem? (i := 1) rfl)) (fun _ h9 => h9) rfl (by decide +kernel) rfl rfl (Nat.le_of_ble_eq_true rfl) dX5_readNumber_65 (fun H locs hP hD hS => ?_)
        obtain ⟨S_26, eS_26⟩ : ∃ z : St, z = sI S_8 4 ((((gI S_8 4) * 10) + (gM S_8 7 (gI S_8 1).toNatClampNeg)) - 48) := ⟨_, rfl⟩
        replace hf := bnd_of eS_26 hf
        have hw : Wd G A s H locs (xw G.2.1 a R S_26) := wd_eq (by rw [eS_26]; exact xw_upI4 _) hP hD hS
        refine lv_aload_n hx hb dX5_readNumber_68 rfl (lv_at hl 0 rfl) ?_
        refine lv_dup hx hb dX5_readNumber_69 rfl ?_
        refine va_get (D := G.1) (ci := 5) (v := .int (gI S_26 1)) (C := RX5) (T := TX5) (N := 12) hx hb hts hin5 hown hG.1 hw.1 1 rfl rfl 3 (by decide) (hts (.fieldLink RX5 35 "DutyDesk$Reader" "at" "I") (List.mem_of_getElem? (i := 2) rfl)) (fun _ h9 => h9) rfl dX5_readNumber_70 ?_
        refine lv_iconst (v := 1) hx hb dX5_readNumber_73 (by decide) ?_
        refine lv_iadd hx hb dX5_readNumber_74 ?_
        refine va_put (D := G.1) (ci := 5) (v := .int ((gI S_26 1) + 1)) (ty := .int) (C := RX5) (T := TX5) (N := 12) hx hb hts hin5 tyX5 tyX5_ok nmX5 hown hG.1 hw.1 hw.2.1 hw.2.2 1 rfl rfl 3 (by decide) (hts (.fieldLink RX5 35 "DutyDesk$Reader" "at" "I") (List.mem_of_getElem? (i := 2) rfl)) (fun _ h9 => h9) rfl (by decide +kernel) rfl rfl (Nat.le_of_ble_eq_true rfl) dX5_readNumber_75 (fun H locs hP hD hS => ?_)
        obtain ⟨S_27, eS_27⟩ : ∃ z : St, z = sI S_26 1 ((gI S_26 1) + 1) := ⟨_, rfl⟩
        replace hf := bnd_of eS_27 hf
        have hw : Wd G A s H locs (xw G.2.1 a R S_27) := wd_eq (by rw [eS_27]; exact xw_upI1 _) hP hD hS
        refine lv_goto (tgt := 5) hx hb dX5_readNumber_78 (by decide) ?_
        have e_28 := Option.some.inj hf
        exact hz1_0_5 _ e_28.symm _ _ _ hw (lv_sub hl [0] rfl)
/-! DutyDesk$Reader.nextToken()V -/
def rm_X5_nextToken : Room := { frames := 2, cells := 0, slots := 0, locals := 40 }
def f_X5_nextToken_J148 (z_1 : Int32) (S_2 : St) : Option (St) :=
  bnd (sI S_2 2 z_1) fun S_3 => bnd (sI S_3 1 ((gI S_3 1) + 1)) fun S_4 => some (S_4)
def f_X5_nextToken_J52 (S_6 : St) : Option (St) :=
  bnd (sI S_6 3 (gI S_6 1)) fun S_7 => (if (gI S_7 1) < (gI S_7 0) then
    gd (gI S_7 1) 1000 ((f_X5_isLetter (gM S_7 7 (gI S_7 1).toNatClampNeg)).bind (fun r_11 => (if r_11 = 0 then
    gd (gI S_7 1) 1000 ((f_X5_isDigit (gM S_7 7 (gI S_7 1).toNatClampNeg)).bind (fun r_15 => (if r_15 = 0 then
    gd (gI S_7 1) 1000 ((if (gM S_7 7 (gI S_7 1).toNatClampNeg) = 59 then
    f_X5_nextToken_J148 3 S_7
  else
    f_X5_nextToken_J148 0 S_7))
  else
    (f_X5_readNumber S_7).bind (fun S_20 => some (S_20)))))
  else
    bnd (sI S_7 2 1) fun S_22 => (f_X5_skipLetters S_22).bind (fun S_24 => some (S_24)))))
  else
    bnd (sI S_7 2 4) fun S_26 => some (S_26))
def f_X5_nextToken_L0  : St → Option ((St) ⊕ (St))
  | S_28 =>
  (if (gI S_28 0) ≤ (gI S_28 1) then
    (f_X5_nextToken_J52 S_28).bind (fun z_30 => some (.inr (z_30)))
  else
    gd (gI S_28 1) 1000 ((if (gM S_28 7 (gI S_28 1).toNatClampNeg) = 32 then
    bnd (sI S_28 1 ((gI S_28 1) + 1)) fun S_36 => some (.inl S_36)
  else
    gd (gI S_28 1) 1000 ((if (gM S_28 7 (gI S_28 1).toNatClampNeg) = 10 then
    bnd (sI S_28 1 ((gI S_28 1) + 1)) fun S_44 => some (.inl S_44)
  else
    (f_X5_nextToken_J52 S_28).bind (fun z_40 => some (.inr (z_40))))))))
def f_X5_nextToken (S : St) : Option (St) :=
  loopF (f_X5_nextToken_L0 ) FU S
set_option maxHeartbeats 4000000 in
set_option maxRecDepth 100000 in
theorem c_X5_nextToken (G : GP) (l : Launch) (a : Nat → Nat) (ha : a 45 = G.2.2.1) (R : va_W) (S : St) (S9 : St) (hf : f_X5_nextToken S = some S9) : MC G l yX5_nextToken wsX5_nextToken rm_X5_nextToken [.ref (a 1)] (xw G.2.1 a R S) (xw G.2.1 a R S9) none 0 0 := by
  refine MC.mk (cc := cX5_nextToken) (maxL := 1) (ret := none) (by decide) rfl (Nat.le_of_ble_eq_true rfl) ?_
  intro p e s m below meth c A ls ⟨hx, hb, hr, hml, hown, hlocks, _, hts⟩ hw hG hA hl
  have hl : lv_has ls 1 [(0, .ref (a 1))] := hl
  have hin5 : ∀ w ∈ u_ws RX5 TX5 12, w ∈ wsX5_nextToken := by decide +kernel
  rw [f_X5_nextToken] at hf
  have j148 : ∀ (z_1 : Int32) (S_2 : St) (H : Heap) (locs : List Loc) (ls : Array Slot), f_X5_nextToken_J148 z_1 S_2 = some S9 → Wd G A s H locs (xw G.2.1 a R S_2) → lv_has ls 1 [(0, .ref (a 1))] → WQ p l e rm_X5_nextToken s m [.ref (a 1)] below meth c G A (xw G.2.1 a R S9) none 0 0 H locs 0 0 (F0 m 148 ls [.int z_1, .ref (a 1)]) := by
    intro z_1 S_2 H locs ls hf hw hl
    rw [f_X5_nextToken_J148] at hf
    refine va_put (D := G.1) (ci := 5) (v := .int z_1) (ty := .int) (C := RX5) (T := TX5) (N := 12) hx hb hts hin5 tyX5 tyX5_ok nmX5 hown hG.1 hw.1 hw.2.1 hw.2.2 1 rfl rfl 4 (by decide) (hts (.fieldLink RX5 38 "DutyDesk$Reader" "token" "I") (List.mem_of_getElem? (i := 5) rfl)) (fun _ h9 => h9) rfl (by decide +kernel) rfl rfl (Nat.le_of_ble_eq_true rfl) dX5_nextToken_148 (fun H locs hP hD hS => ?_)
    obtain ⟨S_3, eS_3⟩ : ∃ z : St, z = sI S_2 2 z_1 := ⟨_, rfl⟩
    replace hf := bnd_of eS_3 hf
    have hw : Wd G A s H locs (xw G.2.1 a R S_3) := wd_eq (by rw [eS_3]; exact xw_upI2 _) hP hD hS
    refine lv_aload_n hx hb dX5_nextToken_151 rfl (lv_at hl 0 rfl) ?_
    refine lv_dup hx hb dX5_nextToken_152 rfl ?_
    refine va_get (D := G.1) (ci := 5) (v := .int (gI S_3 1)) (C := RX5) (T := TX5) (N := 12) hx hb hts hin5 hown hG.1 hw.1 1 rfl rfl 3 (by decide) (hts (.fieldLink RX5 35 "DutyDesk$Reader" "at" "I") (List.mem_of_getElem? (i := 1) rfl)) (fun _ h9 => h9) rfl dX5_nextToken_153 ?_
    refine lv_iconst (v := 1) hx hb dX5_nextToken_156 (by decide) ?_
    refine lv_iadd hx hb dX5_nextToken_157 ?_
    refine va_put (D := G.1) (ci := 5) (v := .int ((gI S_3 1) + 1)) (ty := .int) (C := RX5) (T := TX5) (N := 12) hx hb hts hin5 tyX5 tyX5_ok nmX5 hown hG.1 hw.1 hw.2.1 hw.2.2 1 rfl rfl 3 (by decide) (hts (.fieldLink RX5 35 "DutyDesk$Reader" "at" "I") (List.mem_of_getElem? (i := 1) rfl)) (fun _ h9 => h9) rfl (by decide +kernel) rfl rfl (Nat.le_of_ble_eq_true rfl) dX5_nextToken_158 (fun H locs hP hD hS => ?_)
    obtain ⟨S_4, eS_4⟩ : ∃ z : St, z = sI S_3 1 ((gI S_3 1) + 1) := ⟨_, rfl⟩
    replace hf := bnd_of eS_4 hf
    have hw : Wd G A s H locs (xw G.2.1 a R S_4) := wd_eq (by rw [eS_4]; exact xw_upI1 _) hP hD hS
    have e_5 := Option.some.inj hf
    subst e_5
    exact wd_vret hx hb hr hlocks hw dX5_nextToken_161
  have j52 : ∀ (S_6 : St) (H : Heap) (locs : List Loc) (ls : Array Slot), f_X5_nextToken_J52 S_6 = some S9 → Wd G A s H locs (xw G.2.1 a R S_6) → lv_has ls 1 [(0, .ref (a 1))] → WQ p l e rm_X5_nextToken s m [.ref (a 1)] below meth c G A (xw G.2.1 a R S9) none 0 0 H locs 0 0 (F0 m 52 ls []) := by
    intro S_6 H locs ls hf hw hl
    rw [f_X5_nextToken_J52] at hf
    refine lv_aload_n hx hb dX5_nextToken_52 rfl (lv_at hl 0 rfl) ?_
    refine lv_aload_n hx hb dX5_nextToken_53 rfl (lv_at hl 0 rfl) ?_
    refine va_get (D := G.1) (ci := 5) (v := .int (gI S_6 1)) (C := RX5) (T := TX5) (N := 12) hx hb hts hin5 hown hG.1 hw.1 1 rfl rfl 3 (by decide) (hts (.fieldLink RX5 35 "DutyDesk$Reader" "at" "I") (List.mem_of_getElem? (i := 1) rfl)) (fun _ h9 => h9) rfl dX5_nextToken_54 ?_
    refine va_put (D := G.1) (ci := 5) (v := .int (gI S_6 1)) (ty := .int) (C := RX5) (T := TX5) (N := 12) hx hb hts hin5 tyX5 tyX5_ok nmX5 hown hG.1 hw.1 hw.2.1 hw.2.2 1 rfl rfl 5 (by decide) (hts (.fieldLink RX5 56 "DutyDesk$Reader" "tokenPlace" "I") (List.mem_of_getElem? (i := 4) rfl)) (fun _ h9 => h9) rfl (by decide +kernel) rfl rfl (Nat.le_of_ble_eq_true rfl) dX5_nextToken_57 (fun H locs hP hD hS => ?_)
    obtain ⟨S_7, eS_7⟩ : ∃ z : St, z = sI S_6 3 (gI S_6 1) := ⟨_, rfl⟩
    replace hf := bnd_of eS_7 hf
    have hw : Wd G A s H locs (xw G.2.1 a R S_7) := wd_eq (by rw [eS_7]; exact xw_upI3 _) hP hD hS
    refine lv_aload_n hx hb dX5_nextToken_60 rfl (lv_at hl 0 rfl) ?_
    refine va_get (D := G.1) (ci := 5) (v := .int (gI S_7 1)) (C := RX5) (T := TX5) (N := 12) hx hb hts hin5 hown hG.1 hw.1 1 rfl rfl 3 (by decide) (hts (.fieldLink RX5 35 "DutyDesk$Reader" "at" "I") (List.mem_of_getElem? (i := 1) rfl)) (fun _ h9 => h9) rfl dX5_nextToken_61 ?_
    refine lv_aload_n hx hb dX5_nextToken_64 rfl (lv_at hl 0 rfl) ?_
    refine va_get (D := G.1) (ci := 5) (v := .int (gI S_7 0)) (C := RX5) (T := TX5) (N := 12) hx hb hts hin5 hown hG.1 hw.1 1 rfl rfl 1 (by decide) (hts (.fieldLink RX5 23 "DutyDesk$Reader" "length" "I") (List.mem_of_getElem? (i := 2) rfl)) (fun _ h9 => h9) rfl dX5_nextToken_65 ?_
    refine lv_icmp_lt (tgt := 79) hx hb dX5_nextToken_68 (by decide) (fun c_8 => ?_) (fun c_8 => ?_)
    · replace hf := if_t c_8 hf
      refine lv_aload_n hx hb dX5_nextToken_79 rfl (lv_at hl 0 rfl) ?_
      refine va_get (D := G.1) (ci := 5) (v := .ref (a 7)) (C := RX5) (T := TX5) (N := 12) hx hb hts hin5 hown hG.1 hw.1 1 rfl rfl 0 (by decide) (hts (.fieldLink RX5 9 "DutyDesk$Reader" "tape" "[B") (List.mem_of_getElem? (i := 3) rfl)) (fun _ h9 => h9) rfl dX5_nextToken_80 ?_
      refine lv_aload_n hx hb dX5_nextToken_83 rfl (lv_at hl 0 rfl) ?_
      refine va_get (D := G.1) (ci := 5) (v := .int (gI S_7 1)) (C := RX5) (T := TX5) (N := 12) hx hb hts hin5 hown hG.1 hw.1 1 rfl rfl 3 (by decide) (hts (.fieldLink RX5 35 "DutyDesk$Reader" "at" "I") (List.mem_of_getElem? (i := 1) rfl)) (fun _ h9 => h9) rfl dX5_nextToken_84 ?_
      obtain ⟨h_9, hf⟩ := gd_of hf
      refine va_bald hx hb hG.1 hw.1 7 0 rfl rfl h_9 dX5_nextToken_87 ?_
      obtain ⟨r_11, h_10, hf⟩ := bind_of hf
      refine cS (As := [.int (gM S_7 7 (gI S_7 1).toNatClampNeg)]) (rest := []) ⟨hx, hb, hml, hown, hts⟩ hG hA hw (c_X5_isLetter G l _ (gM S_7 7 (gI S_7 1).toNatClampNeg) r_11 h_10) (va_cwS 1 hts gX5_nextToken_X5_isLetter rfl rfl rfl (by decide +kernel) ⟨Nat.le_of_ble_eq_true rfl, Nat.le_of_ble_eq_true rfl⟩) rfl hl.1 rfl (Nat.le_of_ble_eq_true rfl) dX5_nextToken_88 ⟨Nat.zero_le _, Nat.zero_le _⟩ (fun H locs hw => ?_)
      refine lv_if_eq (tgt := 106) hx hb dX5_nextToken_91 (by decide) (fun c_12 => ?_) (fun c_12 => ?_)
      · replace hf := if_t c_12 hf
        refine lv_aload_n hx hb dX5_nextToken_106 rfl (lv_at hl 0 rfl) ?_
        refine va_get (D := G.1) (ci := 5) (v := .ref (a 7)) (C := RX5) (T := TX5) (N := 12) hx hb hts hin5 hown hG.1 hw.1 1 rfl rfl 0 (by decide) (hts (.fieldLink RX5 9 "DutyDesk$Reader" "tape" "[B") (List.mem_of_getElem? (i := 3) rfl)) (fun _ h9 => h9) rfl dX5_nextToken_107 ?_
        refine lv_aload_n hx hb dX5_nextToken_110 rfl (lv_at hl 0 rfl) ?_
        refine va_get (D := G.1) (ci := 5) (v := .int (gI S_7 1)) (C := RX5) (T := TX5) (N := 12) hx hb hts hin5 hown hG.1 hw.1 1 rfl rfl 3 (by decide) (hts (.fieldLink RX5 35 "DutyDesk$Reader" "at" "I") (List.mem_of_getElem? (i := 1) rfl)) (fun _ h9 => h9) rfl dX5_nextToken_111 ?_
        obtain ⟨h_13, hf⟩ := gd_of hf
        refine va_bald hx hb hG.1 hw.1 7 0 rfl rfl h_13 dX5_nextToken_114 ?_
        obtain ⟨r_15, h_14, hf⟩ := bind_of hf
        refine cS (As := [.int (gM S_7 7 (gI S_7 1).toNatClampNeg)]) (rest := []) ⟨hx, hb, hml, hown, hts⟩ hG hA hw (c_X5_isDigit G l _ (gM S_7 7 (gI S_7 1).toNatClampNeg) r_15 h_14) (va_cwS 1 hts gX5_nextToken_X5_isDigit rfl rfl rfl (by decide +kernel) ⟨Nat.le_of_ble_eq_true rfl, Nat.le_of_ble_eq_true rfl⟩) rfl hl.1 rfl (Nat.le_of_ble_eq_true rfl) dX5_nextToken_115 ⟨Nat.zero_le _, Nat.zero_le _⟩ (fun H locs hw => ?_)
        refine lv_if_eq (tgt := 128) hx hb dX5_nextToken_118 (by decide) (fun c_16 => ?_) (fun c_16 => ?_)
        · replace hf := if_t c_16 hf
          refine lv_aload_n hx hb dX5_nextToken_128 rfl (lv_at hl 0 rfl) ?_
          refine lv_aload_n hx hb dX5_nextToken_129 rfl (lv_at hl 0 rfl) ?_
          refine va_get (D := G.1) (ci := 5) (v := .ref (a 7)) (C := RX5) (T := TX5) (N := 12) hx hb hts hin5 hown hG.1 hw.1 1 rfl rfl 0 (by decide) (hts (.fieldLink RX5 9 "DutyDesk$Reader" "tape" "[B") (List.mem_of_getElem? (i := 3) rfl)) (fun _ h9 => h9) rfl dX5_nextToken_130 ?_
          refine lv_aload_n hx hb dX5_nextToken_133 rfl (lv_at hl 0 rfl) ?_
          refine va_get (D := G.1) (ci := 5) (v := .int (gI S_7 1)) (C := RX5) (T := TX5) (N := 12) hx hb hts hin5 hown hG.1 hw.1 1 rfl rfl 3 (by decide) (hts (.fieldLink RX5 35 "DutyDesk$Reader" "at" "I") (List.mem_of_getElem? (i := 1) rfl)) (fun _ h9 => h9) rfl dX5_nextToken_134 ?_
          obtain ⟨h_17, hf⟩ := gd_of hf
          refine va_bald hx hb hG.1 hw.1 7 0 rfl rfl h_17 dX5_nextToken_137 ?_
          refine lv_bipush (v := 59) hx hb dX5_nextToken_138 (by decide) ?_
          refine lv_icmp_ne (tgt := 147) hx hb dX5_nextToken_140 (by decide) (fun c_18 => ?_) (fun c_18 => ?_)
          · replace hf := if_f c_18 hf
            refine lv_iconst (v := 0) hx hb dX5_nextToken_147 (by decide) ?_
            exact j148 0 S_7 _ _ _ hf hw (lv_sub hl [0] rfl)
          · replace hf := if_t c_18 hf
            refine lv_iconst (v := 3) hx hb dX5_nextToken_143 (by decide) ?_
            refine lv_goto (tgt := 148) hx hb dX5_nextToken_144 (by decide) ?_
            exact j148 3 S_7 _ _ _ hf hw (lv_sub hl [0] rfl)
        · replace hf := if_f c_16 hf
          refine lv_aload_n hx hb dX5_nextToken_121 rfl (lv_at hl 0 rfl) ?_
          obtain ⟨S_20, h_19, hf⟩ := bind_of hf
          refine cV (As := []) (rest := []) ⟨hx, hb, hml, hown, hts⟩ hG hA hw (c_X5_readNumber G l a ha R S_7 S_20 h_19) (cwV 0 hts gX5_nextToken_X5_readNumber rfl rfl rfl (by decide +kernel) ⟨Nat.le_of_ble_eq_true rfl, Nat.le_of_ble_eq_true rfl⟩) (va_recv hG.1 hw.1 (ci := 5) (q0 := 1) rfl rfl) rfl hl.1 rfl (Nat.le_of_ble_eq_true rfl) dX5_nextToken_122 ⟨Nat.zero_le _, Nat.zero_le _⟩ (fun H locs hw => ?_)
          refine lv_goto (tgt := 161) hx hb dX5_nextToken_125 (by decide) ?_
          have e_21 := Option.some.inj hf
          subst e_21
          exact wd_vret hx hb hr hlocks hw dX5_nextToken_161
      · replace hf := if_f c_12 hf
        refine lv_aload_n hx hb dX5_nextToken_94 rfl (lv_at hl 0 rfl) ?_
        refine lv_iconst (v := 1) hx hb dX5_nextToken_95 (by decide) ?_
        refine va_put (D := G.1) (ci := 5) (v := .int 1) (ty := .int) (C := RX5) (T := TX5) (N := 12) hx hb hts hin5 tyX5 tyX5_ok nmX5 hown hG.1 hw.1 hw.2.1 hw.2.2 1 rfl rfl 4 (by decide) (hts (.fieldLink RX5 38 "DutyDesk$Reader" "token" "I") (List.mem_of_getElem? (i := 5) rfl)) (fun _ h9 => h9) rfl (by decide +kernel) rfl rfl (Nat.le_of_ble_eq_true rfl) dX5_nextToken_96 (fun H locs hP hD hS => ?_)
        obtain ⟨S_22, eS_22⟩ : ∃ z : St, z = sI S_7 2 1 := ⟨_, rfl⟩
        replace hf := bnd_of eS_22 hf
        have hw : Wd G A s H locs (xw G.2.1 a R S_22) := wd_eq (by rw [eS_22]; exact xw_upI2 _) hP hD hS
        refine lv_aload_n hx hb dX5_nextToken_99 rfl (lv_at hl 0 rfl) ?_
        obtain ⟨S_24, h_23, hf⟩ := bind_of hf
        refine cV (As := []) (rest := []) ⟨hx, hb, hml, hown, hts⟩ hG hA hw (c_X5_skipLetters G l a ha R S_22 S_24 h_23) (cwV 0 hts gX5_nextToken_X5_skipLetters rfl rfl rfl (by decide +kernel) ⟨Nat.le_of_ble_eq_true rfl, Nat.le_of_ble_eq_true rfl⟩) (va_recv hG.1 hw.1 (ci := 5) (q0 := 1) rfl rfl) rfl hl.1 rfl (Nat.le_of_ble_eq_true rfl) dX5_nextToken_100 ⟨Nat.zero_le _, Nat.zero_le _⟩ (fun H locs hw => ?_)
        refine lv_goto (tgt := 161) hx hb dX5_nextToken_103 (by decide) ?_
        have e_25 := Option.some.inj hf
        subst e_25
        exact wd_vret hx hb hr hlocks hw dX5_nextToken_161
    · replace hf := if_f c_8 hf
      refine lv_aload_n hx hb dX5_nextToken_71 rfl (lv_at hl 0 rfl) ?_
      refine lv_iconst (v := 4) hx hb dX5_nextToken_72 (by decide) ?_
      refine va_put (D := G.1) (ci := 5) (v := .int 4) (ty := .int) (C := RX5) (T := TX5) (N := 12) hx hb hts hin5 tyX5 tyX5_ok nmX5 hown hG.1 hw.1 hw.2.1 hw.2.2 1 rfl rfl 4 (by decide) (hts (.fieldLink RX5 38 "DutyDesk$Reader" "token" "I") (List.mem_of_getElem? (i := 5) rfl)) (fun _ h9 => h9) rfl (by decide +kernel) rfl rfl (Nat.le_of_ble_eq_true rfl) dX5_nextToken_73 (fun H locs hP hD hS => ?_)
      obtain ⟨S_26, eS_26⟩ : ∃ z : St, z = sI S_7 2 4 := ⟨_, rfl⟩
      replace hf := bnd_of eS_26 hf
      have hw : Wd G A s H locs (xw G.2.1 a R S_26) := wd_eq (by rw [eS_26]; exact xw_upI2 _) hP hD hS
      refine lv_goto (tgt := 161) hx hb dX5_nextToken_76 (by decide) ?_
      have e_27 := Option.some.inj hf
      subst e_27
      exact wd_vret hx hb hr hlocks hw dX5_nextToken_161
  refine loopF_ind (body := f_X5_nextToken_L0 ) (fun (S_28 : St) => ∀ (H : Heap) (locs : List Loc) (ls : Array Slot), Wd G A s H locs (xw G.2.1 a R S_28) → lv_has ls 1 [(0, .ref (a 1))] → WQ p l e rm_X5_nextToken s m [.ref (a 1)] below meth c G A (xw G.2.1 a R S9) none 0 0 H locs 0 0 (F0 m 0 ls [])) ?_ FU S hf _ _ _ hw (lv_sub hl [0] rfl)
  clear hf hw hl
  intro S_28 t0_0 hf hz1_0_0 hz2_0_0 H locs ls hw hl
  rw [f_X5_nextToken_L0] at hf
  refine lv_aload_n hx hb dX5_nextToken_0 rfl (lv_at hl 0 rfl) ?_
  refine va_get (D := G.1) (ci := 5) (v := .int (gI S_28 1)) (C := RX5) (T := TX5) (N := 12) hx hb hts hin5 hown hG.1 hw.1 1 rfl rfl 3 (by decide) (hts (.fieldLink RX5 35 "DutyDesk$Reader" "at" "I") (List.mem_of_getElem? (i := 1) rfl)) (fun _ h9 => h9) rfl dX5_nextToken_1 ?_
  refine lv_aload_n hx hb dX5_nextToken_4 rfl (lv_at hl 0 rfl) ?_
  refine va_get (D := G.1) (ci := 5) (v := .int (gI S_28 0)) (C := RX5) (T := TX5) (N := 12) hx hb hts hin5 hown hG.1 hw.1 1 rfl rfl 1 (by decide) (hts (.fieldLink RX5 23 "DutyDesk$Reader" "length" "I") (List.mem_of_getElem? (i := 2) rfl)) (fun _ h9 => h9) rfl dX5_nextToken_5 ?_
  refine lv_icmp_ge (tgt := 52) hx hb dX5_nextToken_8 (by decide) (fun c_29 => ?_) (fun c_29 => ?_)
  · replace hf := if_t c_29 hf
    obtain ⟨z_30, hj_31, hf⟩ := bind_of hf
    have e_32 := Option.some.inj hf
    have e_33 := hz2_0_0 _ e_32.symm
    exact j52 S_28 _ _ _ (hj_31.trans (congrArg some e_33)) hw (lv_sub hl [0] rfl)
  · replace hf := if_f c_29 hf
    refine lv_aload_n hx hb dX5_nextToken_11 rfl (lv_at hl 0 rfl) ?_
    refine va_get (D := G.1) (ci := 5) (v := .ref (a 7)) (C := RX5) (T := TX5) (N := 12) hx hb hts hin5 hown hG.1 hw.1 1 rfl rfl 0 (by decide) (hts (.fieldLink RX5 9 "DutyDesk$Reader" "tape" "[B") (List.mem_of_getElem? (i := 3) rfl)) (fun _ h9 => h9) rfl dX5_nextToken_12 ?_
    refine lv_aload_n hx hb dX5_nextToken_15 rfl (lv_at hl 0 rfl) ?_
    refine va_get (D := G.1) (ci := 5) (v := .int (gI S_28 1)) (C := RX5) (T := TX5) (N := 12) hx hb hts hin5 hown hG.1 hw.1 1 rfl rfl 3 (by decide) (hts (.fieldLink RX5 35 "DutyDesk$Reader" "at" "I") (List.mem_of_getElem? (i := 1) rfl)) (fun _ h9 => h9) rfl dX5_nextToken_16 ?_
    obtain ⟨h_34, hf⟩ := gd_of hf
    refine va_bald hx hb hG.1 hw.1 7 0 rfl rfl h_34 dX5_nextToken_19 ?_
    refine lv_bipush (v := 32) hx hb dX5_nextToken_20 (by decide) ?_
    refine lv_icmp_eq (tgt := 39) hx hb dX5_nextToken_22 (by decide) (fun c_35 => ?_) (fun c_35 => ?_)
    · replace hf := if_t c_35 hf
      refine lv_aload_n hx hb dX5_nextToken_39 rfl (lv_at hl 0 rfl) ?_
      refine lv_dup hx hb dX5_nextToken_40 rfl ?_
      refine va_get (D := G.1) (ci := 5) (v := .int (gI S_28 1)) (C := RX5) (T := TX5) (N := 12) hx hb hts hin5 hown hG.1 hw.1 1 rfl rfl 3 (by decide) (hts (.fieldLink RX5 35 "DutyDesk$Reader" "at" "I") (List.mem_of_getElem? (i := 1) rfl)) (fun _ h9 => h9) rfl dX5_nextToken_41 ?_
      refine lv_iconst (v := 1) hx hb dX5_nextToken_44 (by decide) ?_
      refine lv_iadd hx hb dX5_nextToken_45 ?_
      refine va_put (D := G.1) (ci := 5) (v := .int ((gI S_28 1) + 1)) (ty := .int) (C := RX5) (T := TX5) (N := 12) hx hb hts hin5 tyX5 tyX5_ok nmX5 hown hG.1 hw.1 hw.2.1 hw.2.2 1 rfl rfl 3 (by decide) (hts (.fieldLink RX5 35 "DutyDesk$Reader" "at" "I") (List.mem_of_getElem? (i := 1) rfl)) (fun _ h9 => h9) rfl (by decide +kernel) rfl rfl (Nat.le_of_ble_eq_true rfl) dX5_nextToken_46 (fun H locs hP hD hS => ?_)
      obtain ⟨S_36, eS_36⟩ : ∃ z : St, z = sI S_28 1 ((gI S_28 1) + 1) := ⟨_, rfl⟩
      replace hf := bnd_of eS_36 hf
      have hw : Wd G A s H locs (xw G.2.1 a R S_36) := wd_eq (by rw [eS_36]; exact xw_upI1 _) hP hD hS
      refine lv_goto (tgt := 0) hx hb dX5_nextToken_49 (by decide) ?_
      have e_37 := Option.some.inj hf
      exact hz1_0_0 _ e_37.symm _ _ _ hw (lv_sub hl [0] rfl)
    · replace hf := if_f c_35 hf
      refine lv_aload_n hx hb dX5_nextToken_25 rfl (lv_at hl 0 rfl) ?_
      refine va_get (D := G.1) (ci := 5) (v := .ref (a 7)) (C := RX5) (T := TX5) (N := 12) hx hb hts hin5 hown hG.1 hw.1 1 rfl rfl 0 (by decide) (hts (.fieldLink RX5 9 "DutyDesk$Reader" "tape" "[B") (List.mem_of_getElem? (i := 3) rfl)) (fun _ h9 => h9) rfl dX5_nextToken_26 ?_
      refine lv_aload_n hx hb dX5_nextToken_29 rfl (lv_at hl 0 rfl) ?_
      refine va_get (D := G.1) (ci := 5) (v := .int (gI S_28 1)) (C := RX5) (T := TX5) (N := 12) hx hb hts hin5 hown hG.1 hw.1 1 rfl rfl 3 (by decide) (hts (.fieldLink RX5 35 "DutyDesk$Reader" "at" "I") (List.mem_of_getElem? (i := 1) rfl)) (fun _ h9 => h9) rfl dX5_nextToken_30 ?_
      obtain ⟨h_38, hf⟩ := gd_of hf
      refine va_bald hx hb hG.1 hw.1 7 0 rfl rfl h_38 dX5_nextToken_33 ?_
      refine lv_bipush (v := 10) hx hb dX5_nextToken_34 (by decide) ?_
      refine lv_icmp_ne (tgt := 52) hx hb dX5_nextToken_36 (by decide) (fun c_39 => ?_) (fun c_39 => ?_)
      · replace hf := if_f c_39 hf
        obtain ⟨z_40, hj_41, hf⟩ := bind_of hf
        have e_42 := Option.some.inj hf
        have e_43 := hz2_0_0 _ e_42.symm
        exact j52 S_28 _ _ _ (hj_41.trans (congrArg some e_43)) hw (lv_sub hl [0] rfl)
      · replace hf := if_t c_39 hf
        refine lv_aload_n hx hb dX5_nextToken_39 rfl (lv_at hl 0 rfl) ?_
        refine lv_dup hx hb dX5_nextToken_40 rfl ?_
        refine va_get (D := G.1) (ci := 5) (v := .int (gI S_28 1)) (C := RX5) (T := TX5) (N := 12) hx hb hts hin5 hown hG.1 hw.1 1 rfl rfl 3 (by decide) (hts (.fieldLink RX5 35 "DutyDesk$Reader" "at" "I") (List.mem_of_getElem? (i := 1) rfl)) (fun _ h9 => h9) rfl dX5_nextToken_41 ?_
        refine lv_iconst (v := 1) hx hb dX5_nextToken_44 (by decide) ?_
        refine lv_iadd hx hb dX5_nextToken_45 ?_
        refine va_put (D := G.1) (ci := 5) (v := .int ((gI S_28 1) + 1)) (ty := .int) (C := RX5) (T := TX5) (N := 12) hx hb hts hin5 tyX5 tyX5_ok nmX5 hown hG.1 hw.1 hw.2.1 hw.2.2 1 rfl rfl 3 (by decide) (hts (.fieldLink RX5 35 "DutyDesk$Reader" "at" "I") (List.mem_of_getElem? (i := 1) rfl)) (fun _ h9 => h9) rfl (by decide +kernel) rfl rfl (Nat.le_of_ble_eq_true rfl) dX5_nextToken_46 (fun H locs hP hD hS => ?_)
        obtain ⟨S_44, eS_44⟩ : ∃ z : St, z = sI S_28 1 ((gI S_28 1) + 1) := ⟨_, rfl⟩
        replace hf := bnd_of eS_44 hf
        have hw : Wd G A s H locs (xw G.2.1 a R S_44) := wd_eq (by rw [eS_44]; exact xw_upI1 _) hP hD hS
        refine lv_goto (tgt := 0) hx hb dX5_nextToken_49 (by decide) ?_
        have e_45 := Option.some.inj hf
        exact hz1_0_0 _ e_45.symm _ _ _ hw (lv_sub hl [0] rfl)
/-! DutyDesk$Reader.ruleWord(I)Ljava/lang/String; -/
def rm_X5_ruleWord : Room := { frames := 0, cells := 0, slots := 0, locals := 0 }
def f_X5_ruleWord (p1 : Int32) : Option (Nat) :=
  (if p1 = 0 then
    some (0)
  else
    (if p1 = 1 then
    some (1)
  else
    (if p1 = 2 then
    some (2)
  else
    (if p1 = 3 then
    some (3)
  else
    (if p1 = 4 then
    some (4)
  else
    (if p1 = 5 then
    some (5)
  else
    (if p1 = 6 then
    some (6)
  else
    (if p1 = 7 then
    some (7)
  else
    (if p1 = 8 then
    some (8)
  else
    (if p1 = 9 then
    some (9)
  else
    some (10)))))))))))
set_option maxHeartbeats 4000000 in
set_option maxRecDepth 100000 in
theorem c_X5_ruleWord (G : GP) (l : Launch) (W0 : va_W) (p1 : Int32) (r0 : Nat) (hf : f_X5_ruleWord p1 = some r0) : MC G l yX5_ruleWord wsX5_ruleWord rm_X5_ruleWord [.int p1] (W0) (W0) (some (.ref (G.2.2.2.1 r0))) 0 0 := by
  refine MC.mk (cc := cX5_ruleWord) (maxL := 1) (ret := (some (.object "java/lang/String"))) (by decide) rfl (Nat.le_of_ble_eq_true rfl) ?_
  intro p e s m below meth c A ls ⟨hx, hb, hr, hml, hown, hlocks, _, hts⟩ hw hG hA hl
  have hl : lv_has ls 1 [(0, .int p1)] := hl
  rw [f_X5_ruleWord] at hf
  refine lv_iload_n hx hb dX5_ruleWord_0 rfl (lv_at hl 0 rfl) ?_
  by_cases c_1 : p1 = 0
  · replace hf := if_t c_1 hf
    refine lv_tableIn (off := 55) (tgt := 56) hx hb dX5_ruleWord_1 (by rw [c_1]; decide) (by rw [c_1]; decide) (by rw [c_1]; rfl) (by decide) ?_
    refine va_ldcS hx hb hown (hG.2.2.2.2.2.2.2 0 (by decide)) dX5_ruleWord_56 ?_
    have e_2 := Option.some.inj hf
    subst e_2
    exact wd_aret hx hb hr (by first | exact Or.inl ⟨_, rfl⟩ | exact Or.inr ⟨_, rfl⟩) hlocks hw dX5_ruleWord_58
  · replace hf := if_f c_1 hf
    by_cases c_3 : p1 = 1
    · replace hf := if_t c_3 hf
      refine lv_tableIn (off := 58) (tgt := 59) hx hb dX5_ruleWord_1 (by rw [c_3]; decide) (by rw [c_3]; decide) (by rw [c_3]; rfl) (by decide) ?_
      refine va_ldcS hx hb hown (hG.2.2.2.2.2.2.2 1 (by decide)) dX5_ruleWord_59 ?_
      have e_4 := Option.some.inj hf
      subst e_4
      exact wd_aret hx hb hr (by first | exact Or.inl ⟨_, rfl⟩ | exact Or.inr ⟨_, rfl⟩) hlocks hw dX5_ruleWord_61
    · replace hf := if_f c_3 hf
      by_cases c_5 : p1 = 2
      · replace hf := if_t c_5 hf
        refine lv_tableIn (off := 61) (tgt := 62) hx hb dX5_ruleWord_1 (by rw [c_5]; decide) (by rw [c_5]; decide) (by rw [c_5]; rfl) (by decide) ?_
        refine va_ldcS hx hb hown (hG.2.2.2.2.2.2.2 2 (by decide)) dX5_ruleWord_62 ?_
        have e_6 := Option.some.inj hf
        subst e_6
        exact wd_aret hx hb hr (by first | exact Or.inl ⟨_, rfl⟩ | exact Or.inr ⟨_, rfl⟩) hlocks hw dX5_ruleWord_64
      · replace hf := if_f c_5 hf
        by_cases c_7 : p1 = 3
        · replace hf := if_t c_7 hf
          refine lv_tableIn (off := 64) (tgt := 65) hx hb dX5_ruleWord_1 (by rw [c_7]; decide) (by rw [c_7]; decide) (by rw [c_7]; rfl) (by decide) ?_
          refine va_ldcS hx hb hown (hG.2.2.2.2.2.2.2 3 (by decide)) dX5_ruleWord_65 ?_
          have e_8 := Option.some.inj hf
          subst e_8
          exact wd_aret hx hb hr (by first | exact Or.inl ⟨_, rfl⟩ | exact Or.inr ⟨_, rfl⟩) hlocks hw dX5_ruleWord_67
        · replace hf := if_f c_7 hf
          by_cases c_9 : p1 = 4
          · replace hf := if_t c_9 hf
            refine lv_tableIn (off := 67) (tgt := 68) hx hb dX5_ruleWord_1 (by rw [c_9]; decide) (by rw [c_9]; decide) (by rw [c_9]; rfl) (by decide) ?_
            refine va_ldcS hx hb hown (hG.2.2.2.2.2.2.2 4 (by decide)) dX5_ruleWord_68 ?_
            have e_10 := Option.some.inj hf
            subst e_10
            exact wd_aret hx hb hr (by first | exact Or.inl ⟨_, rfl⟩ | exact Or.inr ⟨_, rfl⟩) hlocks hw dX5_ruleWord_70
          · replace hf := if_f c_9 hf
            by_cases c_11 : p1 = 5
            · replace hf := if_t c_11 hf
              refine lv_tableIn (off := 70) (tgt := 71) hx hb dX5_ruleWord_1 (by rw [c_11]; decide) (by rw [c_11]; decide) (by rw [c_11]; rfl) (by decide) ?_
              refine va_ldcS hx hb hown (hG.2.2.2.2.2.2.2 5 (by decide)) dX5_ruleWord_71 ?_
              have e_12 := Option.some.inj hf
              subst e_12
              exact wd_aret hx hb hr (by first | exact Or.inl ⟨_, rfl⟩ | exact Or.inr ⟨_, rfl⟩) hlocks hw dX5_ruleWord_73
            · replace hf := if_f c_11 hf
              by_cases c_13 : p1 = 6
              · replace hf := if_t c_13 hf
                refine lv_tableIn (off := 73) (tgt := 74) hx hb dX5_ruleWord_1 (by rw [c_13]; decide) (by rw [c_13]; decide) (by rw [c_13]; rfl) (by decide) ?_
                refine va_ldcS hx hb hown (hG.2.2.2.2.2.2.2 6 (by decide)) dX5_ruleWord_74 ?_
                have e_14 := Option.some.inj hf
                subst e_14
                exact wd_aret hx hb hr (by first | exact Or.inl ⟨_, rfl⟩ | exact Or.inr ⟨_, rfl⟩) hlocks hw dX5_ruleWord_76
              · replace hf := if_f c_13 hf
                by_cases c_15 : p1 = 7
                · replace hf := if_t c_15 hf
                  refine lv_tableIn (off := 76) (tgt := 77) hx hb dX5_ruleWord_1 (by rw [c_15]; decide) (by rw [c_15]; decide) (by rw [c_15]; rfl) (by decide) ?_
                  refine va_ldcS hx hb hown (hG.2.2.2.2.2.2.2 7 (by decide)) dX5_ruleWord_77 ?_
                  have e_16 := Option.some.inj hf
                  subst e_16
                  exact wd_aret hx hb hr (by first | exact Or.inl ⟨_, rfl⟩ | exact Or.inr ⟨_, rfl⟩) hlocks hw dX5_ruleWord_79
                · replace hf := if_f c_15 hf
                  by_cases c_17 : p1 = 8
                  · replace hf := if_t c_17 hf
                    refine lv_tableIn (off := 79) (tgt := 80) hx hb dX5_ruleWord_1 (by rw [c_17]; decide) (by rw [c_17]; decide) (by rw [c_17]; rfl) (by decide) ?_
                    refine va_ldcS hx hb hown (hG.2.2.2.2.2.2.2 8 (by decide)) dX5_ruleWord_80 ?_
                    have e_18 := Option.some.inj hf
                    subst e_18
                    exact wd_aret hx hb hr (by first | exact Or.inl ⟨_, rfl⟩ | exact Or.inr ⟨_, rfl⟩) hlocks hw dX5_ruleWord_82
                  · replace hf := if_f c_17 hf
                    by_cases c_19 : p1 = 9
                    · replace hf := if_t c_19 hf
                      refine lv_tableIn (off := 82) (tgt := 83) hx hb dX5_ruleWord_1 (by rw [c_19]; decide) (by rw [c_19]; decide) (by rw [c_19]; rfl) (by decide) ?_
                      refine va_ldcS hx hb hown (hG.2.2.2.2.2.2.2 9 (by decide)) dX5_ruleWord_83 ?_
                      have e_20 := Option.some.inj hf
                      subst e_20
                      exact wd_aret hx hb hr (by first | exact Or.inl ⟨_, rfl⟩ | exact Or.inr ⟨_, rfl⟩) hlocks hw dX5_ruleWord_85
                    · replace hf := if_f c_19 hf
                      have nc_1 := lv_neT c_1 (show Int32.toInt 0 = 0 from rfl)
                      have nc_3 := lv_neT c_3 (show Int32.toInt 1 = 1 from rfl)
                      have nc_5 := lv_neT c_5 (show Int32.toInt 2 = 2 from rfl)
                      have nc_7 := lv_neT c_7 (show Int32.toInt 3 = 3 from rfl)
                      have nc_9 := lv_neT c_9 (show Int32.toInt 4 = 4 from rfl)
                      have nc_11 := lv_neT c_11 (show Int32.toInt 5 = 5 from rfl)
                      have nc_13 := lv_neT c_13 (show Int32.toInt 6 = 6 from rfl)
                      have nc_15 := lv_neT c_15 (show Int32.toInt 7 = 7 from rfl)
                      have nc_17 := lv_neT c_17 (show Int32.toInt 8 = 8 from rfl)
                      have nc_19 := lv_neT c_19 (show Int32.toInt 9 = 9 from rfl)
                      refine lv_tableOut (tgt := 86) hx hb dX5_ruleWord_1 (by omega) (by decide) ?_
                      refine va_ldcS hx hb hown (hG.2.2.2.2.2.2.2 10 (by decide)) dX5_ruleWord_86 ?_
                      have e_21 := Option.some.inj hf
                      subst e_21
                      exact wd_aret hx hb hr (by first | exact Or.inl ⟨_, rfl⟩ | exact Or.inr ⟨_, rfl⟩) hlocks hw dX5_ruleWord_88
/-! DutyDesk$Reader.tokenIs(Ljava/lang/String;)Z -/
def rm_X5_tokenIs : Room := { frames := 4, cells := 0, slots := 0, locals := 85 }
def f_X5_tokenIs_L28 (S : St) (p1 : Nat) : Int32 → Option ((Int32) ⊕ (Int32))
  | v_5 =>
  (if (nI (scL.getD p1 0)) ≤ v_5 then
    some (.inr (1))
  else
    gd ((gI S 3) + v_5) 1000 (gd v_5 (scL.getD p1 0) ((if (gM S 7 ((gI S 3) + v_5).toNatClampNeg) = ((scB.getD p1 []).getD v_5.toNatClampNeg 0) then
    bnd (v_5 + 1) fun x_12 => some (.inl x_12)
  else
    some (.inr (0))))))
def f_X5_tokenIs (S : St) (p1 : Nat) : Option (Int32) :=
  gn p1 18 ((if (gI S 2) = 1 then
    (if ((gI S 1) - (gI S 3)) = (nI (scL.getD p1 0)) then
    loopF (f_X5_tokenIs_L28 S p1) FU 0
  else
    some (0))
  else
    some (0)))
set_option maxHeartbeats 4000000 in
set_option maxRecDepth 100000 in
theorem c_X5_tokenIs (G : GP) (l : Launch) (a : Nat → Nat) (ha : a 45 = G.2.2.1) (R : va_W) (S : St) (p1 : Nat) (r0 : Int32) (hf : f_X5_tokenIs S p1 = some r0) : MC G l yX5_tokenIs wsX5_tokenIs rm_X5_tokenIs [.ref (a 1), .ref (G.2.2.2.1 p1)] (xw G.2.1 a R S) (xw G.2.1 a R S) (some (.int r0)) 0 0 := by
  refine MC.mk (cc := cX5_tokenIs) (maxL := 3) (ret := (some .boolean)) (by decide) rfl (Nat.le_of_ble_eq_true rfl) ?_
  intro p e s m below meth c A ls ⟨hx, hb, hr, hml, hown, hlocks, _, hts⟩ hw hG hA hl
  have hl : lv_has ls 3 [(0, .ref (a 1)), (1, .ref (G.2.2.2.1 p1))] := hl
  have hin5 : ∀ w ∈ u_ws RX5 TX5 12, w ∈ wsX5_tokenIs := by decide +kernel
  rw [f_X5_tokenIs] at hf
  obtain ⟨hs_1, hf⟩ := gn_of hf
  refine lv_aload_n hx hb dX5_tokenIs_0 rfl (lv_at hl 0 rfl) ?_
  refine va_get (D := G.1) (ci := 5) (v := .int (gI S 2)) (C := RX5) (T := TX5) (N := 12) hx hb hts hin5 hown hG.1 hw.1 1 rfl rfl 4 (by decide) (hts (.fieldLink RX5 38 "DutyDesk$Reader" "token" "I") (List.mem_of_getElem? (i := 1) rfl)) (fun _ h9 => h9) rfl dX5_tokenIs_1 ?_
  refine lv_iconst (v := 1) hx hb dX5_tokenIs_4 (by decide) ?_
  refine lv_icmp_ne (tgt := 24) hx hb dX5_tokenIs_5 (by decide) (fun c_2 => ?_) (fun c_2 => ?_)
  · replace hf := if_f c_2 hf
    refine lv_iconst (v := 0) hx hb dX5_tokenIs_24 (by decide) ?_
    have e_3 := Option.some.inj hf
    subst e_3
    exact wd_zret hx hb hr rfl hlocks hw dX5_tokenIs_25
  · replace hf := if_t c_2 hf
    refine lv_aload_n hx hb dX5_tokenIs_8 rfl (lv_at hl 0 rfl) ?_
    refine va_get (D := G.1) (ci := 5) (v := .int (gI S 1)) (C := RX5) (T := TX5) (N := 12) hx hb hts hin5 hown hG.1 hw.1 1 rfl rfl 3 (by decide) (hts (.fieldLink RX5 35 "DutyDesk$Reader" "at" "I") (List.mem_of_getElem? (i := 2) rfl)) (fun _ h9 => h9) rfl dX5_tokenIs_9 ?_
    refine lv_aload_n hx hb dX5_tokenIs_12 rfl (lv_at hl 0 rfl) ?_
    refine va_get (D := G.1) (ci := 5) (v := .int (gI S 3)) (C := RX5) (T := TX5) (N := 12) hx hb hts hin5 hown hG.1 hw.1 1 rfl rfl 5 (by decide) (hts (.fieldLink RX5 56 "DutyDesk$Reader" "tokenPlace" "I") (List.mem_of_getElem? (i := 3) rfl)) (fun _ h9 => h9) rfl dX5_tokenIs_13 ?_
    refine lv_isub hx hb dX5_tokenIs_16 ?_
    refine lv_aload_n hx hb dX5_tokenIs_17 rfl (lv_at hl 1 rfl) ?_
    refine cV (As := []) (rest := [.int ((gI S 1) - (gI S 3))]) ⟨hx, hb, hml, hown, hts⟩ hG hA hw (c_strlen G l _ p1 hs_1) (cwV 0 hts gX5_tokenIs_J0_length_8abf5 rfl rfl rfl (by decide +kernel) ⟨Nat.le_of_ble_eq_true rfl, Nat.le_of_ble_eq_true rfl⟩) (vk_recv hG.2.2.2.2.2.2.1 hs_1 hw.2.2) rfl hl.1 rfl (Nat.le_of_ble_eq_true rfl) dX5_tokenIs_18 ⟨Nat.zero_le _, Nat.zero_le _⟩ (fun H locs hw => ?_)
    refine lv_icmp_eq (tgt := 26) hx hb dX5_tokenIs_21 (by decide) (fun c_4 => ?_) (fun c_4 => ?_)
    · replace hf := if_t c_4 hf
      refine lv_iconst (v := 0) hx hb dX5_tokenIs_26 (by decide) ?_
      refine lv_istore_n (lv' := [(2, .int 0), (0, .ref (a 1)), (1, .ref (G.2.2.2.1 p1))]) hx hb dX5_tokenIs_27 rfl hl (by decide) rfl (fun ls hl => ?_)
      refine loopF_ind (body := f_X5_tokenIs_L28 S p1) (fun (v_5 : Int32) => ∀ (H : Heap) (locs : List Loc) (ls : Array Slot), Wd G A s H locs (xw G.2.1 a R S) → lv_has ls 3 [(0, .ref (a 1)), (1, .ref (G.2.2.2.1 p1)), (2, .int v_5)] → WQ p l e rm_X5_tokenIs s m [.ref (a 1), .ref (G.2.2.2.1 p1)] below meth c G A (xw G.2.1 a R S) (some (.int r0)) 0 0 H locs 0 0 (F0 m 28 ls [])) ?_ FU 0 hf _ _ _ hw (lv_sub hl [1, 2, 0] rfl)
      clear hf hw hl
      intro v_5 t0_28 hf hz1_0_28 hz2_0_28 H locs ls hw hl
      rw [f_X5_tokenIs_L28] at hf
      refine lv_iload_n hx hb dX5_tokenIs_28 rfl (lv_at hl 2 rfl) ?_
      refine lv_aload_n hx hb dX5_tokenIs_29 rfl (lv_at hl 1 rfl) ?_
      refine cV (As := []) (rest := [.int v_5]) ⟨hx, hb, hml, hown, hts⟩ hG hA hw (c_strlen G l _ p1 hs_1) (cwV 0 hts gX5_tokenIs_J0_length_8abf5 rfl rfl rfl (by decide +kernel) ⟨Nat.le_of_ble_eq_true rfl, Nat.le_of_ble_eq_true rfl⟩) (vk_recv hG.2.2.2.2.2.2.1 hs_1 hw.2.2) rfl hl.1 rfl (Nat.le_of_ble_eq_true rfl) dX5_tokenIs_30 ⟨Nat.zero_le _, Nat.zero_le _⟩ (fun H locs hw => ?_)
      refine lv_icmp_ge (tgt := 63) hx hb dX5_tokenIs_33 (by decide) (fun c_6 => ?_) (fun c_6 => ?_)
      · replace hf := if_t c_6 hf
        refine lv_iconst (v := 1) hx hb dX5_tokenIs_63 (by decide) ?_
        have e_7 := Option.some.inj hf
        have e_8 := hz2_0_28 _ e_7.symm
        subst e_8
        exact wd_zret hx hb hr rfl hlocks hw dX5_tokenIs_64
      · replace hf := if_f c_6 hf
        refine lv_aload_n hx hb dX5_tokenIs_36 rfl (lv_at hl 0 rfl) ?_
        refine va_get (D := G.1) (ci := 5) (v := .ref (a 7)) (C := RX5) (T := TX5) (N := 12) hx hb hts hin5 hown hG.1 hw.1 1 rfl rfl 0 (by decide) (hts (.fieldLink RX5 9 "DutyDesk$Reader" "tape" "[B") (List.mem_of_getElem? (i := 4) rfl)) (fun _ h9 => h9) rfl dX5_tokenIs_37 ?_
        refine lv_aload_n hx hb dX5_tokenIs_40 rfl (lv_at hl 0 rfl) ?_
        refine va_get (D := G.1) (ci := 5) (v := .int (gI S 3)) (C := RX5) (T := TX5) (N := 12) hx hb hts hin5 hown hG.1 hw.1 1 rfl rfl 5 (by decide) (hts (.fieldLink RX5 56 "DutyDesk$Reader" "tokenPlace" "I") (List.mem_of_getElem? (i := 3) rfl)) (fun _ h9 => h9) rfl dX5_tokenIs_41 ?_
        refine lv_iload_n hx hb dX5_tokenIs_44 rfl (lv_at hl 2 rfl) ?_
        refine lv_iadd hx hb dX5_tokenIs_45 ?_
        obtain ⟨h_9, hf⟩ := gd_of hf
        refine va_bald hx hb hG.1 hw.1 7 0 rfl rfl h_9 dX5_tokenIs_46 ?_
        refine lv_aload_n hx hb dX5_tokenIs_47 rfl (lv_at hl 1 rfl) ?_
        refine lv_iload_n hx hb dX5_tokenIs_48 rfl (lv_at hl 2 rfl) ?_
        obtain ⟨h_10, hf⟩ := gd_of hf
        refine cV (As := [.int v_5]) (rest := [.int (gM S 7 ((gI S 3) + v_5).toNatClampNeg)]) ⟨hx, hb, hml, hown, hts⟩ hG hA hw (c_strchar G l _ p1 hs_1 v_5 h_10) (cwV 1 hts gX5_tokenIs_J0_charAt_5068e rfl rfl rfl (by decide +kernel) ⟨Nat.le_of_ble_eq_true rfl, Nat.le_of_ble_eq_true rfl⟩) (vk_recv hG.2.2.2.2.2.2.1 hs_1 hw.2.2) rfl hl.1 rfl (Nat.le_of_ble_eq_true rfl) dX5_tokenIs_49 ⟨Nat.zero_le _, Nat.zero_le _⟩ (fun H locs hw => ?_)
        refine lv_icmp_eq (tgt := 57) hx hb dX5_tokenIs_52 (by decide) (fun c_11 => ?_) (fun c_11 => ?_)
        · replace hf := if_t c_11 hf
          obtain ⟨x_12, ex_12⟩ : ∃ z : Int32, z = v_5 + 1 := ⟨_, rfl⟩
          replace hf := bnd_of ex_12 hf
          refine lv_iinc (v := x_12) (lv' := [(2, .int x_12), (0, .ref (a 1)), (1, .ref (G.2.2.2.1 p1))]) hx hb dX5_tokenIs_57 hl (k := 2) rfl (by rw [ex_12]; rfl) (by decide) rfl (fun ls hl => ?_)
          refine lv_goto (tgt := 28) hx hb dX5_tokenIs_60 (by decide) ?_
          have e_13 := Option.some.inj hf
          exact hz1_0_28 _ e_13.symm _ _ _ hw (lv_sub hl [1, 2, 0] rfl)
        · replace hf := if_f c_11 hf
          refine lv_iconst (v := 0) hx hb dX5_tokenIs_55 (by decide) ?_
          have e_14 := Option.some.inj hf
          have e_15 := hz2_0_28 _ e_14.symm
          subst e_15
          exact wd_zret hx hb hr rfl hlocks hw dX5_tokenIs_56
    · replace hf := if_f c_4 hf
      refine lv_iconst (v := 0) hx hb dX5_tokenIs_24 (by decide) ?_
      have e_16 := Option.some.inj hf
      subst e_16
      exact wd_zret hx hb hr rfl hlocks hw dX5_tokenIs_25
/-! DutyDesk$Reader.ruleOfWord()I -/
def rm_X5_ruleOfWord : Room := { frames := 5, cells := 0, slots := 0, locals := 107 }
def f_X5_ruleOfWord_L2 (S : St) : Int32 → Option ((Int32) ⊕ (Int32))
  | v_1 =>
  (if 11 ≤ v_1 then
    some (.inr ((-1)))
  else
    (f_X5_ruleWord v_1).bind (fun r_6 => gn r_6 18 ((f_X5_tokenIs S r_6).bind (fun r_9 => (if r_9 = 0 then
    bnd (v_1 + 1) fun x_11 => some (.inl x_11)
  else
    some (.inr (v_1)))))))
def f_X5_ruleOfWord (S : St) : Option (Int32) :=
  loopF (f_X5_ruleOfWord_L2 S) FU 0
set_option maxHeartbeats 4000000 in
set_option maxRecDepth 100000 in
theorem c_X5_ruleOfWord (G : GP) (l : Launch) (a : Nat → Nat) (ha : a 45 = G.2.2.1) (R : va_W) (S : St) (r0 : Int32) (hf : f_X5_ruleOfWord S = some r0) : MC G l yX5_ruleOfWord wsX5_ruleOfWord rm_X5_ruleOfWord [.ref (a 1)] (xw G.2.1 a R S) (xw G.2.1 a R S) (some (.int r0)) 0 0 := by
  refine MC.mk (cc := cX5_ruleOfWord) (maxL := 2) (ret := (some .int)) (by decide) rfl (Nat.le_of_ble_eq_true rfl) ?_
  intro p e s m below meth c A ls ⟨hx, hb, hr, hml, hown, hlocks, _, hts⟩ hw hG hA hl
  have hl : lv_has ls 2 [(0, .ref (a 1))] := hl
  rw [f_X5_ruleOfWord] at hf
  refine lv_iconst (v := 0) hx hb dX5_ruleOfWord_0 (by decide) ?_
  refine lv_istore_n (lv' := [(1, .int 0), (0, .ref (a 1))]) hx hb dX5_ruleOfWord_1 rfl hl (by decide) rfl (fun ls hl => ?_)
  refine loopF_ind (body := f_X5_ruleOfWord_L2 S) (fun (v_1 : Int32) => ∀ (H : Heap) (locs : List Loc) (ls : Array Slot), Wd G A s H locs (xw G.2.1 a R S) → lv_has ls 2 [(0, .ref (a 1)), (1, .int v_1)] → WQ p l e rm_X5_ruleOfWord s m [.ref (a 1)] below meth c G A (xw G.2.1 a R S) (some (.int r0)) 0 0 H locs 0 0 (F0 m 2 ls [])) ?_ FU 0 hf _ _ _ hw (lv_sub hl [1, 0] rfl)
  clear hf hw hl
  intro v_1 t0_2 hf hz1_0_2 hz2_0_2 H locs ls hw hl
  rw [f_X5_ruleOfWord_L2] at hf
  refine lv_iload_n hx hb dX5_ruleOfWord_2 rfl (lv_at hl 1 rfl) ?_
  refine lv_bipush (v := 11) hx hb dX5_ruleOfWord_3 (by decide) ?_
  refine lv_icmp_ge (tgt := 27) hx hb dX5_ruleOfWord_5 (by decide) (fun c_2 => ?_) (fun c_2 => ?_)
  · replace hf := if_t c_2 hf
    refine lv_iconst (v := (-1)) hx hb dX5_ruleOfWord_27 (by decide) ?_
    have e_3 := Option.some.inj hf
    have e_4 := hz2_0_2 _ e_3.symm
    subst e_4
    exact wd_iret hx hb hr hlocks hw dX5_ruleOfWord_28
  · replace hf := if_f c_2 hf
    refine lv_aload_n hx hb dX5_ruleOfWord_8 rfl (lv_at hl 0 rfl) ?_
    refine lv_iload_n hx hb dX5_ruleOfWord_9 rfl (lv_at hl 1 rfl) ?_
    obtain ⟨r_6, h_5, hf⟩ := bind_of hf
    refine cS (As := [.int v_1]) (rest := [.ref (a 1)]) ⟨hx, hb, hml, hown, hts⟩ hG hA hw (c_X5_ruleWord G l _ v_1 r_6 h_5) (va_cwS 1 hts gX5_ruleOfWord_X5_ruleWord rfl rfl rfl (by decide +kernel) ⟨Nat.le_of_ble_eq_true rfl, Nat.le_of_ble_eq_true rfl⟩) rfl hl.1 rfl (Nat.le_of_ble_eq_true rfl) dX5_ruleOfWord_10 ⟨Nat.zero_le _, Nat.zero_le _⟩ (fun H locs hw => ?_)
    obtain ⟨hs_7, hf⟩ := gn_of hf
    obtain ⟨r_9, h_8, hf⟩ := bind_of hf
    refine cV (As := [.ref (G.2.2.2.1 r_6)]) (rest := []) ⟨hx, hb, hml, hown, hts⟩ hG hA hw (c_X5_tokenIs G l a ha R S r_6 r_9 h_8) (cwV 1 hts gX5_ruleOfWord_X5_tokenIs rfl rfl rfl (by decide +kernel) ⟨Nat.le_of_ble_eq_true rfl, Nat.le_of_ble_eq_true rfl⟩) (va_recv hG.1 hw.1 (ci := 5) (q0 := 1) rfl rfl) rfl hl.1 rfl (Nat.le_of_ble_eq_true rfl) dX5_ruleOfWord_13 ⟨Nat.zero_le _, Nat.zero_le _⟩ (fun H locs hw => ?_)
    refine lv_if_eq (tgt := 21) hx hb dX5_ruleOfWord_16 (by decide) (fun c_10 => ?_) (fun c_10 => ?_)
    · replace hf := if_t c_10 hf
      obtain ⟨x_11, ex_11⟩ : ∃ z : Int32, z = v_1 + 1 := ⟨_, rfl⟩
      replace hf := bnd_of ex_11 hf
      refine lv_iinc (v := x_11) (lv' := [(1, .int x_11), (0, .ref (a 1))]) hx hb dX5_ruleOfWord_21 hl (k := 1) rfl (by rw [ex_11]; rfl) (by decide) rfl (fun ls hl => ?_)
      refine lv_goto (tgt := 2) hx hb dX5_ruleOfWord_24 (by decide) ?_
      have e_12 := Option.some.inj hf
      exact hz1_0_2 _ e_12.symm _ _ _ hw (lv_sub hl [1, 0] rfl)
    · replace hf := if_f c_10 hf
      refine lv_iload_n hx hb dX5_ruleOfWord_19 rfl (lv_at hl 1 rfl) ?_
      have e_13 := Option.some.inj hf
      have e_14 := hz2_0_2 _ e_13.symm
      subst e_14
      exact wd_iret hx hb hr hlocks hw dX5_ruleOfWord_20
/-! DutyDesk$Reader.setFault(I)V -/
def rm_X5_setFault : Room := { frames := 0, cells := 0, slots := 0, locals := 0 }
def f_X5_setFault (S : St) (p1 : Int32) : Option (St) :=
  bnd (sI S 8 p1) fun S_1 => bnd (sI S_1 9 (gI S_1 3)) fun S_2 => some (S_2)
set_option maxHeartbeats 4000000 in
set_option maxRecDepth 100000 in
theorem c_X5_setFault (G : GP) (l : Launch) (a : Nat → Nat) (ha : a 45 = G.2.2.1) (R : va_W) (S : St) (p1 : Int32) (S9 : St) (hf : f_X5_setFault S p1 = some S9) : MC G l yX5_setFault wsX5_setFault rm_X5_setFault [.ref (a 1), .int p1] (xw G.2.1 a R S) (xw G.2.1 a R S9) none 0 0 := by
  refine MC.mk (cc := cX5_setFault) (maxL := 2) (ret := none) (by decide) rfl (Nat.le_of_ble_eq_true rfl) ?_
  intro p e s m below meth c A ls ⟨hx, hb, hr, hml, hown, hlocks, _, hts⟩ hw hG hA hl
  have hl : lv_has ls 2 [(0, .ref (a 1)), (1, .int p1)] := hl
  have hin5 : ∀ w ∈ u_ws RX5 TX5 12, w ∈ wsX5_setFault := by decide +kernel
  rw [f_X5_setFault] at hf
  refine lv_aload_n hx hb dX5_setFault_0 rfl (lv_at hl 0 rfl) ?_
  refine lv_iload_n hx hb dX5_setFault_1 rfl (lv_at hl 1 rfl) ?_
  refine va_put (D := G.1) (ci := 5) (v := .int p1) (ty := .int) (C := RX5) (T := TX5) (N := 12) hx hb hts hin5 tyX5 tyX5_ok nmX5 hown hG.1 hw.1 hw.2.1 hw.2.2 1 rfl rfl 10 (by decide) (hts (.fieldLink RX5 47 "DutyDesk$Reader" "faultKind" "I") (List.mem_of_getElem? (i := 1) rfl)) (fun _ h9 => h9) rfl (by decide +kernel) rfl rfl (Nat.le_of_ble_eq_true rfl) dX5_setFault_2 (fun H locs hP hD hS => ?_)
  obtain ⟨S_1, eS_1⟩ : ∃ z : St, z = sI S 8 p1 := ⟨_, rfl⟩
  replace hf := bnd_of eS_1 hf
  have hw : Wd G A s H locs (xw G.2.1 a R S_1) := wd_eq (by rw [eS_1]; exact xw_upI8 _) hP hD hS
  refine lv_aload_n hx hb dX5_setFault_5 rfl (lv_at hl 0 rfl) ?_
  refine lv_aload_n hx hb dX5_setFault_6 rfl (lv_at hl 0 rfl) ?_
  refine va_get (D := G.1) (ci := 5) (v := .int (gI S_1 3)) (C := RX5) (T := TX5) (N := 12) hx hb hts hin5 hown hG.1 hw.1 1 rfl rfl 5 (by decide) (hts (.fieldLink RX5 56 "DutyDesk$Reader" "tokenPlace" "I") (List.mem_of_getElem? (i := 2) rfl)) (fun _ h9 => h9) rfl dX5_setFault_7 ?_
  refine va_put (D := G.1) (ci := 5) (v := .int (gI S_1 3)) (ty := .int) (C := RX5) (T := TX5) (N := 12) hx hb hts hin5 tyX5 tyX5_ok nmX5 hown hG.1 hw.1 hw.2.1 hw.2.2 1 rfl rfl 11 (by decide) (hts (.fieldLink RX5 19 "DutyDesk$Reader" "faultPlace" "I") (List.mem_of_getElem? (i := 3) rfl)) (fun _ h9 => h9) rfl (by decide +kernel) rfl rfl (Nat.le_of_ble_eq_true rfl) dX5_setFault_10 (fun H locs hP hD hS => ?_)
  obtain ⟨S_2, eS_2⟩ : ∃ z : St, z = sI S_1 9 (gI S_1 3) := ⟨_, rfl⟩
  replace hf := bnd_of eS_2 hf
  have hw : Wd G A s H locs (xw G.2.1 a R S_2) := wd_eq (by rw [eS_2]; exact xw_upI9 _) hP hD hS
  have e_3 := Option.some.inj hf
  subst e_3
  exact wd_vret hx hb hr hlocks hw dX5_setFault_13
/-! DutyDesk$Reader.takeFirstWord()V -/
def rm_X5_takeFirstWord : Room := { frames := 6, cells := 0, slots := 0, locals := 128 }
def f_X5_takeFirstWord (S : St) : Option (St) :=
  (if (gI S 2) = 4 then
    some (S)
  else
    (f_X5_ruleOfWord S).bind (fun r_3 => bnd (sI S 6 r_3) fun S_4 => (if (gI S_4 6) = (-1) then
    (f_X5_setFault S_4 1).bind (fun S_22 => some (S_22))
  else
    (if (gI S_4 6) = 10 then
    bnd (sI S_4 5 3) fun S_19 => some (S_19)
  else
    (f_X7_hasBit (gI S_4 7) (gI S_4 6)).bind (fun r_8 => (if r_8 = 0 then
    bnd (sI S_4 7 ((gI S_4 7) ||| ((1 : Int32) <<< ((gI S_4 6) &&& 31)))) fun S_10 => (if (gI S_10 6) = 9 then
    bnd (sI S_10 5 2) fun S_14 => some (S_14)
  else
    bnd (sI S_10 5 1) fun S_12 => some (S_12))
  else
    (f_X5_setFault S_4 3).bind (fun S_17 => some (S_17))))))))
set_option maxHeartbeats 4000000 in
set_option maxRecDepth 100000 in
theorem c_X5_takeFirstWord (G : GP) (l : Launch) (a : Nat → Nat) (ha : a 45 = G.2.2.1) (R : va_W) (S : St) (S9 : St) (hf : f_X5_takeFirstWord S = some S9) : MC G l yX5_takeFirstWord wsX5_takeFirstWord rm_X5_takeFirstWord [.ref (a 1)] (xw G.2.1 a R S) (xw G.2.1 a R S9) none 0 0 := by
  refine MC.mk (cc := cX5_takeFirstWord) (maxL := 1) (ret := none) (by decide) rfl (Nat.le_of_ble_eq_true rfl) ?_
  intro p e s m below meth c A ls ⟨hx, hb, hr, hml, hown, hlocks, _, hts⟩ hw hG hA hl
  have hl : lv_has ls 1 [(0, .ref (a 1))] := hl
  have hin5 : ∀ w ∈ u_ws RX5 TX5 12, w ∈ wsX5_takeFirstWord := by decide +kernel
  rw [f_X5_takeFirstWord] at hf
  refine lv_aload_n hx hb dX5_takeFirstWord_0 rfl (lv_at hl 0 rfl) ?_
  refine va_get (D := G.1) (ci := 5) (v := .int (gI S 2)) (C := RX5) (T := TX5) (N := 12) hx hb hts hin5 hown hG.1 hw.1 1 rfl rfl 4 (by decide) (hts (.fieldLink RX5 38 "DutyDesk$Reader" "token" "I") (List.mem_of_getElem? (i := 1) rfl)) (fun _ h9 => h9) rfl dX5_takeFirstWord_1 ?_
  refine lv_iconst (v := 4) hx hb dX5_takeFirstWord_4 (by decide) ?_
  refine lv_icmp_ne (tgt := 9) hx hb dX5_takeFirstWord_5 (by decide) (fun c_1 => ?_) (fun c_1 => ?_)
  · replace hf := if_f c_1 hf
    refine lv_aload_n hx hb dX5_takeFirstWord_9 rfl (lv_at hl 0 rfl) ?_
    refine lv_aload_n hx hb dX5_takeFirstWord_10 rfl (lv_at hl 0 rfl) ?_
    obtain ⟨r_3, h_2, hf⟩ := bind_of hf
    refine cV (As := []) (rest := [.ref (a 1)]) ⟨hx, hb, hml, hown, hts⟩ hG hA hw (c_X5_ruleOfWord G l a ha R S r_3 h_2) (cwV 0 hts gX5_takeFirstWord_X5_ruleOfWord rfl rfl rfl (by decide +kernel) ⟨Nat.le_of_ble_eq_true rfl, Nat.le_of_ble_eq_true rfl⟩) (va_recv hG.1 hw.1 (ci := 5) (q0 := 1) rfl rfl) rfl hl.1 rfl (Nat.le_of_ble_eq_true rfl) dX5_takeFirstWord_11 ⟨Nat.zero_le _, Nat.zero_le _⟩ (fun H locs hw => ?_)
    refine va_put (D := G.1) (ci := 5) (v := .int r_3) (ty := .int) (C := RX5) (T := TX5) (N := 12) hx hb hts hin5 tyX5 tyX5_ok nmX5 hown hG.1 hw.1 hw.2.1 hw.2.2 1 rfl rfl 8 (by decide) (hts (.fieldLink RX5 94 "DutyDesk$Reader" "lineRule" "I") (List.mem_of_getElem? (i := 2) rfl)) (fun _ h9 => h9) rfl (by decide +kernel) rfl rfl (Nat.le_of_ble_eq_true rfl) dX5_takeFirstWord_14 (fun H locs hP hD hS => ?_)
    obtain ⟨S_4, eS_4⟩ : ∃ z : St, z = sI S 6 r_3 := ⟨_, rfl⟩
    replace hf := bnd_of eS_4 hf
    have hw : Wd G A s H locs (xw G.2.1 a R S_4) := wd_eq (by rw [eS_4]; exact xw_upI6 _) hP hD hS
    refine lv_aload_n hx hb dX5_takeFirstWord_17 rfl (lv_at hl 0 rfl) ?_
    refine va_get (D := G.1) (ci := 5) (v := .int (gI S_4 6)) (C := RX5) (T := TX5) (N := 12) hx hb hts hin5 hown hG.1 hw.1 1 rfl rfl 8 (by decide) (hts (.fieldLink RX5 94 "DutyDesk$Reader" "lineRule" "I") (List.mem_of_getElem? (i := 2) rfl)) (fun _ h9 => h9) rfl dX5_takeFirstWord_18 ?_
    refine lv_iconst (v := (-1)) hx hb dX5_takeFirstWord_21 (by decide) ?_
    refine lv_icmp_ne (tgt := 33) hx hb dX5_takeFirstWord_22 (by decide) (fun c_5 => ?_) (fun c_5 => ?_)
    · replace hf := if_f c_5 hf
      refine lv_aload_n hx hb dX5_takeFirstWord_33 rfl (lv_at hl 0 rfl) ?_
      refine va_get (D := G.1) (ci := 5) (v := .int (gI S_4 6)) (C := RX5) (T := TX5) (N := 12) hx hb hts hin5 hown hG.1 hw.1 1 rfl rfl 8 (by decide) (hts (.fieldLink RX5 94 "DutyDesk$Reader" "lineRule" "I") (List.mem_of_getElem? (i := 2) rfl)) (fun _ h9 => h9) rfl dX5_takeFirstWord_34 ?_
      refine lv_bipush (v := 10) hx hb dX5_takeFirstWord_37 (by decide) ?_
      refine lv_icmp_ne (tgt := 50) hx hb dX5_takeFirstWord_39 (by decide) (fun c_6 => ?_) (fun c_6 => ?_)
      · replace hf := if_f c_6 hf
        refine lv_aload_n hx hb dX5_takeFirstWord_50 rfl (lv_at hl 0 rfl) ?_
        refine va_get (D := G.1) (ci := 5) (v := .int (gI S_4 7)) (C := RX5) (T := TX5) (N := 12) hx hb hts hin5 hown hG.1 hw.1 1 rfl rfl 9 (by decide) (hts (.fieldLink RX5 44 "DutyDesk$Reader" "toldRules" "I") (List.mem_of_getElem? (i := 4) rfl)) (fun _ h9 => h9) rfl dX5_takeFirstWord_51 ?_
        refine lv_aload_n hx hb dX5_takeFirstWord_54 rfl (lv_at hl 0 rfl) ?_
        refine va_get (D := G.1) (ci := 5) (v := .int (gI S_4 6)) (C := RX5) (T := TX5) (N := 12) hx hb hts hin5 hown hG.1 hw.1 1 rfl rfl 8 (by decide) (hts (.fieldLink RX5 94 "DutyDesk$Reader" "lineRule" "I") (List.mem_of_getElem? (i := 2) rfl)) (fun _ h9 => h9) rfl dX5_takeFirstWord_55 ?_
        obtain ⟨r_8, h_7, hf⟩ := bind_of hf
        refine cSN (As := [.int (gI S_4 7), .int (gI S_4 6)]) (rest := []) ⟨hx, hb, hml, hown, hts⟩ hG hA hw (c_X7_hasBit G l _ (gI S_4 7) (gI S_4 6) r_8 h_7) ⟨va_cnB 2 hts gX5_takeFirstWord_X7_hasBit_n101 rfl rfl rfl (hG.2.1 (.methodLinkNest "DutyDesk$Reader" 101 yX7_hasBit "DutyDesk") (List.mem_of_getElem? (i := 67) rfl)) (hts (.initialized RX7) (List.mem_of_getElem? (i := 76) rfl)) (by decide +kernel) ⟨Nat.le_of_ble_eq_true rfl, Nat.le_of_ble_eq_true rfl⟩, hts (.static yX7_hasBit) (List.mem_of_getElem? (i := 75) rfl), trivial⟩ rfl hl.1 rfl (Nat.le_of_ble_eq_true rfl) dX5_takeFirstWord_58 ⟨Nat.zero_le _, Nat.zero_le _⟩ (fun H locs hw => ?_)
        refine lv_if_eq (tgt := 72) hx hb dX5_takeFirstWord_61 (by decide) (fun c_9 => ?_) (fun c_9 => ?_)
        · replace hf := if_t c_9 hf
          refine lv_aload_n hx hb dX5_takeFirstWord_72 rfl (lv_at hl 0 rfl) ?_
          refine lv_dup hx hb dX5_takeFirstWord_73 rfl ?_
          refine va_get (D := G.1) (ci := 5) (v := .int (gI S_4 7)) (C := RX5) (T := TX5) (N := 12) hx hb hts hin5 hown hG.1 hw.1 1 rfl rfl 9 (by decide) (hts (.fieldLink RX5 44 "DutyDesk$Reader" "toldRules" "I") (List.mem_of_getElem? (i := 4) rfl)) (fun _ h9 => h9) rfl dX5_takeFirstWord_74 ?_
          refine lv_iconst (v := 1) hx hb dX5_takeFirstWord_77 (by decide) ?_
          refine lv_aload_n hx hb dX5_takeFirstWord_78 rfl (lv_at hl 0 rfl) ?_
          refine va_get (D := G.1) (ci := 5) (v := .int (gI S_4 6)) (C := RX5) (T := TX5) (N := 12) hx hb hts hin5 hown hG.1 hw.1 1 rfl rfl 8 (by decide) (hts (.fieldLink RX5 94 "DutyDesk$Reader" "lineRule" "I") (List.mem_of_getElem? (i := 2) rfl)) (fun _ h9 => h9) rfl dX5_takeFirstWord_79 ?_
          refine lv_ishl hx hb dX5_takeFirstWord_82 ?_
          refine lv_ior hx hb dX5_takeFirstWord_83 ?_
          refine va_put (D := G.1) (ci := 5) (v := .int ((gI S_4 7) ||| ((1 : Int32) <<< ((gI S_4 6) &&& 31)))) (ty := .int) (C := RX5) (T := TX5) (N := 12) hx hb hts hin5 tyX5 tyX5_ok nmX5 hown hG.1 hw.1 hw.2.1 hw.2.2 1 rfl rfl 9 (by decide) (hts (.fieldLink RX5 44 "DutyDesk$Reader" "toldRules" "I") (List.mem_of_getElem? (i := 4) rfl)) (fun _ h9 => h9) rfl (by decide +kernel) rfl rfl (Nat.le_of_ble_eq_true rfl) dX5_takeFirstWord_84 (fun H locs hP hD hS => ?_)
          obtain ⟨S_10, eS_10⟩ : ∃ z : St, z = sI S_4 7 ((gI S_4 7) ||| ((1 : Int32) <<< ((gI S_4 6) &&& 31))) := ⟨_, rfl⟩
          replace hf := bnd_of eS_10 hf
          have hw : Wd G A s H locs (xw G.2.1 a R S_10) := wd_eq (by rw [eS_10]; exact xw_upI7 _) hP hD hS
          refine lv_aload_n hx hb dX5_takeFirstWord_87 rfl (lv_at hl 0 rfl) ?_
          refine lv_aload_n hx hb dX5_takeFirstWord_88 rfl (lv_at hl 0 rfl) ?_
          refine va_get (D := G.1) (ci := 5) (v := .int (gI S_10 6)) (C := RX5) (T := TX5) (N := 12) hx hb hts hin5 hown hG.1 hw.1 1 rfl rfl 8 (by decide) (hts (.fieldLink RX5 94 "DutyDesk$Reader" "lineRule" "I") (List.mem_of_getElem? (i := 2) rfl)) (fun _ h9 => h9) rfl dX5_takeFirstWord_89 ?_
          refine lv_bipush (v := 9) hx hb dX5_takeFirstWord_92 (by decide) ?_
          refine lv_icmp_ne (tgt := 101) hx hb dX5_takeFirstWord_94 (by decide) (fun c_11 => ?_) (fun c_11 => ?_)
          · replace hf := if_f c_11 hf
            refine lv_iconst (v := 1) hx hb dX5_takeFirstWord_101 (by decide) ?_
            refine va_put (D := G.1) (ci := 5) (v := .int 1) (ty := .int) (C := RX5) (T := TX5) (N := 12) hx hb hts hin5 tyX5 tyX5_ok nmX5 hown hG.1 hw.1 hw.2.1 hw.2.2 1 rfl rfl 7 (by decide) (hts (.fieldLink RX5 41 "DutyDesk$Reader" "want" "I") (List.mem_of_getElem? (i := 3) rfl)) (fun _ h9 => h9) rfl (by decide +kernel) rfl rfl (Nat.le_of_ble_eq_true rfl) dX5_takeFirstWord_102 (fun H locs hP hD hS => ?_)
            obtain ⟨S_12, eS_12⟩ : ∃ z : St, z = sI S_10 5 1 := ⟨_, rfl⟩
            replace hf := bnd_of eS_12 hf
            have hw : Wd G A s H locs (xw G.2.1 a R S_12) := wd_eq (by rw [eS_12]; exact xw_upI5 _) hP hD hS
            have e_13 := Option.some.inj hf
            subst e_13
            exact wd_vret hx hb hr hlocks hw dX5_takeFirstWord_105
          · replace hf := if_t c_11 hf
            refine lv_iconst (v := 2) hx hb dX5_takeFirstWord_97 (by decide) ?_
            refine lv_goto (tgt := 102) hx hb dX5_takeFirstWord_98 (by decide) ?_
            refine va_put (D := G.1) (ci := 5) (v := .int 2) (ty := .int) (C := RX5) (T := TX5) (N := 12) hx hb hts hin5 tyX5 tyX5_ok nmX5 hown hG.1 hw.1 hw.2.1 hw.2.2 1 rfl rfl 7 (by decide) (hts (.fieldLink RX5 41 "DutyDesk$Reader" "want" "I") (List.mem_of_getElem? (i := 3) rfl)) (fun _ h9 => h9) rfl (by decide +kernel) rfl rfl (Nat.le_of_ble_eq_true rfl) dX5_takeFirstWord_102 (fun H locs hP hD hS => ?_)
            obtain ⟨S_14, eS_14⟩ : ∃ z : St, z = sI S_10 5 2 := ⟨_, rfl⟩
            replace hf := bnd_of eS_14 hf
            have hw : Wd G A s H locs (xw G.2.1 a R S_14) := wd_eq (by rw [eS_14]; exact xw_upI5 _) hP hD hS
            have e_15 := Option.some.inj hf
            subst e_15
            exact wd_vret hx hb hr hlocks hw dX5_takeFirstWord_105
        · replace hf := if_f c_9 hf
          refine lv_aload_n hx hb dX5_takeFirstWord_64 rfl (lv_at hl 0 rfl) ?_
          refine lv_iconst (v := 3) hx hb dX5_takeFirstWord_65 (by decide) ?_
          obtain ⟨S_17, h_16, hf⟩ := bind_of hf
          refine cV (As := [.int 3]) (rest := []) ⟨hx, hb, hml, hown, hts⟩ hG hA hw (c_X5_setFault G l a ha R S_4 3 S_17 h_16) (cwV 1 hts gX5_takeFirstWord_X5_setFault rfl rfl rfl (by decide +kernel) ⟨Nat.le_of_ble_eq_true rfl, Nat.le_of_ble_eq_true rfl⟩) (va_recv hG.1 hw.1 (ci := 5) (q0 := 1) rfl rfl) rfl hl.1 rfl (Nat.le_of_ble_eq_true rfl) dX5_takeFirstWord_66 ⟨Nat.zero_le _, Nat.zero_le _⟩ (fun H locs hw => ?_)
          refine lv_goto (tgt := 105) hx hb dX5_takeFirstWord_69 (by decide) ?_
          have e_18 := Option.some.inj hf
          subst e_18
          exact wd_vret hx hb hr hlocks hw dX5_takeFirstWord_105
      · replace hf := if_t c_6 hf
        refine lv_aload_n hx hb dX5_takeFirstWord_42 rfl (lv_at hl 0 rfl) ?_
        refine lv_iconst (v := 3) hx hb dX5_takeFirstWord_43 (by decide) ?_
        refine va_put (D := G.1) (ci := 5) (v := .int 3) (ty := .int) (C := RX5) (T := TX5) (N := 12) hx hb hts hin5 tyX5 tyX5_ok nmX5 hown hG.1 hw.1 hw.2.1 hw.2.2 1 rfl rfl 7 (by decide) (hts (.fieldLink RX5 41 "DutyDesk$Reader" "want" "I") (List.mem_of_getElem? (i := 3) rfl)) (fun _ h9 => h9) rfl (by decide +kernel) rfl rfl (Nat.le_of_ble_eq_true rfl) dX5_takeFirstWord_44 (fun H locs hP hD hS => ?_)
        obtain ⟨S_19, eS_19⟩ : ∃ z : St, z = sI S_4 5 3 := ⟨_, rfl⟩
        replace hf := bnd_of eS_19 hf
        have hw : Wd G A s H locs (xw G.2.1 a R S_19) := wd_eq (by rw [eS_19]; exact xw_upI5 _) hP hD hS
        refine lv_goto (tgt := 105) hx hb dX5_takeFirstWord_47 (by decide) ?_
        have e_20 := Option.some.inj hf
        subst e_20
        exact wd_vret hx hb hr hlocks hw dX5_takeFirstWord_105
    · replace hf := if_t c_5 hf
      refine lv_aload_n hx hb dX5_takeFirstWord_25 rfl (lv_at hl 0 rfl) ?_
      refine lv_iconst (v := 1) hx hb dX5_takeFirstWord_26 (by decide) ?_
      obtain ⟨S_22, h_21, hf⟩ := bind_of hf
      refine cV (As := [.int 1]) (rest := []) ⟨hx, hb, hml, hown, hts⟩ hG hA hw (c_X5_setFault G l a ha R S_4 1 S_22 h_21) (cwV 1 hts gX5_takeFirstWord_X5_setFault rfl rfl rfl (by decide +kernel) ⟨Nat.le_of_ble_eq_true rfl, Nat.le_of_ble_eq_true rfl⟩) (va_recv hG.1 hw.1 (ci := 5) (q0 := 1) rfl rfl) rfl hl.1 rfl (Nat.le_of_ble_eq_true rfl) dX5_takeFirstWord_27 ⟨Nat.zero_le _, Nat.zero_le _⟩ (fun H locs hw => ?_)
      refine lv_goto (tgt := 105) hx hb dX5_takeFirstWord_30 (by decide) ?_
      have e_23 := Option.some.inj hf
      subst e_23
      exact wd_vret hx hb hr hlocks hw dX5_takeFirstWord_105
  · replace hf := if_t c_1 hf
    have e_24 := Option.some.inj hf
    subst e_24
    exact wd_vret hx hb hr hlocks hw dX5_takeFirstWord_8
/-! DutyDesk$Reader.leastOf(I)I -/
def rm_X5_leastOf : Room := { frames := 0, cells := 0, slots := 0, locals := 0 }
def f_X5_leastOf (p1 : Int32) : Option (Int32) :=
  (if p1 = 3 then
    some (1)
  else
    some (0))
set_option maxHeartbeats 4000000 in
set_option maxRecDepth 100000 in
theorem c_X5_leastOf (G : GP) (l : Launch) (W0 : va_W) (p1 : Int32) (r0 : Int32) (hf : f_X5_leastOf p1 = some r0) : MC G l yX5_leastOf wsX5_leastOf rm_X5_leastOf [.int p1] (W0) (W0) (some (.int r0)) 0 0 := by
  refine MC.mk (cc := cX5_leastOf) (maxL := 1) (ret := (some .int)) (by decide) rfl (Nat.le_of_ble_eq_true rfl) ?_
  intro p e s m below meth c A ls ⟨hx, hb, hr, hml, hown, hlocks, _, hts⟩ hw hG hA hl
  have hl : lv_has ls 1 [(0, .int p1)] := hl
  rw [f_X5_leastOf] at hf
  refine lv_iload_n hx hb dX5_leastOf_0 rfl (lv_at hl 0 rfl) ?_
  refine lv_iconst (v := 3) hx hb dX5_leastOf_1 (by decide) ?_
  refine lv_icmp_ne (tgt := 9) hx hb dX5_leastOf_2 (by decide) (fun c_1 => ?_) (fun c_1 => ?_)
  · replace hf := if_f c_1 hf
    refine lv_iconst (v := 0) hx hb dX5_leastOf_9 (by decide) ?_
    have e_2 := Option.some.inj hf
    subst e_2
    exact wd_iret hx hb hr hlocks hw dX5_leastOf_10
  · replace hf := if_t c_1 hf
    refine lv_iconst (v := 1) hx hb dX5_leastOf_5 (by decide) ?_
    refine lv_goto (tgt := 10) hx hb dX5_leastOf_6 (by decide) ?_
    have e_3 := Option.some.inj hf
    subst e_3
    exact wd_iret hx hb hr hlocks hw dX5_leastOf_10
/-! DutyDesk$Reader.greatestOf(I)I -/
def rm_X5_greatestOf : Room := { frames := 0, cells := 0, slots := 0, locals := 0 }
def f_X5_greatestOf (p1 : Int32) : Option (Int32) :=
  (if p1 = 2 then
    some (9)
  else
    (if p1 = 3 then
    some (30)
  else
    some (9999)))
set_option maxHeartbeats 4000000 in
set_option maxRecDepth 100000 in
theorem c_X5_greatestOf (G : GP) (l : Launch) (W0 : va_W) (p1 : Int32) (r0 : Int32) (hf : f_X5_greatestOf p1 = some r0) : MC G l yX5_greatestOf wsX5_greatestOf rm_X5_greatestOf [.int p1] (W0) (W0) (some (.int r0)) 0 0 := by
  refine MC.mk (cc := cX5_greatestOf) (maxL := 1) (ret := (some .int)) (by decide) rfl (Nat.le_of_ble_eq_true rfl) ?_
  intro p e s m below meth c A ls ⟨hx, hb, hr, hml, hown, hlocks, _, hts⟩ hw hG hA hl
  have hl : lv_has ls 1 [(0, .int p1)] := hl
  rw [f_X5_greatestOf] at hf
  refine lv_iload_n hx hb dX5_greatestOf_0 rfl (lv_at hl 0 rfl) ?_
  refine lv_iconst (v := 2) hx hb dX5_greatestOf_1 (by decide) ?_
  refine lv_icmp_ne (tgt := 8) hx hb dX5_greatestOf_2 (by decide) (fun c_1 => ?_) (fun c_1 => ?_)
  · replace hf := if_f c_1 hf
    refine lv_iload_n hx hb dX5_greatestOf_8 rfl (lv_at hl 0 rfl) ?_
    refine lv_iconst (v := 3) hx hb dX5_greatestOf_9 (by decide) ?_
    refine lv_icmp_ne (tgt := 18) hx hb dX5_greatestOf_10 (by decide) (fun c_2 => ?_) (fun c_2 => ?_)
    · replace hf := if_f c_2 hf
      refine lv_sipush (v := 9999) hx hb dX5_greatestOf_18 (by decide) ?_
      have e_3 := Option.some.inj hf
      subst e_3
      exact wd_iret hx hb hr hlocks hw dX5_greatestOf_21
    · replace hf := if_t c_2 hf
      refine lv_bipush (v := 30) hx hb dX5_greatestOf_13 (by decide) ?_
      refine lv_goto (tgt := 21) hx hb dX5_greatestOf_15 (by decide) ?_
      have e_4 := Option.some.inj hf
      subst e_4
      exact wd_iret hx hb hr hlocks hw dX5_greatestOf_21
  · replace hf := if_t c_1 hf
    refine lv_bipush (v := 9) hx hb dX5_greatestOf_5 (by decide) ?_
    have e_5 := Option.some.inj hf
    subst e_5
    exact wd_iret hx hb hr hlocks hw dX5_greatestOf_7
/-! DutyDesk$Reader.takeNumber()V -/
def rm_X5_takeNumber : Room := { frames := 1, cells := 0, slots := 0, locals := 21 }
def f_X5_takeNumber (S : St) : Option (St) :=
  (if (gI S 2) = 2 then
    (f_X5_leastOf (gI S 6)).bind (fun r_3 => (if (gI S 4) < r_3 then
    (f_X5_setFault S 2).bind (fun S_6 => some (S_6))
  else
    (f_X5_greatestOf (gI S 6)).bind (fun r_9 => (if (gI S 4) ≤ r_9 then
    gd (gI S 6) 12 (bnd (sM S 8 ((gI S 6).toNatClampNeg) (gI S 4)) fun S_12 => bnd (sI S_12 5 4) fun S_13 => some (S_13))
  else
    (f_X5_setFault S 2).bind (fun S_16 => some (S_16))))))
  else
    (f_X5_setFault S 1).bind (fun S_19 => some (S_19)))
set_option maxHeartbeats 4000000 in
set_option maxRecDepth 100000 in
theorem c_X5_takeNumber (G : GP) (l : Launch) (a : Nat → Nat) (ha : a 45 = G.2.2.1) (R : va_W) (S : St) (S9 : St) (hf : f_X5_takeNumber S = some S9) : MC G l yX5_takeNumber wsX5_takeNumber rm_X5_takeNumber [.ref (a 1)] (xw G.2.1 a R S) (xw G.2.1 a R S9) none 0 0 := by
  refine MC.mk (cc := cX5_takeNumber) (maxL := 1) (ret := none) (by decide) rfl (Nat.le_of_ble_eq_true rfl) ?_
  intro p e s m below meth c A ls ⟨hx, hb, hr, hml, hown, hlocks, _, hts⟩ hw hG hA hl
  have hl : lv_has ls 1 [(0, .ref (a 1))] := hl
  have hin5 : ∀ w ∈ u_ws RX5 TX5 12, w ∈ wsX5_takeNumber := by decide +kernel
  rw [f_X5_takeNumber] at hf
  refine lv_aload_n hx hb dX5_takeNumber_0 rfl (lv_at hl 0 rfl) ?_
  refine va_get (D := G.1) (ci := 5) (v := .int (gI S 2)) (C := RX5) (T := TX5) (N := 12) hx hb hts hin5 hown hG.1 hw.1 1 rfl rfl 4 (by decide) (hts (.fieldLink RX5 38 "DutyDesk$Reader" "token" "I") (List.mem_of_getElem? (i := 1) rfl)) (fun _ h9 => h9) rfl dX5_takeNumber_1 ?_
  refine lv_iconst (v := 2) hx hb dX5_takeNumber_4 (by decide) ?_
  refine lv_icmp_eq (tgt := 16) hx hb dX5_takeNumber_5 (by decide) (fun c_1 => ?_) (fun c_1 => ?_)
  · replace hf := if_t c_1 hf
    refine lv_aload_n hx hb dX5_takeNumber_16 rfl (lv_at hl 0 rfl) ?_
    refine va_get (D := G.1) (ci := 5) (v := .int (gI S 4)) (C := RX5) (T := TX5) (N := 12) hx hb hts hin5 hown hG.1 hw.1 1 rfl rfl 6 (by decide) (hts (.fieldLink RX5 72 "DutyDesk$Reader" "number" "I") (List.mem_of_getElem? (i := 2) rfl)) (fun _ h9 => h9) rfl dX5_takeNumber_17 ?_
    refine lv_aload_n hx hb dX5_takeNumber_20 rfl (lv_at hl 0 rfl) ?_
    refine va_get (D := G.1) (ci := 5) (v := .int (gI S 6)) (C := RX5) (T := TX5) (N := 12) hx hb hts hin5 hown hG.1 hw.1 1 rfl rfl 8 (by decide) (hts (.fieldLink RX5 94 "DutyDesk$Reader" "lineRule" "I") (List.mem_of_getElem? (i := 3) rfl)) (fun _ h9 => h9) rfl dX5_takeNumber_21 ?_
    obtain ⟨r_3, h_2, hf⟩ := bind_of hf
    refine cS (As := [.int (gI S 6)]) (rest := [.int (gI S 4)]) ⟨hx, hb, hml, hown, hts⟩ hG hA hw (c_X5_leastOf G l _ (gI S 6) r_3 h_2) (va_cwS 1 hts gX5_takeNumber_X5_leastOf rfl rfl rfl (by decide +kernel) ⟨Nat.le_of_ble_eq_true rfl, Nat.le_of_ble_eq_true rfl⟩) rfl hl.1 rfl (Nat.le_of_ble_eq_true rfl) dX5_takeNumber_24 ⟨Nat.zero_le _, Nat.zero_le _⟩ (fun H locs hw => ?_)
    refine lv_icmp_lt (tgt := 44) hx hb dX5_takeNumber_27 (by decide) (fun c_4 => ?_) (fun c_4 => ?_)
    · replace hf := if_t c_4 hf
      refine lv_aload_n hx hb dX5_takeNumber_44 rfl (lv_at hl 0 rfl) ?_
      refine lv_iconst (v := 2) hx hb dX5_takeNumber_45 (by decide) ?_
      obtain ⟨S_6, h_5, hf⟩ := bind_of hf
      refine cV (As := [.int 2]) (rest := []) ⟨hx, hb, hml, hown, hts⟩ hG hA hw (c_X5_setFault G l a ha R S 2 S_6 h_5) (cwV 1 hts gX5_takeNumber_X5_setFault rfl rfl rfl (by decide +kernel) ⟨Nat.le_of_ble_eq_true rfl, Nat.le_of_ble_eq_true rfl⟩) (va_recv hG.1 hw.1 (ci := 5) (q0 := 1) rfl rfl) rfl hl.1 rfl (Nat.le_of_ble_eq_true rfl) dX5_takeNumber_46 ⟨Nat.zero_le _, Nat.zero_le _⟩ (fun H locs hw => ?_)
      refine lv_goto (tgt := 70) hx hb dX5_takeNumber_49 (by decide) ?_
      have e_7 := Option.some.inj hf
      subst e_7
      exact wd_vret hx hb hr hlocks hw dX5_takeNumber_70
    · replace hf := if_f c_4 hf
      refine lv_aload_n hx hb dX5_takeNumber_30 rfl (lv_at hl 0 rfl) ?_
      refine va_get (D := G.1) (ci := 5) (v := .int (gI S 4)) (C := RX5) (T := TX5) (N := 12) hx hb hts hin5 hown hG.1 hw.1 1 rfl rfl 6 (by decide) (hts (.fieldLink RX5 72 "DutyDesk$Reader" "number" "I") (List.mem_of_getElem? (i := 2) rfl)) (fun _ h9 => h9) rfl dX5_takeNumber_31 ?_
      refine lv_aload_n hx hb dX5_takeNumber_34 rfl (lv_at hl 0 rfl) ?_
      refine va_get (D := G.1) (ci := 5) (v := .int (gI S 6)) (C := RX5) (T := TX5) (N := 12) hx hb hts hin5 hown hG.1 hw.1 1 rfl rfl 8 (by decide) (hts (.fieldLink RX5 94 "DutyDesk$Reader" "lineRule" "I") (List.mem_of_getElem? (i := 3) rfl)) (fun _ h9 => h9) rfl dX5_takeNumber_35 ?_
      obtain ⟨r_9, h_8, hf⟩ := bind_of hf
      refine cS (As := [.int (gI S 6)]) (rest := [.int (gI S 4)]) ⟨hx, hb, hml, hown, hts⟩ hG hA hw (c_X5_greatestOf G l _ (gI S 6) r_9 h_8) (va_cwS 1 hts gX5_takeNumber_X5_greatestOf rfl rfl rfl (by decide +kernel) ⟨Nat.le_of_ble_eq_true rfl, Nat.le_of_ble_eq_true rfl⟩) rfl hl.1 rfl (Nat.le_of_ble_eq_true rfl) dX5_takeNumber_38 ⟨Nat.zero_le _, Nat.zero_le _⟩ (fun H locs hw => ?_)
      refine lv_icmp_le (tgt := 52) hx hb dX5_takeNumber_41 (by decide) (fun c_10 => ?_) (fun c_10 => ?_)
      · replace hf := if_t c_10 hf
        refine lv_aload_n hx hb dX5_takeNumber_52 rfl (lv_at hl 0 rfl) ?_
        refine va_get (D := G.1) (ci := 5) (v := .ref (a 8)) (C := RX5) (T := TX5) (N := 12) hx hb hts hin5 hown hG.1 hw.1 1 rfl rfl 2 (by decide) (hts (.fieldLink RX5 15 "DutyDesk$Reader" "text" "[I") (List.mem_of_getElem? (i := 4) rfl)) (fun _ h9 => h9) rfl dX5_takeNumber_53 ?_
        refine lv_aload_n hx hb dX5_takeNumber_56 rfl (lv_at hl 0 rfl) ?_
        refine va_get (D := G.1) (ci := 5) (v := .int (gI S 6)) (C := RX5) (T := TX5) (N := 12) hx hb hts hin5 hown hG.1 hw.1 1 rfl rfl 8 (by decide) (hts (.fieldLink RX5 94 "DutyDesk$Reader" "lineRule" "I") (List.mem_of_getElem? (i := 3) rfl)) (fun _ h9 => h9) rfl dX5_takeNumber_57 ?_
        refine lv_aload_n hx hb dX5_takeNumber_60 rfl (lv_at hl 0 rfl) ?_
        refine va_get (D := G.1) (ci := 5) (v := .int (gI S 4)) (C := RX5) (T := TX5) (N := 12) hx hb hts hin5 hown hG.1 hw.1 1 rfl rfl 6 (by decide) (hts (.fieldLink RX5 72 "DutyDesk$Reader" "number" "I") (List.mem_of_getElem? (i := 2) rfl)) (fun _ h9 => h9) rfl dX5_takeNumber_61 ?_
        obtain ⟨h_11, hf⟩ := gd_of hf
        refine va_iast hx hb hG.1 hw.1 hw.2.1 hw.2.2 8 1 (xw_atM (k := 8) rfl) rfl h_11 dX5_takeNumber_64 (fun H locs hP hD hS => ?_)
        obtain ⟨S_12, eS_12⟩ : ∃ z : St, z = sM S 8 ((gI S 6).toNatClampNeg) (gI S 4) := ⟨_, rfl⟩
        replace hf := bnd_of eS_12 hf
        have hw : Wd G A s H locs (xw G.2.1 a R S_12) := wd_eq (by rw [eS_12]; exact xw_upM (k := 8) rfl _) hP hD hS
        refine lv_aload_n hx hb dX5_takeNumber_65 rfl (lv_at hl 0 rfl) ?_
        refine lv_iconst (v := 4) hx hb dX5_takeNumber_66 (by decide) ?_
        refine va_put (D := G.1) (ci := 5) (v := .int 4) (ty := .int) (C := RX5) (T := TX5) (N := 12) hx hb hts hin5 tyX5 tyX5_ok nmX5 hown hG.1 hw.1 hw.2.1 hw.2.2 1 rfl rfl 7 (by decide) (hts (.fieldLink RX5 41 "DutyDesk$Reader" "want" "I") (List.mem_of_getElem? (i := 5) rfl)) (fun _ h9 => h9) rfl (by decide +kernel) rfl rfl (Nat.le_of_ble_eq_true rfl) dX5_takeNumber_67 (fun H locs hP hD hS => ?_)
        obtain ⟨S_13, eS_13⟩ : ∃ z : St, z = sI S_12 5 4 := ⟨_, rfl⟩
        replace hf := bnd_of eS_13 hf
        have hw : Wd G A s H locs (xw G.2.1 a R S_13) := wd_eq (by rw [eS_13]; exact xw_upI5 _) hP hD hS
        have e_14 := Option.some.inj hf
        subst e_14
        exact wd_vret hx hb hr hlocks hw dX5_takeNumber_70
      · replace hf := if_f c_10 hf
        refine lv_aload_n hx hb dX5_takeNumber_44 rfl (lv_at hl 0 rfl) ?_
        refine lv_iconst (v := 2) hx hb dX5_takeNumber_45 (by decide) ?_
        obtain ⟨S_16, h_15, hf⟩ := bind_of hf
        refine cV (As := [.int 2]) (rest := []) ⟨hx, hb, hml, hown, hts⟩ hG hA hw (c_X5_setFault G l a ha R S 2 S_16 h_15) (cwV 1 hts gX5_takeNumber_X5_setFault rfl rfl rfl (by decide +kernel) ⟨Nat.le_of_ble_eq_true rfl, Nat.le_of_ble_eq_true rfl⟩) (va_recv hG.1 hw.1 (ci := 5) (q0 := 1) rfl rfl) rfl hl.1 rfl (Nat.le_of_ble_eq_true rfl) dX5_takeNumber_46 ⟨Nat.zero_le _, Nat.zero_le _⟩ (fun H locs hw => ?_)
        refine lv_goto (tgt := 70) hx hb dX5_takeNumber_49 (by decide) ?_
        have e_17 := Option.some.inj hf
        subst e_17
        exact wd_vret hx hb hr hlocks hw dX5_takeNumber_70
  · replace hf := if_f c_1 hf
    refine lv_aload_n hx hb dX5_takeNumber_8 rfl (lv_at hl 0 rfl) ?_
    refine lv_iconst (v := 1) hx hb dX5_takeNumber_9 (by decide) ?_
    obtain ⟨S_19, h_18, hf⟩ := bind_of hf
    refine cV (As := [.int 1]) (rest := []) ⟨hx, hb, hml, hown, hts⟩ hG hA hw (c_X5_setFault G l a ha R S 1 S_19 h_18) (cwV 1 hts gX5_takeNumber_X5_setFault rfl rfl rfl (by decide +kernel) ⟨Nat.le_of_ble_eq_true rfl, Nat.le_of_ble_eq_true rfl⟩) (va_recv hG.1 hw.1 (ci := 5) (q0 := 1) rfl rfl) rfl hl.1 rfl (Nat.le_of_ble_eq_true rfl) dX5_takeNumber_10 ⟨Nat.zero_le _, Nat.zero_le _⟩ (fun H locs hw => ?_)
    refine lv_goto (tgt := 70) hx hb dX5_takeNumber_13 (by decide) ?_
    have e_20 := Option.some.inj hf
    subst e_20
    exact wd_vret hx hb hr hlocks hw dX5_takeNumber_70
/-! DutyDesk$Reader.orderWord(I)Ljava/lang/String; -/
def rm_X5_orderWord : Room := { frames := 0, cells := 0, slots := 0, locals := 0 }
def f_X5_orderWord (p1 : Int32) : Option (Nat) :=
  (if p1 = 0 then
    some (11)
  else
    (if p1 = 1 then
    some (12)
  else
    some (13)))
set_option maxHeartbeats 4000000 in
set_option maxRecDepth 100000 in
theorem c_X5_orderWord (G : GP) (l : Launch) (W0 : va_W) (p1 : Int32) (r0 : Nat) (hf : f_X5_orderWord p1 = some r0) : MC G l yX5_orderWord wsX5_orderWord rm_X5_orderWord [.int p1] (W0) (W0) (some (.ref (G.2.2.2.1 r0))) 0 0 := by
  refine MC.mk (cc := cX5_orderWord) (maxL := 1) (ret := (some (.object "java/lang/String"))) (by decide) rfl (Nat.le_of_ble_eq_true rfl) ?_
  intro p e s m below meth c A ls ⟨hx, hb, hr, hml, hown, hlocks, _, hts⟩ hw hG hA hl
  have hl : lv_has ls 1 [(0, .int p1)] := hl
  rw [f_X5_orderWord] at hf
  refine lv_iload_n hx hb dX5_orderWord_0 rfl (lv_at hl 0 rfl) ?_
  refine lv_if_ne (tgt := 7) hx hb dX5_orderWord_1 (by decide) (fun c_1 => ?_) (fun c_1 => ?_)
  · replace hf := if_f c_1 hf
    refine lv_iload_n hx hb dX5_orderWord_7 rfl (lv_at hl 0 rfl) ?_
    refine lv_iconst (v := 1) hx hb dX5_orderWord_8 (by decide) ?_
    refine lv_icmp_ne (tgt := 17) hx hb dX5_orderWord_9 (by decide) (fun c_2 => ?_) (fun c_2 => ?_)
    · replace hf := if_f c_2 hf
      refine va_ldcS hx hb hown (hG.2.2.2.2.2.2.2 13 (by decide)) dX5_orderWord_17 ?_
      have e_3 := Option.some.inj hf
      subst e_3
      exact wd_aret hx hb hr (by first | exact Or.inl ⟨_, rfl⟩ | exact Or.inr ⟨_, rfl⟩) hlocks hw dX5_orderWord_19
    · replace hf := if_t c_2 hf
      refine va_ldcS hx hb hown (hG.2.2.2.2.2.2.2 12 (by decide)) dX5_orderWord_12 ?_
      refine lv_goto (tgt := 19) hx hb dX5_orderWord_14 (by decide) ?_
      have e_4 := Option.some.inj hf
      subst e_4
      exact wd_aret hx hb hr (by first | exact Or.inl ⟨_, rfl⟩ | exact Or.inr ⟨_, rfl⟩) hlocks hw dX5_orderWord_19
  · replace hf := if_t c_1 hf
    refine va_ldcS hx hb hown (hG.2.2.2.2.2.2.2 11 (by decide)) dX5_orderWord_4 ?_
    have e_5 := Option.some.inj hf
    subst e_5
    exact wd_aret hx hb hr (by first | exact Or.inl ⟨_, rfl⟩ | exact Or.inr ⟨_, rfl⟩) hlocks hw dX5_orderWord_6
/-! DutyDesk$Reader.orderOfWord()I -/
def rm_X5_orderOfWord : Room := { frames := 5, cells := 0, slots := 0, locals := 107 }
def f_X5_orderOfWord_L2 (S : St) : Int32 → Option ((Int32) ⊕ (Int32))
  | v_1 =>
  (if 3 ≤ v_1 then
    some (.inr ((-1)))
  else
    (f_X5_orderWord v_1).bind (fun r_6 => gn r_6 18 ((f_X5_tokenIs S r_6).bind (fun r_9 => (if r_9 = 0 then
    bnd (v_1 + 1) fun x_11 => some (.inl x_11)
  else
    some (.inr (v_1)))))))
def f_X5_orderOfWord (S : St) : Option (Int32) :=
  loopF (f_X5_orderOfWord_L2 S) FU 0
set_option maxHeartbeats 4000000 in
set_option maxRecDepth 100000 in
theorem c_X5_orderOfWord (G : GP) (l : Launch) (a : Nat → Nat) (ha : a 45 = G.2.2.1) (R : va_W) (S : St) (r0 : Int32) (hf : f_X5_orderOfWord S = some r0) : MC G l yX5_orderOfWord wsX5_orderOfWord rm_X5_orderOfWord [.ref (a 1)] (xw G.2.1 a R S) (xw G.2.1 a R S) (some (.int r0)) 0 0 := by
  refine MC.mk (cc := cX5_orderOfWord) (maxL := 2) (ret := (some .int)) (by decide) rfl (Nat.le_of_ble_eq_true rfl) ?_
  intro p e s m below meth c A ls ⟨hx, hb, hr, hml, hown, hlocks, _, hts⟩ hw hG hA hl
  have hl : lv_has ls 2 [(0, .ref (a 1))] := hl
  rw [f_X5_orderOfWord] at hf
  refine lv_iconst (v := 0) hx hb dX5_orderOfWord_0 (by decide) ?_
  refine lv_istore_n (lv' := [(1, .int 0), (0, .ref (a 1))]) hx hb dX5_orderOfWord_1 rfl hl (by decide) rfl (fun ls hl => ?_)
  refine loopF_ind (body := f_X5_orderOfWord_L2 S) (fun (v_1 : Int32) => ∀ (H : Heap) (locs : List Loc) (ls : Array Slot), Wd G A s H locs (xw G.2.1 a R S) → lv_has ls 2 [(0, .ref (a 1)), (1, .int v_1)] → WQ p l e rm_X5_orderOfWord s m [.ref (a 1)] below meth c G A (xw G.2.1 a R S) (some (.int r0)) 0 0 H locs 0 0 (F0 m 2 ls [])) ?_ FU 0 hf _ _ _ hw (lv_sub hl [1, 0] rfl)
  clear hf hw hl
  intro v_1 t0_2 hf hz1_0_2 hz2_0_2 H locs ls hw hl
  rw [f_X5_orderOfWord_L2] at hf
  refine lv_iload_n hx hb dX5_orderOfWord_2 rfl (lv_at hl 1 rfl) ?_
  refine lv_iconst (v := 3) hx hb dX5_orderOfWord_3 (by decide) ?_
  refine lv_icmp_ge (tgt := 26) hx hb dX5_orderOfWord_4 (by decide) (fun c_2 => ?_) (fun c_2 => ?_)
  · replace hf := if_t c_2 hf
    refine lv_iconst (v := (-1)) hx hb dX5_orderOfWord_26 (by decide) ?_
    have e_3 := Option.some.inj hf
    have e_4 := hz2_0_2 _ e_3.symm
    subst e_4
    exact wd_iret hx hb hr hlocks hw dX5_orderOfWord_27
  · replace hf := if_f c_2 hf
    refine lv_aload_n hx hb dX5_orderOfWord_7 rfl (lv_at hl 0 rfl) ?_
    refine lv_iload_n hx hb dX5_orderOfWord_8 rfl (lv_at hl 1 rfl) ?_
    obtain ⟨r_6, h_5, hf⟩ := bind_of hf
    refine cS (As := [.int v_1]) (rest := [.ref (a 1)]) ⟨hx, hb, hml, hown, hts⟩ hG hA hw (c_X5_orderWord G l _ v_1 r_6 h_5) (va_cwS 1 hts gX5_orderOfWord_X5_orderWord rfl rfl rfl (by decide +kernel) ⟨Nat.le_of_ble_eq_true rfl, Nat.le_of_ble_eq_true rfl⟩) rfl hl.1 rfl (Nat.le_of_ble_eq_true rfl) dX5_orderOfWord_9 ⟨Nat.zero_le _, Nat.zero_le _⟩ (fun H locs hw => ?_)
    obtain ⟨hs_7, hf⟩ := gn_of hf
    obtain ⟨r_9, h_8, hf⟩ := bind_of hf
    refine cV (As := [.ref (G.2.2.2.1 r_6)]) (rest := []) ⟨hx, hb, hml, hown, hts⟩ hG hA hw (c_X5_tokenIs G l a ha R S r_6 r_9 h_8) (cwV 1 hts gX5_orderOfWord_X5_tokenIs rfl rfl rfl (by decide +kernel) ⟨Nat.le_of_ble_eq_true rfl, Nat.le_of_ble_eq_true rfl⟩) (va_recv hG.1 hw.1 (ci := 5) (q0 := 1) rfl rfl) rfl hl.1 rfl (Nat.le_of_ble_eq_true rfl) dX5_orderOfWord_12 ⟨Nat.zero_le _, Nat.zero_le _⟩ (fun H locs hw => ?_)
    refine lv_if_eq (tgt := 20) hx hb dX5_orderOfWord_15 (by decide) (fun c_10 => ?_) (fun c_10 => ?_)
    · replace hf := if_t c_10 hf
      obtain ⟨x_11, ex_11⟩ : ∃ z : Int32, z = v_1 + 1 := ⟨_, rfl⟩
      replace hf := bnd_of ex_11 hf
      refine lv_iinc (v := x_11) (lv' := [(1, .int x_11), (0, .ref (a 1))]) hx hb dX5_orderOfWord_20 hl (k := 1) rfl (by rw [ex_11]; rfl) (by decide) rfl (fun ls hl => ?_)
      refine lv_goto (tgt := 2) hx hb dX5_orderOfWord_23 (by decide) ?_
      have e_12 := Option.some.inj hf
      exact hz1_0_2 _ e_12.symm _ _ _ hw (lv_sub hl [1, 0] rfl)
    · replace hf := if_f c_10 hf
      refine lv_iload_n hx hb dX5_orderOfWord_18 rfl (lv_at hl 1 rfl) ?_
      have e_13 := Option.some.inj hf
      have e_14 := hz2_0_2 _ e_13.symm
      subst e_14
      exact wd_iret hx hb hr hlocks hw dX5_orderOfWord_19
/-! DutyDesk$Reader.takeOrder()V -/
def rm_X5_takeOrder : Room := { frames := 6, cells := 0, slots := 0, locals := 128 }
def f_X5_takeOrder (S : St) : Option (St) :=
  (f_X5_orderOfWord S).bind (fun r_2 => (if r_2 = (-1) then
    (f_X5_setFault S 1).bind (fun S_9 => some (S_9))
  else
    gd 9 12 (bnd (sM S 8 ((9 : Int32).toNatClampNeg) r_2) fun S_5 => bnd (sI S_5 5 4) fun S_6 => some (S_6))))
set_option maxHeartbeats 4000000 in
set_option maxRecDepth 100000 in
theorem c_X5_takeOrder (G : GP) (l : Launch) (a : Nat → Nat) (ha : a 45 = G.2.2.1) (R : va_W) (S : St) (S9 : St) (hf : f_X5_takeOrder S = some S9) : MC G l yX5_takeOrder wsX5_takeOrder rm_X5_takeOrder [.ref (a 1)] (xw G.2.1 a R S) (xw G.2.1 a R S9) none 0 0 := by
  refine MC.mk (cc := cX5_takeOrder) (maxL := 2) (ret := none) (by decide) rfl (Nat.le_of_ble_eq_true rfl) ?_
  intro p e s m below meth c A ls ⟨hx, hb, hr, hml, hown, hlocks, _, hts⟩ hw hG hA hl
  have hl : lv_has ls 2 [(0, .ref (a 1))] := hl
  have hin5 : ∀ w ∈ u_ws RX5 TX5 12, w ∈ wsX5_takeOrder := by decide +kernel
  rw [f_X5_takeOrder] at hf
  refine lv_aload_n hx hb dX5_takeOrder_0 rfl (lv_at hl 0 rfl) ?_
  obtain ⟨r_2, h_1, hf⟩ := bind_of hf
  refine cV (As := []) (rest := []) ⟨hx, hb, hml, hown, hts⟩ hG hA hw (c_X5_orderOfWord G l a ha R S r_2 h_1) (cwV 0 hts gX5_takeOrder_X5_orderOfWord rfl rfl rfl (by decide +kernel) ⟨Nat.le_of_ble_eq_true rfl, Nat.le_of_ble_eq_true rfl⟩) (va_recv hG.1 hw.1 (ci := 5) (q0 := 1) rfl rfl) rfl hl.1 rfl (Nat.le_of_ble_eq_true rfl) dX5_takeOrder_1 ⟨Nat.zero_le _, Nat.zero_le _⟩ (fun H locs hw => ?_)
  refine lv_istore_n (lv' := [(1, .int r_2), (0, .ref (a 1))]) hx hb dX5_takeOrder_4 rfl hl (by decide) rfl (fun ls hl => ?_)
  refine lv_iload_n hx hb dX5_takeOrder_5 rfl (lv_at hl 0 rfl) ?_
  refine lv_iconst (v := (-1)) hx hb dX5_takeOrder_6 (by decide) ?_
  refine lv_icmp_ne (tgt := 16) hx hb dX5_takeOrder_7 (by decide) (fun c_3 => ?_) (fun c_3 => ?_)
  · replace hf := if_f c_3 hf
    refine lv_aload_n hx hb dX5_takeOrder_16 rfl (lv_at hl 1 rfl) ?_
    refine va_get (D := G.1) (ci := 5) (v := .ref (a 8)) (C := RX5) (T := TX5) (N := 12) hx hb hts hin5 hown hG.1 hw.1 1 rfl rfl 2 (by decide) (hts (.fieldLink RX5 15 "DutyDesk$Reader" "text" "[I") (List.mem_of_getElem? (i := 1) rfl)) (fun _ h9 => h9) rfl dX5_takeOrder_17 ?_
    refine lv_bipush (v := 9) hx hb dX5_takeOrder_20 (by decide) ?_
    refine lv_iload_n hx hb dX5_takeOrder_22 rfl (lv_at hl 0 rfl) ?_
    obtain ⟨h_4, hf⟩ := gd_of hf
    refine va_iast hx hb hG.1 hw.1 hw.2.1 hw.2.2 8 1 (xw_atM (k := 8) rfl) rfl h_4 dX5_takeOrder_23 (fun H locs hP hD hS => ?_)
    obtain ⟨S_5, eS_5⟩ : ∃ z : St, z = sM S 8 ((9 : Int32).toNatClampNeg) r_2 := ⟨_, rfl⟩
    replace hf := bnd_of eS_5 hf
    have hw : Wd G A s H locs (xw G.2.1 a R S_5) := wd_eq (by rw [eS_5]; exact xw_upM (k := 8) rfl _) hP hD hS
    refine lv_aload_n hx hb dX5_takeOrder_24 rfl (lv_at hl 1 rfl) ?_
    refine lv_iconst (v := 4) hx hb dX5_takeOrder_25 (by decide) ?_
    refine va_put (D := G.1) (ci := 5) (v := .int 4) (ty := .int) (C := RX5) (T := TX5) (N := 12) hx hb hts hin5 tyX5 tyX5_ok nmX5 hown hG.1 hw.1 hw.2.1 hw.2.2 1 rfl rfl 7 (by decide) (hts (.fieldLink RX5 41 "DutyDesk$Reader" "want" "I") (List.mem_of_getElem? (i := 2) rfl)) (fun _ h9 => h9) rfl (by decide +kernel) rfl rfl (Nat.le_of_ble_eq_true rfl) dX5_takeOrder_26 (fun H locs hP hD hS => ?_)
    obtain ⟨S_6, eS_6⟩ : ∃ z : St, z = sI S_5 5 4 := ⟨_, rfl⟩
    replace hf := bnd_of eS_6 hf
    have hw : Wd G A s H locs (xw G.2.1 a R S_6) := wd_eq (by rw [eS_6]; exact xw_upI5 _) hP hD hS
    have e_7 := Option.some.inj hf
    subst e_7
    exact wd_vret hx hb hr hlocks hw dX5_takeOrder_29
  · replace hf := if_t c_3 hf
    refine lv_aload_n hx hb dX5_takeOrder_10 rfl (lv_at hl 1 rfl) ?_
    refine lv_iconst (v := 1) hx hb dX5_takeOrder_11 (by decide) ?_
    obtain ⟨S_9, h_8, hf⟩ := bind_of hf
    refine cV (As := [.int 1]) (rest := []) ⟨hx, hb, hml, hown, hts⟩ hG hA hw (c_X5_setFault G l a ha R S 1 S_9 h_8) (cwV 1 hts gX5_takeOrder_X5_setFault rfl rfl rfl (by decide +kernel) ⟨Nat.le_of_ble_eq_true rfl, Nat.le_of_ble_eq_true rfl⟩) (va_recv hG.1 hw.1 (ci := 5) (q0 := 1) rfl rfl) rfl hl.1 rfl (Nat.le_of_ble_eq_true rfl) dX5_takeOrder_12 ⟨Nat.zero_le _, Nat.zero_le _⟩ (fun H locs hw => ?_)
    have e_10 := Option.some.inj hf
    subst e_10
    exact wd_vret hx hb hr hlocks hw dX5_takeOrder_15
/-! DutyDesk$Reader.barWord(I)Ljava/lang/String; -/
def rm_X5_barWord : Room := { frames := 0, cells := 0, slots := 0, locals := 0 }
def f_X5_barWord (p1 : Int32) : Option (Nat) :=
  (if ((1 : Int32) <<< (p1 &&& 31)) = 1 then
    some (14)
  else
    (if ((1 : Int32) <<< (p1 &&& 31)) = 2 then
    some (15)
  else
    some (16)))
set_option maxHeartbeats 4000000 in
set_option maxRecDepth 100000 in
theorem c_X5_barWord (G : GP) (l : Launch) (W0 : va_W) (p1 : Int32) (r0 : Nat) (hf : f_X5_barWord p1 = some r0) : MC G l yX5_barWord wsX5_barWord rm_X5_barWord [.int p1] (W0) (W0) (some (.ref (G.2.2.2.1 r0))) 0 0 := by
  refine MC.mk (cc := cX5_barWord) (maxL := 1) (ret := (some (.object "java/lang/String"))) (by decide) rfl (Nat.le_of_ble_eq_true rfl) ?_
  intro p e s m below meth c A ls ⟨hx, hb, hr, hml, hown, hlocks, _, hts⟩ hw hG hA hl
  have hl : lv_has ls 1 [(0, .int p1)] := hl
  rw [f_X5_barWord] at hf
  refine lv_iconst (v := 1) hx hb dX5_barWord_0 (by decide) ?_
  refine lv_iload_n hx hb dX5_barWord_1 rfl (lv_at hl 0 rfl) ?_
  refine lv_ishl hx hb dX5_barWord_2 ?_
  refine lv_iconst (v := 1) hx hb dX5_barWord_3 (by decide) ?_
  refine lv_icmp_ne (tgt := 10) hx hb dX5_barWord_4 (by decide) (fun c_1 => ?_) (fun c_1 => ?_)
  · replace hf := if_f c_1 hf
    refine lv_iconst (v := 1) hx hb dX5_barWord_10 (by decide) ?_
    refine lv_iload_n hx hb dX5_barWord_11 rfl (lv_at hl 0 rfl) ?_
    refine lv_ishl hx hb dX5_barWord_12 ?_
    refine lv_iconst (v := 2) hx hb dX5_barWord_13 (by decide) ?_
    refine lv_icmp_ne (tgt := 22) hx hb dX5_barWord_14 (by decide) (fun c_2 => ?_) (fun c_2 => ?_)
    · replace hf := if_f c_2 hf
      refine va_ldcS hx hb hown (hG.2.2.2.2.2.2.2 16 (by decide)) dX5_barWord_22 ?_
      have e_3 := Option.some.inj hf
      subst e_3
      exact wd_aret hx hb hr (by first | exact Or.inl ⟨_, rfl⟩ | exact Or.inr ⟨_, rfl⟩) hlocks hw dX5_barWord_24
    · replace hf := if_t c_2 hf
      refine va_ldcS hx hb hown (hG.2.2.2.2.2.2.2 15 (by decide)) dX5_barWord_17 ?_
      refine lv_goto (tgt := 24) hx hb dX5_barWord_19 (by decide) ?_
      have e_4 := Option.some.inj hf
      subst e_4
      exact wd_aret hx hb hr (by first | exact Or.inl ⟨_, rfl⟩ | exact Or.inr ⟨_, rfl⟩) hlocks hw dX5_barWord_24
  · replace hf := if_t c_1 hf
    refine va_ldcS hx hb hown (hG.2.2.2.2.2.2.2 14 (by decide)) dX5_barWord_7 ?_
    have e_5 := Option.some.inj hf
    subst e_5
    exact wd_aret hx hb hr (by first | exact Or.inl ⟨_, rfl⟩ | exact Or.inr ⟨_, rfl⟩) hlocks hw dX5_barWord_9
/-! DutyDesk$Reader.barOfWord()I -/
def rm_X5_barOfWord : Room := { frames := 5, cells := 0, slots := 0, locals := 107 }
def f_X5_barOfWord_L2 (S : St) : Int32 → Option ((Int32) ⊕ (Int32))
  | v_1 =>
  (if 3 ≤ v_1 then
    some (.inr ((-1)))
  else
    (f_X5_barWord v_1).bind (fun r_6 => gn r_6 18 ((f_X5_tokenIs S r_6).bind (fun r_9 => (if r_9 = 0 then
    bnd (v_1 + 1) fun x_11 => some (.inl x_11)
  else
    some (.inr (v_1)))))))
def f_X5_barOfWord (S : St) : Option (Int32) :=
  loopF (f_X5_barOfWord_L2 S) FU 0
set_option maxHeartbeats 4000000 in
set_option maxRecDepth 100000 in
theorem c_X5_barOfWord (G : GP) (l : Launch) (a : Nat → Nat) (ha : a 45 = G.2.2.1) (R : va_W) (S : St) (r0 : Int32) (hf : f_X5_barOfWord S = some r0) : MC G l yX5_barOfWord wsX5_barOfWord rm_X5_barOfWord [.ref (a 1)] (xw G.2.1 a R S) (xw G.2.1 a R S) (some (.int r0)) 0 0 := by
  refine MC.mk (cc := cX5_barOfWord) (maxL := 2) (ret := (some .int)) (by decide) rfl (Nat.le_of_ble_eq_true rfl) ?_
  intro p e s m below meth c A ls ⟨hx, hb, hr, hml, hown, hlocks, _, hts⟩ hw hG hA hl
  have hl : lv_has ls 2 [(0, .ref (a 1))] := hl
  rw [f_X5_barOfWord] at hf
  refine lv_iconst (v := 0) hx hb dX5_barOfWord_0 (by decide) ?_
  refine lv_istore_n (lv' := [(1, .int 0), (0, .ref (a 1))]) hx hb dX5_barOfWord_1 rfl hl (by decide) rfl (fun ls hl => ?_)
  refine loopF_ind (body := f_X5_barOfWord_L2 S) (fun (v_1 : Int32) => ∀ (H : Heap) (locs : List Loc) (ls : Array Slot), Wd G A s H locs (xw G.2.1 a R S) → lv_has ls 2 [(0, .ref (a 1)), (1, .int v_1)] → WQ p l e rm_X5_barOfWord s m [.ref (a 1)] below meth c G A (xw G.2.1 a R S) (some (.int r0)) 0 0 H locs 0 0 (F0 m 2 ls [])) ?_ FU 0 hf _ _ _ hw (lv_sub hl [1, 0] rfl)
  clear hf hw hl
  intro v_1 t0_2 hf hz1_0_2 hz2_0_2 H locs ls hw hl
  rw [f_X5_barOfWord_L2] at hf
  refine lv_iload_n hx hb dX5_barOfWord_2 rfl (lv_at hl 1 rfl) ?_
  refine lv_iconst (v := 3) hx hb dX5_barOfWord_3 (by decide) ?_
  refine lv_icmp_ge (tgt := 26) hx hb dX5_barOfWord_4 (by decide) (fun c_2 => ?_) (fun c_2 => ?_)
  · replace hf := if_t c_2 hf
    refine lv_iconst (v := (-1)) hx hb dX5_barOfWord_26 (by decide) ?_
    have e_3 := Option.some.inj hf
    have e_4 := hz2_0_2 _ e_3.symm
    subst e_4
    exact wd_iret hx hb hr hlocks hw dX5_barOfWord_27
  · replace hf := if_f c_2 hf
    refine lv_aload_n hx hb dX5_barOfWord_7 rfl (lv_at hl 0 rfl) ?_
    refine lv_iload_n hx hb dX5_barOfWord_8 rfl (lv_at hl 1 rfl) ?_
    obtain ⟨r_6, h_5, hf⟩ := bind_of hf
    refine cS (As := [.int v_1]) (rest := [.ref (a 1)]) ⟨hx, hb, hml, hown, hts⟩ hG hA hw (c_X5_barWord G l _ v_1 r_6 h_5) (va_cwS 1 hts gX5_barOfWord_X5_barWord rfl rfl rfl (by decide +kernel) ⟨Nat.le_of_ble_eq_true rfl, Nat.le_of_ble_eq_true rfl⟩) rfl hl.1 rfl (Nat.le_of_ble_eq_true rfl) dX5_barOfWord_9 ⟨Nat.zero_le _, Nat.zero_le _⟩ (fun H locs hw => ?_)
    obtain ⟨hs_7, hf⟩ := gn_of hf
    obtain ⟨r_9, h_8, hf⟩ := bind_of hf
    refine cV (As := [.ref (G.2.2.2.1 r_6)]) (rest := []) ⟨hx, hb, hml, hown, hts⟩ hG hA hw (c_X5_tokenIs G l a ha R S r_6 r_9 h_8) (cwV 1 hts gX5_barOfWord_X5_tokenIs rfl rfl rfl (by decide +kernel) ⟨Nat.le_of_ble_eq_true rfl, Nat.le_of_ble_eq_true rfl⟩) (va_recv hG.1 hw.1 (ci := 5) (q0 := 1) rfl rfl) rfl hl.1 rfl (Nat.le_of_ble_eq_true rfl) dX5_barOfWord_12 ⟨Nat.zero_le _, Nat.zero_le _⟩ (fun H locs hw => ?_)
    refine lv_if_eq (tgt := 20) hx hb dX5_barOfWord_15 (by decide) (fun c_10 => ?_) (fun c_10 => ?_)
    · replace hf := if_t c_10 hf
      obtain ⟨x_11, ex_11⟩ : ∃ z : Int32, z = v_1 + 1 := ⟨_, rfl⟩
      replace hf := bnd_of ex_11 hf
      refine lv_iinc (v := x_11) (lv' := [(1, .int x_11), (0, .ref (a 1))]) hx hb dX5_barOfWord_20 hl (k := 1) rfl (by rw [ex_11]; rfl) (by decide) rfl (fun ls hl => ?_)
      refine lv_goto (tgt := 2) hx hb dX5_barOfWord_23 (by decide) ?_
      have e_12 := Option.some.inj hf
      exact hz1_0_2 _ e_12.symm _ _ _ hw (lv_sub hl [1, 0] rfl)
    · replace hf := if_f c_10 hf
      refine lv_iload_n hx hb dX5_barOfWord_18 rfl (lv_at hl 1 rfl) ?_
      have e_13 := Option.some.inj hf
      have e_14 := hz2_0_2 _ e_13.symm
      subst e_14
      exact wd_iret hx hb hr hlocks hw dX5_barOfWord_19
/-! DutyDesk$Reader.takeBar()V -/
def rm_X5_takeBar : Room := { frames := 6, cells := 0, slots := 0, locals := 128 }
def f_X5_takeBar (S : St) : Option (St) :=
  (f_X5_barOfWord S).bind (fun r_2 => (if r_2 = (-1) then
    (f_X5_setFault S 1).bind (fun S_17 => some (S_17))
  else
    gd 10 12 ((f_X7_hasBit (gM S 8 (10 : Int32).toNatClampNeg) r_2).bind (fun r_6 => (if r_6 = 0 then
    gd 10 12 (gd 10 12 (bnd (sM S 8 ((10 : Int32).toNatClampNeg) ((gM S 8 (10 : Int32).toNatClampNeg) ||| ((1 : Int32) <<< (r_2 &&& 31)))) fun S_10 => bnd (sI S_10 5 4) fun S_11 => some (S_11)))
  else
    (f_X5_setFault S 3).bind (fun S_14 => some (S_14)))))))
set_option maxHeartbeats 4000000 in
set_option maxRecDepth 100000 in
theorem c_X5_takeBar (G : GP) (l : Launch) (a : Nat → Nat) (ha : a 45 = G.2.2.1) (R : va_W) (S : St) (S9 : St) (hf : f_X5_takeBar S = some S9) : MC G l yX5_takeBar wsX5_takeBar rm_X5_takeBar [.ref (a 1)] (xw G.2.1 a R S) (xw G.2.1 a R S9) none 0 0 := by
  refine MC.mk (cc := cX5_takeBar) (maxL := 2) (ret := none) (by decide) rfl (Nat.le_of_ble_eq_true rfl) ?_
  intro p e s m below meth c A ls ⟨hx, hb, hr, hml, hown, hlocks, _, hts⟩ hw hG hA hl
  have hl : lv_has ls 2 [(0, .ref (a 1))] := hl
  have hin5 : ∀ w ∈ u_ws RX5 TX5 12, w ∈ wsX5_takeBar := by decide +kernel
  rw [f_X5_takeBar] at hf
  refine lv_aload_n hx hb dX5_takeBar_0 rfl (lv_at hl 0 rfl) ?_
  obtain ⟨r_2, h_1, hf⟩ := bind_of hf
  refine cV (As := []) (rest := []) ⟨hx, hb, hml, hown, hts⟩ hG hA hw (c_X5_barOfWord G l a ha R S r_2 h_1) (cwV 0 hts gX5_takeBar_X5_barOfWord rfl rfl rfl (by decide +kernel) ⟨Nat.le_of_ble_eq_true rfl, Nat.le_of_ble_eq_true rfl⟩) (va_recv hG.1 hw.1 (ci := 5) (q0 := 1) rfl rfl) rfl hl.1 rfl (Nat.le_of_ble_eq_true rfl) dX5_takeBar_1 ⟨Nat.zero_le _, Nat.zero_le _⟩ (fun H locs hw => ?_)
  refine lv_istore_n (lv' := [(1, .int r_2), (0, .ref (a 1))]) hx hb dX5_takeBar_4 rfl hl (by decide) rfl (fun ls hl => ?_)
  refine lv_iload_n hx hb dX5_takeBar_5 rfl (lv_at hl 0 rfl) ?_
  refine lv_iconst (v := (-1)) hx hb dX5_takeBar_6 (by decide) ?_
  refine lv_icmp_ne (tgt := 18) hx hb dX5_takeBar_7 (by decide) (fun c_3 => ?_) (fun c_3 => ?_)
  · replace hf := if_f c_3 hf
    refine lv_aload_n hx hb dX5_takeBar_18 rfl (lv_at hl 1 rfl) ?_
    refine va_get (D := G.1) (ci := 5) (v := .ref (a 8)) (C := RX5) (T := TX5) (N := 12) hx hb hts hin5 hown hG.1 hw.1 1 rfl rfl 2 (by decide) (hts (.fieldLink RX5 15 "DutyDesk$Reader" "text" "[I") (List.mem_of_getElem? (i := 1) rfl)) (fun _ h9 => h9) rfl dX5_takeBar_19 ?_
    refine lv_bipush (v := 10) hx hb dX5_takeBar_22 (by decide) ?_
    obtain ⟨h_4, hf⟩ := gd_of hf
    refine va_iald hx hb hG.1 hw.1 8 1 (xw_atM (k := 8) rfl) rfl h_4 dX5_takeBar_24 ?_
    refine lv_iload_n hx hb dX5_takeBar_25 rfl (lv_at hl 0 rfl) ?_
    obtain ⟨r_6, h_5, hf⟩ := bind_of hf
    refine cSN (As := [.int (gM S 8 (10 : Int32).toNatClampNeg), .int r_2]) (rest := []) ⟨hx, hb, hml, hown, hts⟩ hG hA hw (c_X7_hasBit G l _ (gM S 8 (10 : Int32).toNatClampNeg) r_2 r_6 h_5) ⟨va_cnB 2 hts gX5_takeBar_X7_hasBit_n101 rfl rfl rfl (hG.2.1 (.methodLinkNest "DutyDesk$Reader" 101 yX7_hasBit "DutyDesk") (List.mem_of_getElem? (i := 67) rfl)) (hts (.initialized RX7) (List.mem_of_getElem? (i := 75) rfl)) (by decide +kernel) ⟨Nat.le_of_ble_eq_true rfl, Nat.le_of_ble_eq_true rfl⟩, hts (.static yX7_hasBit) (List.mem_of_getElem? (i := 74) rfl), trivial⟩ rfl hl.1 rfl (Nat.le_of_ble_eq_true rfl) dX5_takeBar_26 ⟨Nat.zero_le _, Nat.zero_le _⟩ (fun H locs hw => ?_)
    refine lv_if_eq (tgt := 40) hx hb dX5_takeBar_29 (by decide) (fun c_7 => ?_) (fun c_7 => ?_)
    · replace hf := if_t c_7 hf
      refine lv_aload_n hx hb dX5_takeBar_40 rfl (lv_at hl 1 rfl) ?_
      refine va_get (D := G.1) (ci := 5) (v := .ref (a 8)) (C := RX5) (T := TX5) (N := 12) hx hb hts hin5 hown hG.1 hw.1 1 rfl rfl 2 (by decide) (hts (.fieldLink RX5 15 "DutyDesk$Reader" "text" "[I") (List.mem_of_getElem? (i := 1) rfl)) (fun _ h9 => h9) rfl dX5_takeBar_41 ?_
      refine lv_bipush (v := 10) hx hb dX5_takeBar_44 (by decide) ?_
      refine lv_dup2_11 hx hb dX5_takeBar_46 rfl rfl ?_
      obtain ⟨h_8, hf⟩ := gd_of hf
      refine va_iald hx hb hG.1 hw.1 8 1 (xw_atM (k := 8) rfl) rfl h_8 dX5_takeBar_47 ?_
      refine lv_iconst (v := 1) hx hb dX5_takeBar_48 (by decide) ?_
      refine lv_iload_n hx hb dX5_takeBar_49 rfl (lv_at hl 0 rfl) ?_
      refine lv_ishl hx hb dX5_takeBar_50 ?_
      refine lv_ior hx hb dX5_takeBar_51 ?_
      obtain ⟨h_9, hf⟩ := gd_of hf
      refine va_iast hx hb hG.1 hw.1 hw.2.1 hw.2.2 8 1 (xw_atM (k := 8) rfl) rfl h_9 dX5_takeBar_52 (fun H locs hP hD hS => ?_)
      obtain ⟨S_10, eS_10⟩ : ∃ z : St, z = sM S 8 ((10 : Int32).toNatClampNeg) ((gM S 8 (10 : Int32).toNatClampNeg) ||| ((1 : Int32) <<< (r_2 &&& 31))) := ⟨_, rfl⟩
      replace hf := bnd_of eS_10 hf
      have hw : Wd G A s H locs (xw G.2.1 a R S_10) := wd_eq (by rw [eS_10]; exact xw_upM (k := 8) rfl _) hP hD hS
      refine lv_aload_n hx hb dX5_takeBar_53 rfl (lv_at hl 1 rfl) ?_
      refine lv_iconst (v := 4) hx hb dX5_takeBar_54 (by decide) ?_
      refine va_put (D := G.1) (ci := 5) (v := .int 4) (ty := .int) (C := RX5) (T := TX5) (N := 12) hx hb hts hin5 tyX5 tyX5_ok nmX5 hown hG.1 hw.1 hw.2.1 hw.2.2 1 rfl rfl 7 (by decide) (hts (.fieldLink RX5 41 "DutyDesk$Reader" "want" "I") (List.mem_of_getElem? (i := 2) rfl)) (fun _ h9 => h9) rfl (by decide +kernel) rfl rfl (Nat.le_of_ble_eq_true rfl) dX5_takeBar_55 (fun H locs hP hD hS => ?_)
      obtain ⟨S_11, eS_11⟩ : ∃ z : St, z = sI S_10 5 4 := ⟨_, rfl⟩
      replace hf := bnd_of eS_11 hf
      have hw : Wd G A s H locs (xw G.2.1 a R S_11) := wd_eq (by rw [eS_11]; exact xw_upI5 _) hP hD hS
      have e_12 := Option.some.inj hf
      subst e_12
      exact wd_vret hx hb hr hlocks hw dX5_takeBar_58
    · replace hf := if_f c_7 hf
      refine lv_aload_n hx hb dX5_takeBar_32 rfl (lv_at hl 1 rfl) ?_
      refine lv_iconst (v := 3) hx hb dX5_takeBar_33 (by decide) ?_
      obtain ⟨S_14, h_13, hf⟩ := bind_of hf
      refine cV (As := [.int 3]) (rest := []) ⟨hx, hb, hml, hown, hts⟩ hG hA hw (c_X5_setFault G l a ha R S 3 S_14 h_13) (cwV 1 hts gX5_takeBar_X5_setFault rfl rfl rfl (by decide +kernel) ⟨Nat.le_of_ble_eq_true rfl, Nat.le_of_ble_eq_true rfl⟩) (va_recv hG.1 hw.1 (ci := 5) (q0 := 1) rfl rfl) rfl hl.1 rfl (Nat.le_of_ble_eq_true rfl) dX5_takeBar_34 ⟨Nat.zero_le _, Nat.zero_le _⟩ (fun H locs hw => ?_)
      refine lv_goto (tgt := 58) hx hb dX5_takeBar_37 (by decide) ?_
      have e_15 := Option.some.inj hf
      subst e_15
      exact wd_vret hx hb hr hlocks hw dX5_takeBar_58
  · replace hf := if_t c_3 hf
    refine lv_aload_n hx hb dX5_takeBar_10 rfl (lv_at hl 1 rfl) ?_
    refine lv_iconst (v := 1) hx hb dX5_takeBar_11 (by decide) ?_
    obtain ⟨S_17, h_16, hf⟩ := bind_of hf
    refine cV (As := [.int 1]) (rest := []) ⟨hx, hb, hml, hown, hts⟩ hG hA hw (c_X5_setFault G l a ha R S 1 S_17 h_16) (cwV 1 hts gX5_takeBar_X5_setFault rfl rfl rfl (by decide +kernel) ⟨Nat.le_of_ble_eq_true rfl, Nat.le_of_ble_eq_true rfl⟩) (va_recv hG.1 hw.1 (ci := 5) (q0 := 1) rfl rfl) rfl hl.1 rfl (Nat.le_of_ble_eq_true rfl) dX5_takeBar_12 ⟨Nat.zero_le _, Nat.zero_le _⟩ (fun H locs hw => ?_)
    refine lv_goto (tgt := 58) hx hb dX5_takeBar_15 (by decide) ?_
    have e_18 := Option.some.inj hf
    subst e_18
    exact wd_vret hx hb hr hlocks hw dX5_takeBar_58
/-! DutyDesk$Reader.takeSemicolon()V -/
def rm_X5_takeSemicolon : Room := { frames := 1, cells := 0, slots := 0, locals := 21 }
def f_X5_takeSemicolon (S : St) : Option (St) :=
  (if (gI S 2) = 3 then
    bnd (sI S 5 0) fun S_2 => some (S_2)
  else
    (f_X5_setFault S 1).bind (fun S_5 => some (S_5)))
set_option maxHeartbeats 4000000 in
set_option maxRecDepth 100000 in
theorem c_X5_takeSemicolon (G : GP) (l : Launch) (a : Nat → Nat) (ha : a 45 = G.2.2.1) (R : va_W) (S : St) (S9 : St) (hf : f_X5_takeSemicolon S = some S9) : MC G l yX5_takeSemicolon wsX5_takeSemicolon rm_X5_takeSemicolon [.ref (a 1)] (xw G.2.1 a R S) (xw G.2.1 a R S9) none 0 0 := by
  refine MC.mk (cc := cX5_takeSemicolon) (maxL := 1) (ret := none) (by decide) rfl (Nat.le_of_ble_eq_true rfl) ?_
  intro p e s m below meth c A ls ⟨hx, hb, hr, hml, hown, hlocks, _, hts⟩ hw hG hA hl
  have hl : lv_has ls 1 [(0, .ref (a 1))] := hl
  have hin5 : ∀ w ∈ u_ws RX5 TX5 12, w ∈ wsX5_takeSemicolon := by decide +kernel
  rw [f_X5_takeSemicolon] at hf
  refine lv_aload_n hx hb dX5_takeSemicolon_0 rfl (lv_at hl 0 rfl) ?_
  refine va_get (D := G.1) (ci := 5) (v := .int (gI S 2)) (C := RX5) (T := TX5) (N := 12) hx hb hts hin5 hown hG.1 hw.1 1 rfl rfl 4 (by decide) (hts (.fieldLink RX5 38 "DutyDesk$Reader" "token" "I") (List.mem_of_getElem? (i := 1) rfl)) (fun _ h9 => h9) rfl dX5_takeSemicolon_1 ?_
  refine lv_iconst (v := 3) hx hb dX5_takeSemicolon_4 (by decide) ?_
  refine lv_icmp_eq (tgt := 14) hx hb dX5_takeSemicolon_5 (by decide) (fun c_1 => ?_) (fun c_1 => ?_)
  · replace hf := if_t c_1 hf
    refine lv_aload_n hx hb dX5_takeSemicolon_14 rfl (lv_at hl 0 rfl) ?_
    refine lv_iconst (v := 0) hx hb dX5_takeSemicolon_15 (by decide) ?_
    refine va_put (D := G.1) (ci := 5) (v := .int 0) (ty := .int) (C := RX5) (T := TX5) (N := 12) hx hb hts hin5 tyX5 tyX5_ok nmX5 hown hG.1 hw.1 hw.2.1 hw.2.2 1 rfl rfl 7 (by decide) (hts (.fieldLink RX5 41 "DutyDesk$Reader" "want" "I") (List.mem_of_getElem? (i := 2) rfl)) (fun _ h9 => h9) rfl (by decide +kernel) rfl rfl (Nat.le_of_ble_eq_true rfl) dX5_takeSemicolon_16 (fun H locs hP hD hS => ?_)
    obtain ⟨S_2, eS_2⟩ : ∃ z : St, z = sI S 5 0 := ⟨_, rfl⟩
    replace hf := bnd_of eS_2 hf
    have hw : Wd G A s H locs (xw G.2.1 a R S_2) := wd_eq (by rw [eS_2]; exact xw_upI5 _) hP hD hS
    have e_3 := Option.some.inj hf
    subst e_3
    exact wd_vret hx hb hr hlocks hw dX5_takeSemicolon_19
  · replace hf := if_f c_1 hf
    refine lv_aload_n hx hb dX5_takeSemicolon_8 rfl (lv_at hl 0 rfl) ?_
    refine lv_iconst (v := 1) hx hb dX5_takeSemicolon_9 (by decide) ?_
    obtain ⟨S_5, h_4, hf⟩ := bind_of hf
    refine cV (As := [.int 1]) (rest := []) ⟨hx, hb, hml, hown, hts⟩ hG hA hw (c_X5_setFault G l a ha R S 1 S_5 h_4) (cwV 1 hts gX5_takeSemicolon_X5_setFault rfl rfl rfl (by decide +kernel) ⟨Nat.le_of_ble_eq_true rfl, Nat.le_of_ble_eq_true rfl⟩) (va_recv hG.1 hw.1 (ci := 5) (q0 := 1) rfl rfl) rfl hl.1 rfl (Nat.le_of_ble_eq_true rfl) dX5_takeSemicolon_10 ⟨Nat.zero_le _, Nat.zero_le _⟩ (fun H locs hw => ?_)
    have e_6 := Option.some.inj hf
    subst e_6
    exact wd_vret hx hb hr hlocks hw dX5_takeSemicolon_13
/-! DutyDesk$Reader.takeToken()V -/
def rm_X5_takeToken : Room := { frames := 7, cells := 0, slots := 0, locals := 149 }
def f_X5_takeToken (S : St) : Option (St) :=
  (if (gI S 5) = 0 then
    (f_X5_takeFirstWord S).bind (fun S_3 => some (S_3))
  else
    (if (gI S 5) = 1 then
    (f_X5_takeNumber S).bind (fun S_7 => some (S_7))
  else
    (if (gI S 5) = 2 then
    (f_X5_takeOrder S).bind (fun S_11 => some (S_11))
  else
    (if (gI S 5) = 3 then
    (f_X5_takeBar S).bind (fun S_15 => some (S_15))
  else
    (f_X5_takeSemicolon S).bind (fun S_18 => some (S_18))))))
set_option maxHeartbeats 4000000 in
set_option maxRecDepth 100000 in
theorem c_X5_takeToken (G : GP) (l : Launch) (a : Nat → Nat) (ha : a 45 = G.2.2.1) (R : va_W) (S : St) (S9 : St) (hf : f_X5_takeToken S = some S9) : MC G l yX5_takeToken wsX5_takeToken rm_X5_takeToken [.ref (a 1)] (xw G.2.1 a R S) (xw G.2.1 a R S9) none 0 0 := by
  refine MC.mk (cc := cX5_takeToken) (maxL := 1) (ret := none) (by decide) rfl (Nat.le_of_ble_eq_true rfl) ?_
  intro p e s m below meth c A ls ⟨hx, hb, hr, hml, hown, hlocks, _, hts⟩ hw hG hA hl
  have hl : lv_has ls 1 [(0, .ref (a 1))] := hl
  have hin5 : ∀ w ∈ u_ws RX5 TX5 12, w ∈ wsX5_takeToken := by decide +kernel
  rw [f_X5_takeToken] at hf
  refine lv_aload_n hx hb dX5_takeToken_0 rfl (lv_at hl 0 rfl) ?_
  refine va_get (D := G.1) (ci := 5) (v := .int (gI S 5)) (C := RX5) (T := TX5) (N := 12) hx hb hts hin5 hown hG.1 hw.1 1 rfl rfl 7 (by decide) (hts (.fieldLink RX5 41 "DutyDesk$Reader" "want" "I") (List.mem_of_getElem? (i := 1) rfl)) (fun _ h9 => h9) rfl dX5_takeToken_1 ?_
  by_cases c_1 : (gI S 5) = 0
  · replace hf := if_t c_1 hf
    refine lv_tableIn (off := 32) (tgt := 36) hx hb dX5_takeToken_4 (by rw [c_1]; decide) (by rw [c_1]; decide) (by rw [c_1]; rfl) (by decide) ?_
    refine lv_aload_n hx hb dX5_takeToken_36 rfl (lv_at hl 0 rfl) ?_
    obtain ⟨S_3, h_2, hf⟩ := bind_of hf
    refine cV (As := []) (rest := []) ⟨hx, hb, hml, hown, hts⟩ hG hA hw (c_X5_takeFirstWord G l a ha R S S_3 h_2) (cwV 0 hts gX5_takeToken_X5_takeFirstWord rfl rfl rfl (by decide +kernel) ⟨Nat.le_of_ble_eq_true rfl, Nat.le_of_ble_eq_true rfl⟩) (va_recv hG.1 hw.1 (ci := 5) (q0 := 1) rfl rfl) rfl hl.1 rfl (Nat.le_of_ble_eq_true rfl) dX5_takeToken_37 ⟨Nat.zero_le _, Nat.zero_le _⟩ (fun H locs hw => ?_)
    refine lv_goto (tgt := 68) hx hb dX5_takeToken_40 (by decide) ?_
    have e_4 := Option.some.inj hf
    subst e_4
    exact wd_vret hx hb hr hlocks hw dX5_takeToken_68
  · replace hf := if_f c_1 hf
    by_cases c_5 : (gI S 5) = 1
    · replace hf := if_t c_5 hf
      refine lv_tableIn (off := 39) (tgt := 43) hx hb dX5_takeToken_4 (by rw [c_5]; decide) (by rw [c_5]; decide) (by rw [c_5]; rfl) (by decide) ?_
      refine lv_aload_n hx hb dX5_takeToken_43 rfl (lv_at hl 0 rfl) ?_
      obtain ⟨S_7, h_6, hf⟩ := bind_of hf
      refine cV (As := []) (rest := []) ⟨hx, hb, hml, hown, hts⟩ hG hA hw (c_X5_takeNumber G l a ha R S S_7 h_6) (cwV 0 hts gX5_takeToken_X5_takeNumber rfl rfl rfl (by decide +kernel) ⟨Nat.le_of_ble_eq_true rfl, Nat.le_of_ble_eq_true rfl⟩) (va_recv hG.1 hw.1 (ci := 5) (q0 := 1) rfl rfl) rfl hl.1 rfl (Nat.le_of_ble_eq_true rfl) dX5_takeToken_44 ⟨Nat.zero_le _, Nat.zero_le _⟩ (fun H locs hw => ?_)
      refine lv_goto (tgt := 68) hx hb dX5_takeToken_47 (by decide) ?_
      have e_8 := Option.some.inj hf
      subst e_8
      exact wd_vret hx hb hr hlocks hw dX5_takeToken_68
    · replace hf := if_f c_5 hf
      by_cases c_9 : (gI S 5) = 2
      · replace hf := if_t c_9 hf
        refine lv_tableIn (off := 46) (tgt := 50) hx hb dX5_takeToken_4 (by rw [c_9]; decide) (by rw [c_9]; decide) (by rw [c_9]; rfl) (by decide) ?_
        refine lv_aload_n hx hb dX5_takeToken_50 rfl (lv_at hl 0 rfl) ?_
        obtain ⟨S_11, h_10, hf⟩ := bind_of hf
        refine cV (As := []) (rest := []) ⟨hx, hb, hml, hown, hts⟩ hG hA hw (c_X5_takeOrder G l a ha R S S_11 h_10) (cwV 0 hts gX5_takeToken_X5_takeOrder rfl rfl rfl (by decide +kernel) ⟨Nat.le_of_ble_eq_true rfl, Nat.le_of_ble_eq_true rfl⟩) (va_recv hG.1 hw.1 (ci := 5) (q0 := 1) rfl rfl) rfl hl.1 rfl (Nat.le_of_ble_eq_true rfl) dX5_takeToken_51 ⟨Nat.zero_le _, Nat.zero_le _⟩ (fun H locs hw => ?_)
        refine lv_goto (tgt := 68) hx hb dX5_takeToken_54 (by decide) ?_
        have e_12 := Option.some.inj hf
        subst e_12
        exact wd_vret hx hb hr hlocks hw dX5_takeToken_68
      · replace hf := if_f c_9 hf
        by_cases c_13 : (gI S 5) = 3
        · replace hf := if_t c_13 hf
          refine lv_tableIn (off := 53) (tgt := 57) hx hb dX5_takeToken_4 (by rw [c_13]; decide) (by rw [c_13]; decide) (by rw [c_13]; rfl) (by decide) ?_
          refine lv_aload_n hx hb dX5_takeToken_57 rfl (lv_at hl 0 rfl) ?_
          obtain ⟨S_15, h_14, hf⟩ := bind_of hf
          refine cV (As := []) (rest := []) ⟨hx, hb, hml, hown, hts⟩ hG hA hw (c_X5_takeBar G l a ha R S S_15 h_14) (cwV 0 hts gX5_takeToken_X5_takeBar rfl rfl rfl (by decide +kernel) ⟨Nat.le_of_ble_eq_true rfl, Nat.le_of_ble_eq_true rfl⟩) (va_recv hG.1 hw.1 (ci := 5) (q0 := 1) rfl rfl) rfl hl.1 rfl (Nat.le_of_ble_eq_true rfl) dX5_takeToken_58 ⟨Nat.zero_le _, Nat.zero_le _⟩ (fun H locs hw => ?_)
          refine lv_goto (tgt := 68) hx hb dX5_takeToken_61 (by decide) ?_
          have e_16 := Option.some.inj hf
          subst e_16
          exact wd_vret hx hb hr hlocks hw dX5_takeToken_68
        · replace hf := if_f c_13 hf
          have nc_1 := lv_neT c_1 (show Int32.toInt 0 = 0 from rfl)
          have nc_5 := lv_neT c_5 (show Int32.toInt 1 = 1 from rfl)
          have nc_9 := lv_neT c_9 (show Int32.toInt 2 = 2 from rfl)
          have nc_13 := lv_neT c_13 (show Int32.toInt 3 = 3 from rfl)
          refine lv_tableOut (tgt := 64) hx hb dX5_takeToken_4 (by omega) (by decide) ?_
          refine lv_aload_n hx hb dX5_takeToken_64 rfl (lv_at hl 0 rfl) ?_
          obtain ⟨S_18, h_17, hf⟩ := bind_of hf
          refine cV (As := []) (rest := []) ⟨hx, hb, hml, hown, hts⟩ hG hA hw (c_X5_takeSemicolon G l a ha R S S_18 h_17) (cwV 0 hts gX5_takeToken_X5_takeSemicolon rfl rfl rfl (by decide +kernel) ⟨Nat.le_of_ble_eq_true rfl, Nat.le_of_ble_eq_true rfl⟩) (va_recv hG.1 hw.1 (ci := 5) (q0 := 1) rfl rfl) rfl hl.1 rfl (Nat.le_of_ble_eq_true rfl) dX5_takeToken_65 ⟨Nat.zero_le _, Nat.zero_le _⟩ (fun H locs hw => ?_)
          have e_19 := Option.some.inj hf
          subst e_19
          exact wd_vret hx hb hr hlocks hw dX5_takeToken_68
/-! DutyDesk$Reader.readTape()Z -/
def rm_X5_readTape : Room := { frames := 8, cells := 0, slots := 0, locals := 169 }
def f_X5_readTape_J83 (S_1 : St) : Option (Int32 × St) :=
  bnd (sI S_1 0 0) fun S_2 => (if (gI S_2 8) = 0 then
    some ((1, S_2))
  else
    some ((0, S_2)))
def f_X5_readTape_L46  : (Int32 × St) → Option ((Int32 × St) ⊕ (Int32 × St))
  | (v_13, S_14) =>
  (if (gI S_14 0) < v_13 then
    (f_X5_readTape_J83 S_14).bind (fun z_16 => some (.inr (z_16)))
  else
    (if (gI S_14 2) = 4 then
    (f_X5_readTape_J83 S_14).bind (fun z_21 => some (.inr (z_21)))
  else
    (if (gI S_14 8) = 0 then
    (f_X5_nextToken S_14).bind (fun S_31 => (f_X5_takeToken S_31).bind (fun S_33 => bnd (v_13 + 1) fun x_34 => some (.inl (x_34, S_33))))
  else
    (f_X5_readTape_J83 S_14).bind (fun z_26 => some (.inr (z_26))))))
def f_X5_readTape (S : St) : Option (Int32 × St) :=
  bnd (sF S 8 (fun j => if j < 12 then plF j else gM S 8 j)) fun S_6 => bnd (sI S_6 1 0) fun S_7 => bnd (sI S_7 2 0) fun S_8 => bnd (sI S_8 5 0) fun S_9 => bnd (sI S_9 7 0) fun S_10 => bnd (sI S_10 8 0) fun S_11 => bnd (sI S_11 9 (-1)) fun S_12 => loopF (f_X5_readTape_L46 ) FU (0, S_12)
set_option maxHeartbeats 4000000 in
set_option maxRecDepth 100000 in
theorem c_X5_readTape (G : GP) (l : Launch) (a : Nat → Nat) (ha : a 45 = G.2.2.1) (R : va_W) (S : St) (r0 : Int32) (S9 : St) (hf : f_X5_readTape S = some (r0, S9)) : MC G l yX5_readTape wsX5_readTape rm_X5_readTape [.ref (a 1)] (xw G.2.1 a R S) (xw G.2.1 a R S9) (some (.int r0)) 0 0 := by
  refine MC.mk (cc := cX5_readTape) (maxL := 2) (ret := (some .boolean)) (by decide) rfl (Nat.le_of_ble_eq_true rfl) ?_
  intro p e s m below meth c A ls ⟨hx, hb, hr, hml, hown, hlocks, _, hts⟩ hw hG hA hl
  have hl : lv_has ls 2 [(0, .ref (a 1))] := hl
  have hin5 : ∀ w ∈ u_ws RX5 TX5 12, w ∈ wsX5_readTape := by decide +kernel
  rw [f_X5_readTape] at hf
  have j83 : ∀ (S_1 : St) (H : Heap) (locs : List Loc) (ls : Array Slot), f_X5_readTape_J83 S_1 = some (r0, S9) → Wd G A s H locs (xw G.2.1 a R S_1) → lv_has ls 2 [(0, .ref (a 1))] → WQ p l e rm_X5_readTape s m [.ref (a 1)] below meth c G A (xw G.2.1 a R S9) (some (.int r0)) 0 0 H locs 0 0 (F0 m 83 ls []) := by
    intro S_1 H locs ls hf hw hl
    rw [f_X5_readTape_J83] at hf
    refine lv_aload_n hx hb dX5_readTape_83 rfl (lv_at hl 0 rfl) ?_
    refine lv_iconst (v := 0) hx hb dX5_readTape_84 (by decide) ?_
    refine va_put (D := G.1) (ci := 5) (v := .int 0) (ty := .int) (C := RX5) (T := TX5) (N := 12) hx hb hts hin5 tyX5 tyX5_ok nmX5 hown hG.1 hw.1 hw.2.1 hw.2.2 1 rfl rfl 1 (by decide) (hts (.fieldLink RX5 23 "DutyDesk$Reader" "length" "I") (List.mem_of_getElem? (i := 12) rfl)) (fun _ h9 => h9) rfl (by decide +kernel) rfl rfl (Nat.le_of_ble_eq_true rfl) dX5_readTape_85 (fun H locs hP hD hS => ?_)
    obtain ⟨S_2, eS_2⟩ : ∃ z : St, z = sI S_1 0 0 := ⟨_, rfl⟩
    replace hf := bnd_of eS_2 hf
    have hw : Wd G A s H locs (xw G.2.1 a R S_2) := wd_eq (by rw [eS_2]; exact xw_upI0 _) hP hD hS
    refine lv_aload_n hx hb dX5_readTape_88 rfl (lv_at hl 0 rfl) ?_
    refine va_get (D := G.1) (ci := 5) (v := .int (gI S_2 8)) (C := RX5) (T := TX5) (N := 12) hx hb hts hin5 hown hG.1 hw.1 1 rfl rfl 10 (by decide) (hts (.fieldLink RX5 47 "DutyDesk$Reader" "faultKind" "I") (List.mem_of_getElem? (i := 10) rfl)) (fun _ h9 => h9) rfl dX5_readTape_89 ?_
    refine lv_if_ne (tgt := 99) hx hb dX5_readTape_92 (by decide) (fun c_3 => ?_) (fun c_3 => ?_)
    · replace hf := if_f c_3 hf
      refine lv_iconst (v := 0) hx hb dX5_readTape_99 (by decide) ?_
      have e_4 := Option.some.inj hf
      obtain ⟨rfl, rfl⟩ := Prod.mk.inj e_4
      exact wd_zret hx hb hr rfl hlocks hw dX5_readTape_100
    · replace hf := if_t c_3 hf
      refine lv_iconst (v := 1) hx hb dX5_readTape_95 (by decide) ?_
      refine lv_goto (tgt := 100) hx hb dX5_readTape_96 (by decide) ?_
      have e_5 := Option.some.inj hf
      obtain ⟨rfl, rfl⟩ := Prod.mk.inj e_5
      exact wd_zret hx hb hr rfl hlocks hw dX5_readTape_100
  refine va_getsN (C := "DutyDesk") (host := "DutyDesk") hx hb hG.2.2.1 hw.2.2 hown (va_Nw.use rfl (hG.2.1 (.fieldLinkNest "DutyDesk$Reader" 26 "DutyDesk" "PLAIN_TEXT" "[I" "DutyDesk") (List.mem_of_getElem? (i := 22) rfl))) (fun _ h9 => h9) dX5_readTape_0 ?_
  rw [← ha]
  refine lv_iconst (v := 0) hx hb dX5_readTape_3 (by decide) ?_
  refine lv_aload_n hx hb dX5_readTape_4 rfl (lv_at hl 0 rfl) ?_
  refine va_get (D := G.1) (ci := 5) (v := .ref (a 8)) (C := RX5) (T := TX5) (N := 12) hx hb hts hin5 hown hG.1 hw.1 1 rfl rfl 2 (by decide) (hts (.fieldLink RX5 15 "DutyDesk$Reader" "text" "[I") (List.mem_of_getElem? (i := 1) rfl)) (fun _ h9 => h9) rfl dX5_readTape_5 ?_
  refine lv_iconst (v := 0) hx hb dX5_readTape_8 (by decide) ?_
  refine lv_bipush (v := 12) hx hb dX5_readTape_9 (by decide) ?_
  refine x_copyP hx hb (by rw [hml]; exact hl.1.symm) hown (hts (.methodLink RX5 29 arraycopyName) (List.mem_of_getElem? (i := 2) rfl)) (hts (.native arraycopyName) (List.mem_of_getElem? (i := 3) rfl)) (hts (.static arraycopyName) (List.mem_of_getElem? (i := 4) rfl)) (hts (.initialized "java/lang/System") (List.mem_of_getElem? (i := 5) rfl)) ha hG hw 8 rfl (by decide) (Nat.le_of_ble_eq_true rfl) (Nat.le_of_ble_eq_true rfl) dX5_readTape_11 (fun H locs hw => ?_)
  obtain ⟨hP, hD, hS⟩ := hw
  obtain ⟨S_6, eS_6⟩ : ∃ z : St, z = sF S 8 (fun j => if j < 12 then plF j else gM S 8 j) := ⟨_, rfl⟩
  replace hf := bnd_of eS_6 hf
  have hw : Wd G A s H locs (xw G.2.1 a R S_6) := wd_eq (by rw [eS_6]) hP hD hS
  refine lv_aload_n hx hb dX5_readTape_14 rfl (lv_at hl 0 rfl) ?_
  refine lv_iconst (v := 0) hx hb dX5_readTape_15 (by decide) ?_
  refine va_put (D := G.1) (ci := 5) (v := .int 0) (ty := .int) (C := RX5) (T := TX5) (N := 12) hx hb hts hin5 tyX5 tyX5_ok nmX5 hown hG.1 hw.1 hw.2.1 hw.2.2 1 rfl rfl 3 (by decide) (hts (.fieldLink RX5 35 "DutyDesk$Reader" "at" "I") (List.mem_of_getElem? (i := 6) rfl)) (fun _ h9 => h9) rfl (by decide +kernel) rfl rfl (Nat.le_of_ble_eq_true rfl) dX5_readTape_16 (fun H locs hP hD hS => ?_)
  obtain ⟨S_7, eS_7⟩ : ∃ z : St, z = sI S_6 1 0 := ⟨_, rfl⟩
  replace hf := bnd_of eS_7 hf
  have hw : Wd G A s H locs (xw G.2.1 a R S_7) := wd_eq (by rw [eS_7]; exact xw_upI1 _) hP hD hS
  refine lv_aload_n hx hb dX5_readTape_19 rfl (lv_at hl 0 rfl) ?_
  refine lv_iconst (v := 0) hx hb dX5_readTape_20 (by decide) ?_
  refine va_put (D := G.1) (ci := 5) (v := .int 0) (ty := .int) (C := RX5) (T := TX5) (N := 12) hx hb hts hin5 tyX5 tyX5_ok nmX5 hown hG.1 hw.1 hw.2.1 hw.2.2 1 rfl rfl 4 (by decide) (hts (.fieldLink RX5 38 "DutyDesk$Reader" "token" "I") (List.mem_of_getElem? (i := 7) rfl)) (fun _ h9 => h9) rfl (by decide +kernel) rfl rfl (Nat.le_of_ble_eq_true rfl) dX5_readTape_21 (fun H locs hP hD hS => ?_)
  obtain ⟨S_8, eS_8⟩ : ∃ z : St, z = sI S_7 2 0 := ⟨_, rfl⟩
  replace hf := bnd_of eS_8 hf
  have hw : Wd G A s H locs (xw G.2.1 a R S_8) := wd_eq (by rw [eS_8]; exact xw_upI2 _) hP hD hS
  refine lv_aload_n hx hb dX5_readTape_24 rfl (lv_at hl 0 rfl) ?_
  refine lv_iconst (v := 0) hx hb dX5_readTape_25 (by decide) ?_
  refine va_put (D := G.1) (ci := 5) (v := .int 0) (ty := .int) (C := RX5) (T := TX5) (N := 12) hx hb hts hin5 tyX5 tyX5_ok nmX5 hown hG.1 hw.1 hw.2.1 hw.2.2 1 rfl rfl 7 (by decide) (hts (.fieldLink RX5 41 "DutyDesk$Reader" "want" "I") (List.mem_of_getElem? (i := 8) rfl)) (fun _ h9 => h9) rfl (by decide +kernel) rfl rfl (Nat.le_of_ble_eq_true rfl) dX5_readTape_26 (fun H locs hP hD hS => ?_)
  obtain ⟨S_9, eS_9⟩ : ∃ z : St, z = sI S_8 5 0 := ⟨_, rfl⟩
  replace hf := bnd_of eS_9 hf
  have hw : Wd G A s H locs (xw G.2.1 a R S_9) := wd_eq (by rw [eS_9]; exact xw_upI5 _) hP hD hS
  refine lv_aload_n hx hb dX5_readTape_29 rfl (lv_at hl 0 rfl) ?_
  refine lv_iconst (v := 0) hx hb dX5_readTape_30 (by decide) ?_
  refine va_put (D := G.1) (ci := 5) (v := .int 0) (ty := .int) (C := RX5) (T := TX5) (N := 12) hx hb hts hin5 tyX5 tyX5_ok nmX5 hown hG.1 hw.1 hw.2.1 hw.2.2 1 rfl rfl 9 (by decide) (hts (.fieldLink RX5 44 "DutyDesk$Reader" "toldRules" "I") (List.mem_of_getElem? (i := 9) rfl)) (fun _ h9 => h9) rfl (by decide +kernel) rfl rfl (Nat.le_of_ble_eq_true rfl) dX5_readTape_31 (fun H locs hP hD hS => ?_)
  obtain ⟨S_10, eS_10⟩ : ∃ z : St, z = sI S_9 7 0 := ⟨_, rfl⟩
  replace hf := bnd_of eS_10 hf
  have hw : Wd G A s H locs (xw G.2.1 a R S_10) := wd_eq (by rw [eS_10]; exact xw_upI7 _) hP hD hS
  refine lv_aload_n hx hb dX5_readTape_34 rfl (lv_at hl 0 rfl) ?_
  refine lv_iconst (v := 0) hx hb dX5_readTape_35 (by decide) ?_
  refine va_put (D := G.1) (ci := 5) (v := .int 0) (ty := .int) (C := RX5) (T := TX5) (N := 12) hx hb hts hin5 tyX5 tyX5_ok nmX5 hown hG.1 hw.1 hw.2.1 hw.2.2 1 rfl rfl 10 (by decide) (hts (.fieldLink RX5 47 "DutyDesk$Reader" "faultKind" "I") (List.mem_of_getElem? (i := 10) rfl)) (fun _ h9 => h9) rfl (by decide +kernel) rfl rfl (Nat.le_of_ble_eq_true rfl) dX5_readTape_36 (fun H locs hP hD hS => ?_)
  obtain ⟨S_11, eS_11⟩ : ∃ z : St, z = sI S_10 8 0 := ⟨_, rfl⟩
  replace hf := bnd_of eS_11 hf
  have hw : Wd G A s H locs (xw G.2.1 a R S_11) := wd_eq (by rw [eS_11]; exact xw_upI8 _) hP hD hS
  refine lv_aload_n hx hb dX5_readTape_39 rfl (lv_at hl 0 rfl) ?_
  refine lv_iconst (v := (-1)) hx hb dX5_readTape_40 (by decide) ?_
  refine va_put (D := G.1) (ci := 5) (v := .int (-1)) (ty := .int) (C := RX5) (T := TX5) (N := 12) hx hb hts hin5 tyX5 tyX5_ok nmX5 hown hG.1 hw.1 hw.2.1 hw.2.2 1 rfl rfl 11 (by decide) (hts (.fieldLink RX5 19 "DutyDesk$Reader" "faultPlace" "I") (List.mem_of_getElem? (i := 11) rfl)) (fun _ h9 => h9) rfl (by decide +kernel) rfl rfl (Nat.le_of_ble_eq_true rfl) dX5_readTape_41 (fun H locs hP hD hS => ?_)
  obtain ⟨S_12, eS_12⟩ : ∃ z : St, z = sI S_11 9 (-1) := ⟨_, rfl⟩
  replace hf := bnd_of eS_12 hf
  have hw : Wd G A s H locs (xw G.2.1 a R S_12) := wd_eq (by rw [eS_12]; exact xw_upI9 _) hP hD hS
  refine lv_iconst (v := 0) hx hb dX5_readTape_44 (by decide) ?_
  refine lv_istore_n (lv' := [(1, .int 0), (0, .ref (a 1))]) hx hb dX5_readTape_45 rfl hl (by decide) rfl (fun ls hl => ?_)
  refine loopF_ind (body := f_X5_readTape_L46 ) (fun (q : Int32 × St) => match q with | (v_13, S_14) => ∀ (H : Heap) (locs : List Loc) (ls : Array Slot), Wd G A s H locs (xw G.2.1 a R S_14) → lv_has ls 2 [(0, .ref (a 1)), (1, .int v_13)] → WQ p l e rm_X5_readTape s m [.ref (a 1)] below meth c G A (xw G.2.1 a R S9) (some (.int r0)) 0 0 H locs 0 0 (F0 m 46 ls [])) ?_ FU (0, S_12) hf _ _ _ hw (lv_sub hl [1, 0] rfl)
  clear hf hw hl
  intro ⟨v_13, S_14⟩ t0_46 hf hz1_0_46 hz2_0_46 H locs ls hw hl
  rw [f_X5_readTape_L46] at hf
  refine lv_iload_n hx hb dX5_readTape_46 rfl (lv_at hl 1 rfl) ?_
  refine lv_aload_n hx hb dX5_readTape_47 rfl (lv_at hl 0 rfl) ?_
  refine va_get (D := G.1) (ci := 5) (v := .int (gI S_14 0)) (C := RX5) (T := TX5) (N := 12) hx hb hts hin5 hown hG.1 hw.1 1 rfl rfl 1 (by decide) (hts (.fieldLink RX5 23 "DutyDesk$Reader" "length" "I") (List.mem_of_getElem? (i := 12) rfl)) (fun _ h9 => h9) rfl dX5_readTape_48 ?_
  refine lv_icmp_gt (tgt := 83) hx hb dX5_readTape_51 (by decide) (fun c_15 => ?_) (fun c_15 => ?_)
  · replace hf := if_t c_15 hf
    obtain ⟨z_16, hj_17, hf⟩ := bind_of hf
    have e_18 := Option.some.inj hf
    have e_19 := hz2_0_46 _ e_18.symm
    exact j83 S_14 _ _ _ (hj_17.trans (congrArg some e_19)) hw (lv_sub hl [0] rfl)
  · replace hf := if_f c_15 hf
    refine lv_aload_n hx hb dX5_readTape_54 rfl (lv_at hl 0 rfl) ?_
    refine va_get (D := G.1) (ci := 5) (v := .int (gI S_14 2)) (C := RX5) (T := TX5) (N := 12) hx hb hts hin5 hown hG.1 hw.1 1 rfl rfl 4 (by decide) (hts (.fieldLink RX5 38 "DutyDesk$Reader" "token" "I") (List.mem_of_getElem? (i := 7) rfl)) (fun _ h9 => h9) rfl dX5_readTape_55 ?_
    refine lv_iconst (v := 4) hx hb dX5_readTape_58 (by decide) ?_
    refine lv_icmp_eq (tgt := 83) hx hb dX5_readTape_59 (by decide) (fun c_20 => ?_) (fun c_20 => ?_)
    · replace hf := if_t c_20 hf
      obtain ⟨z_21, hj_22, hf⟩ := bind_of hf
      have e_23 := Option.some.inj hf
      have e_24 := hz2_0_46 _ e_23.symm
      exact j83 S_14 _ _ _ (hj_22.trans (congrArg some e_24)) hw (lv_sub hl [0] rfl)
    · replace hf := if_f c_20 hf
      refine lv_aload_n hx hb dX5_readTape_62 rfl (lv_at hl 0 rfl) ?_
      refine va_get (D := G.1) (ci := 5) (v := .int (gI S_14 8)) (C := RX5) (T := TX5) (N := 12) hx hb hts hin5 hown hG.1 hw.1 1 rfl rfl 10 (by decide) (hts (.fieldLink RX5 47 "DutyDesk$Reader" "faultKind" "I") (List.mem_of_getElem? (i := 10) rfl)) (fun _ h9 => h9) rfl dX5_readTape_63 ?_
      refine lv_if_ne (tgt := 83) hx hb dX5_readTape_66 (by decide) (fun c_25 => ?_) (fun c_25 => ?_)
      · replace hf := if_f c_25 hf
        obtain ⟨z_26, hj_27, hf⟩ := bind_of hf
        have e_28 := Option.some.inj hf
        have e_29 := hz2_0_46 _ e_28.symm
        exact j83 S_14 _ _ _ (hj_27.trans (congrArg some e_29)) hw (lv_sub hl [0] rfl)
      · replace hf := if_t c_25 hf
        refine lv_aload_n hx hb dX5_readTape_69 rfl (lv_at hl 0 rfl) ?_
        obtain ⟨S_31, h_30, hf⟩ := bind_of hf
        refine cV (As := []) (rest := []) ⟨hx, hb, hml, hown, hts⟩ hG hA hw (c_X5_nextToken G l a ha R S_14 S_31 h_30) (cwV 0 hts gX5_readTape_X5_nextToken rfl rfl rfl (by decide +kernel) ⟨Nat.le_of_ble_eq_true rfl, Nat.le_of_ble_eq_true rfl⟩) (va_recv hG.1 hw.1 (ci := 5) (q0 := 1) rfl rfl) rfl hl.1 rfl (Nat.le_of_ble_eq_true rfl) dX5_readTape_70 ⟨Nat.zero_le _, Nat.zero_le _⟩ (fun H locs hw => ?_)
        refine lv_aload_n hx hb dX5_readTape_73 rfl (lv_at hl 0 rfl) ?_
        obtain ⟨S_33, h_32, hf⟩ := bind_of hf
        refine cV (As := []) (rest := []) ⟨hx, hb, hml, hown, hts⟩ hG hA hw (c_X5_takeToken G l a ha R S_31 S_33 h_32) (cwV 0 hts gX5_readTape_X5_takeToken rfl rfl rfl (by decide +kernel) ⟨Nat.le_of_ble_eq_true rfl, Nat.le_of_ble_eq_true rfl⟩) (va_recv hG.1 hw.1 (ci := 5) (q0 := 1) rfl rfl) rfl hl.1 rfl (Nat.le_of_ble_eq_true rfl) dX5_readTape_74 ⟨Nat.zero_le _, Nat.zero_le _⟩ (fun H locs hw => ?_)
        obtain ⟨x_34, ex_34⟩ : ∃ z : Int32, z = v_13 + 1 := ⟨_, rfl⟩
        replace hf := bnd_of ex_34 hf
        refine lv_iinc (v := x_34) (lv' := [(1, .int x_34), (0, .ref (a 1))]) hx hb dX5_readTape_77 hl (k := 1) rfl (by rw [ex_34]; rfl) (by decide) rfl (fun ls hl => ?_)
        refine lv_goto (tgt := 46) hx hb dX5_readTape_80 (by decide) ?_
        have e_35 := Option.some.inj hf
        exact hz1_0_46 _ e_35.symm _ _ _ hw (lv_sub hl [1, 0] rfl)
