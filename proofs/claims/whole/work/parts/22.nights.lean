/-! DutyDesk$Nights.holder(II)I -/
def rm_X2_holder : Room := { frames := 0, cells := 0, slots := 0, locals := 0 }
def f_X2_holder (S : St) (p1 : Int32) (p2 : Int32) : Option (Int32) :=
  gd p2 1000 (some (((((gM S 17 p2.toNatClampNeg) >>> ((p1 * 5) &&& 31)) &&& 31) - 1)))
set_option maxHeartbeats 4000000 in
set_option maxRecDepth 100000 in
theorem c_X2_holder (G : GP) (l : Launch) (a : Nat → Nat) (ha : a 45 = G.2.2.1) (R : va_W) (S : St) (p1 : Int32) (p2 : Int32) (r0 : Int32) (hf : f_X2_holder S p1 p2 = some r0) : MC G l yX2_holder wsX2_holder rm_X2_holder [.ref (a 4), .int p1, .int p2] (xw G.2.1 a R S) (xw G.2.1 a R S) (some (.int r0)) 0 0 := by
  refine MC.mk (cc := cX2_holder) (maxL := 3) (ret := (some .int)) (by decide) rfl (Nat.le_of_ble_eq_true rfl) ?_
  intro p e s m below meth c A ls ⟨hx, hb, hr, hml, hown, hlocks, _, hts⟩ hw hG hA hl
  have hl : lv_has ls 3 [(0, .ref (a 4)), (1, .int p1), (2, .int p2)] := hl
  have hin2 : ∀ w ∈ u_ws RX2 TX2 6, w ∈ wsX2_holder := by decide +kernel
  rw [f_X2_holder] at hf
  refine lv_aload_n hx hb dX2_holder_0 rfl (lv_at hl 0 rfl) ?_
  refine va_get (D := G.1) (ci := 2) (v := .ref (a 17)) (C := RX2) (T := TX2) (N := 6) hx hb hts hin2 hown hG.1 hw.1 4 rfl rfl 2 (by decide) (hts (.fieldLink RX2 9 "DutyDesk$Nights" "holders" "[I") (List.mem_of_getElem? (i := 1) rfl)) (fun _ h9 => h9) rfl dX2_holder_1 ?_
  refine lv_iload_n hx hb dX2_holder_4 rfl (lv_at hl 2 rfl) ?_
  obtain ⟨h_1, hf⟩ := gd_of hf
  refine va_iald hx hb hG.1 hw.1 17 1 (xw_atM (k := 17) rfl) rfl h_1 dX2_holder_5 ?_
  refine lv_iload_n hx hb dX2_holder_6 rfl (lv_at hl 1 rfl) ?_
  refine lv_iconst (v := 5) hx hb dX2_holder_7 (by decide) ?_
  refine lv_imul hx hb dX2_holder_8 ?_
  refine lv_ishr hx hb dX2_holder_9 ?_
  refine lv_bipush (v := 31) hx hb dX2_holder_10 (by decide) ?_
  refine lv_iand hx hb dX2_holder_12 ?_
  refine lv_iconst (v := 1) hx hb dX2_holder_13 (by decide) ?_
  refine lv_isub hx hb dX2_holder_14 ?_
  have e_2 := Option.some.inj hf
  subst e_2
  exact wd_iret hx hb hr hlocks hw dX2_holder_15
/-! DutyDesk$Nights.addToTally(I)V -/
def rm_X2_addToTally : Room := { frames := 0, cells := 0, slots := 0, locals := 0 }
def f_X2_addToTally_L2 (p1 : Int32) : (Int32 × St) → Option ((Int32 × St) ⊕ (St))
  | (v_1, S_2) =>
  (if (gI S_2 11) ≤ v_1 then
    some (.inr (S_2))
  else
    gd v_1 24 (gd v_1 24 (bnd (sM S_2 20 (v_1.toNatClampNeg) ((gM S_2 20 v_1.toNatClampNeg) + ((p1 >>> (v_1 &&& 31)) &&& 1))) fun S_8 => bnd (v_1 + 1) fun x_9 => some (.inl (x_9, S_8)))))
def f_X2_addToTally (S : St) (p1 : Int32) : Option (St) :=
  loopF (f_X2_addToTally_L2 p1) FU (0, S)
set_option maxHeartbeats 4000000 in
set_option maxRecDepth 100000 in
theorem c_X2_addToTally (G : GP) (l : Launch) (a : Nat → Nat) (ha : a 45 = G.2.2.1) (R : va_W) (S : St) (p1 : Int32) (S9 : St) (hf : f_X2_addToTally S p1 = some S9) : MC G l yX2_addToTally wsX2_addToTally rm_X2_addToTally [.ref (a 4), .int p1] (xw G.2.1 a R S) (xw G.2.1 a R S9) none 0 0 := by
  refine MC.mk (cc := cX2_addToTally) (maxL := 3) (ret := none) (by decide) rfl (Nat.le_of_ble_eq_true rfl) ?_
  intro p e s m below meth c A ls ⟨hx, hb, hr, hml, hown, hlocks, _, hts⟩ hw hG hA hl
  have hl : lv_has ls 3 [(0, .ref (a 4)), (1, .int p1)] := hl
  have hin2 : ∀ w ∈ u_ws RX2 TX2 6, w ∈ wsX2_addToTally := by decide +kernel
  have hin3 : ∀ w ∈ u_ws RX3 TX3 8, w ∈ wsX2_addToTally := by decide +kernel
  rw [f_X2_addToTally] at hf
  refine lv_iconst (v := 0) hx hb dX2_addToTally_0 (by decide) ?_
  refine lv_istore_n (lv' := [(2, .int 0), (0, .ref (a 4)), (1, .int p1)]) hx hb dX2_addToTally_1 rfl hl (by decide) rfl (fun ls hl => ?_)
  refine loopF_ind (body := f_X2_addToTally_L2 p1) (fun (q : Int32 × St) => match q with | (v_1, S_2) => ∀ (H : Heap) (locs : List Loc) (ls : Array Slot), Wd G A s H locs (xw G.2.1 a R S_2) → lv_has ls 3 [(0, .ref (a 4)), (1, .int p1), (2, .int v_1)] → WQ p l e rm_X2_addToTally s m [.ref (a 4), .int p1] below meth c G A (xw G.2.1 a R S9) none 0 0 H locs 0 0 (F0 m 2 ls [])) ?_ FU (0, S) hf _ _ _ hw (lv_sub hl [1, 2, 0] rfl)
  clear hf hw hl
  intro ⟨v_1, S_2⟩ t0_2 hf hz1_0_2 hz2_0_2 H locs ls hw hl
  rw [f_X2_addToTally_L2] at hf
  refine lv_iload_n hx hb dX2_addToTally_2 rfl (lv_at hl 2 rfl) ?_
  refine lv_aload_n hx hb dX2_addToTally_3 rfl (lv_at hl 0 rfl) ?_
  refine va_get (D := G.1) (ci := 2) (v := .ref (a 3)) (C := RX2) (T := TX2) (N := 6) hx hb hts hin2 hown hG.1 hw.1 4 rfl rfl 0 (by decide) (hts (.fieldLink RX2 24 "DutyDesk$Nights" "people" "LDutyDesk$People;") (List.mem_of_getElem? (i := 1) rfl)) (fun _ h9 => h9) rfl dX2_addToTally_4 ?_
  refine va_getN (D := G.1) (ci := 3) (v := .int (gI S_2 11)) (C := RX3) (T := TX3) (N := 8) (host := "DutyDesk") hx hb hts hin3 hown hG.1 hw.1 3 rfl rfl 7 (by decide) (va_Nw.use rfl (hG.2.1 (.fieldLinkNest "DutyDesk$Nights" 73 "DutyDesk$People" "size" "I" "DutyDesk") (List.mem_of_getElem? (i := 15) rfl))) (fun _ h9 => h9) rfl dX2_addToTally_7 ?_
  refine lv_icmp_ge (tgt := 33) hx hb dX2_addToTally_10 (by decide) (fun c_3 => ?_) (fun c_3 => ?_)
  · replace hf := if_t c_3 hf
    have e_4 := Option.some.inj hf
    have e_5 := hz2_0_2 _ e_4.symm
    subst e_5
    exact wd_vret hx hb hr hlocks hw dX2_addToTally_33
  · replace hf := if_f c_3 hf
    refine lv_aload_n hx hb dX2_addToTally_13 rfl (lv_at hl 0 rfl) ?_
    refine va_get (D := G.1) (ci := 2) (v := .ref (a 20)) (C := RX2) (T := TX2) (N := 6) hx hb hts hin2 hown hG.1 hw.1 4 rfl rfl 5 (by decide) (hts (.fieldLink RX2 21 "DutyDesk$Nights" "tally" "[I") (List.mem_of_getElem? (i := 2) rfl)) (fun _ h9 => h9) rfl dX2_addToTally_14 ?_
    refine lv_iload_n hx hb dX2_addToTally_17 rfl (lv_at hl 2 rfl) ?_
    refine lv_dup2_11 hx hb dX2_addToTally_18 rfl rfl ?_
    obtain ⟨h_6, hf⟩ := gd_of hf
    refine va_iald hx hb hG.1 hw.1 20 1 (xw_atM (k := 20) rfl) rfl h_6 dX2_addToTally_19 ?_
    refine lv_iload_n hx hb dX2_addToTally_20 rfl (lv_at hl 1 rfl) ?_
    refine lv_iload_n hx hb dX2_addToTally_21 rfl (lv_at hl 2 rfl) ?_
    refine lv_ishr hx hb dX2_addToTally_22 ?_
    refine lv_iconst (v := 1) hx hb dX2_addToTally_23 (by decide) ?_
    refine lv_iand hx hb dX2_addToTally_24 ?_
    refine lv_iadd hx hb dX2_addToTally_25 ?_
    obtain ⟨h_7, hf⟩ := gd_of hf
    refine va_iast hx hb hG.1 hw.1 hw.2.1 hw.2.2 20 1 (xw_atM (k := 20) rfl) rfl h_7 dX2_addToTally_26 (fun H locs hP hD hS => ?_)
    obtain ⟨S_8, eS_8⟩ : ∃ z : St, z = sM S_2 20 (v_1.toNatClampNeg) ((gM S_2 20 v_1.toNatClampNeg) + ((p1 >>> (v_1 &&& 31)) &&& 1)) := ⟨_, rfl⟩
    replace hf := bnd_of eS_8 hf
    have hw : Wd G A s H locs (xw G.2.1 a R S_8) := wd_eq (by rw [eS_8]; exact xw_upM (k := 20) rfl _) hP hD hS
    obtain ⟨x_9, ex_9⟩ : ∃ z : Int32, z = v_1 + 1 := ⟨_, rfl⟩
    replace hf := bnd_of ex_9 hf
    refine lv_iinc (v := x_9) (lv' := [(2, .int x_9), (0, .ref (a 4)), (1, .int p1)]) hx hb dX2_addToTally_27 hl (k := 2) rfl (by rw [ex_9]; rfl) (by decide) rfl (fun ls hl => ?_)
    refine lv_goto (tgt := 2) hx hb dX2_addToTally_30 (by decide) ?_
    have e_10 := Option.some.inj hf
    exact hz1_0_2 _ e_10.symm _ _ _ hw (lv_sub hl [1, 2, 0] rfl)
/-! DutyDesk$Nights.tallyUpTo(I)[I -/
def rm_X2_tallyUpTo : Room := { frames := 1, cells := 0, slots := 0, locals := 23 }
def f_X2_tallyUpTo_L10 (p1 : Int32) : (Int32 × St) → Option ((Int32 × St) ⊕ (St))
  | (v_2, S_3) =>
  (if p1 < v_2 then
    some (.inr (S_3))
  else
    (if 1000 ≤ v_2 then
    some (.inr (S_3))
  else
    gd v_2 1000 ((if (gM S_3 18 v_2.toNatClampNeg) = 0 then
    bnd (v_2 + 1) fun x_12 => some (.inl (x_12, S_3))
  else
    gd v_2 1000 ((f_X2_addToTally S_3 (gM S_3 18 v_2.toNatClampNeg)).bind (fun S_16 => bnd (v_2 + 1) fun x_17 => some (.inl (x_17, S_16))))))))
def f_X2_tallyUpTo (S : St) (p1 : Int32) : Option (St) :=
  bnd (sF S 20 (fill0 (gM S 20) 24 0)) fun S_1 => loopF (f_X2_tallyUpTo_L10 p1) FU (0, S_1)
set_option maxHeartbeats 4000000 in
set_option maxRecDepth 100000 in
theorem c_X2_tallyUpTo (G : GP) (l : Launch) (a : Nat → Nat) (ha : a 45 = G.2.2.1) (R : va_W) (S : St) (p1 : Int32) (S9 : St) (hf : f_X2_tallyUpTo S p1 = some S9) : MC G l yX2_tallyUpTo wsX2_tallyUpTo rm_X2_tallyUpTo [.ref (a 4), .int p1] (xw G.2.1 a R S) (xw G.2.1 a R S9) (some (.ref (a 20))) 0 0 := by
  refine MC.mk (cc := cX2_tallyUpTo) (maxL := 3) (ret := (some (.array .int))) (by decide) rfl (Nat.le_of_ble_eq_true rfl) ?_
  intro p e s m below meth c A ls ⟨hx, hb, hr, hml, hown, hlocks, _, hts⟩ hw hG hA hl
  have hl : lv_has ls 3 [(0, .ref (a 4)), (1, .int p1)] := hl
  have hin2 : ∀ w ∈ u_ws RX2 TX2 6, w ∈ wsX2_tallyUpTo := by decide +kernel
  rw [f_X2_tallyUpTo] at hf
  refine lv_aload_n hx hb dX2_tallyUpTo_0 rfl (lv_at hl 0 rfl) ?_
  refine va_get (D := G.1) (ci := 2) (v := .ref (a 20)) (C := RX2) (T := TX2) (N := 6) hx hb hts hin2 hown hG.1 hw.1 4 rfl rfl 5 (by decide) (hts (.fieldLink RX2 21 "DutyDesk$Nights" "tally" "[I") (List.mem_of_getElem? (i := 1) rfl)) (fun _ h9 => h9) rfl dX2_tallyUpTo_1 ?_
  refine lv_iconst (v := 0) hx hb dX2_tallyUpTo_4 (by decide) ?_
  refine cS (As := [.ref (a 20), .int 0]) (rest := []) ⟨hx, hb, hml, hown, hts⟩ hG hA hw (c_fillI G l (xw G.2.1 a R S) 20 24 (a 20) (gM S 20) 0 (xw_atM (k := 20) rfl) (by decide)) (va_cwS 2 hts gX2_tallyUpTo_J7_fill_53178 rfl rfl rfl (by decide +kernel) ⟨Nat.le_of_ble_eq_true rfl, Nat.le_of_ble_eq_true rfl⟩) rfl hl.1 rfl (Nat.le_of_ble_eq_true rfl) dX2_tallyUpTo_5 ⟨Nat.zero_le _, Nat.zero_le _⟩ (fun H locs hw => ?_)
  obtain ⟨hP, hD, hS⟩ := hw
  obtain ⟨S_1, eS_1⟩ : ∃ z : St, z = sF S 20 (fill0 (gM S 20) 24 0) := ⟨_, rfl⟩
  replace hf := bnd_of eS_1 hf
  have hw : Wd G A s H locs (xw G.2.1 a R S_1) := wd_eq (by rw [eS_1]; exact xw_upM (k := 20) rfl _) hP hD hS
  refine lv_iconst (v := 0) hx hb dX2_tallyUpTo_8 (by decide) ?_
  refine lv_istore_n (lv' := [(2, .int 0), (0, .ref (a 4)), (1, .int p1)]) hx hb dX2_tallyUpTo_9 rfl hl (by decide) rfl (fun ls hl => ?_)
  refine loopF_ind (body := f_X2_tallyUpTo_L10 p1) (fun (q : Int32 × St) => match q with | (v_2, S_3) => ∀ (H : Heap) (locs : List Loc) (ls : Array Slot), Wd G A s H locs (xw G.2.1 a R S_3) → lv_has ls 3 [(0, .ref (a 4)), (1, .int p1), (2, .int v_2)] → WQ p l e rm_X2_tallyUpTo s m [.ref (a 4), .int p1] below meth c G A (xw G.2.1 a R S9) (some (.ref (a 20))) 0 0 H locs 0 0 (F0 m 10 ls [])) ?_ FU (0, S_1) hf _ _ _ hw (lv_sub hl [1, 2, 0] rfl)
  clear hf hw hl
  intro ⟨v_2, S_3⟩ t0_10 hf hz1_0_10 hz2_0_10 H locs ls hw hl
  rw [f_X2_tallyUpTo_L10] at hf
  refine lv_iload_n hx hb dX2_tallyUpTo_10 rfl (lv_at hl 2 rfl) ?_
  refine lv_iload_n hx hb dX2_tallyUpTo_11 rfl (lv_at hl 1 rfl) ?_
  refine lv_icmp_gt (tgt := 47) hx hb dX2_tallyUpTo_12 (by decide) (fun c_4 => ?_) (fun c_4 => ?_)
  · replace hf := if_t c_4 hf
    refine lv_aload_n hx hb dX2_tallyUpTo_47 rfl (lv_at hl 0 rfl) ?_
    refine va_get (D := G.1) (ci := 2) (v := .ref (a 20)) (C := RX2) (T := TX2) (N := 6) hx hb hts hin2 hown hG.1 hw.1 4 rfl rfl 5 (by decide) (hts (.fieldLink RX2 21 "DutyDesk$Nights" "tally" "[I") (List.mem_of_getElem? (i := 1) rfl)) (fun _ h9 => h9) rfl dX2_tallyUpTo_48 ?_
    have e_5 := Option.some.inj hf
    have e_6 := hz2_0_10 _ e_5.symm
    subst e_6
    exact wd_aret hx hb hr (by first | exact Or.inl ⟨_, rfl⟩ | exact Or.inr ⟨_, rfl⟩) hlocks hw dX2_tallyUpTo_51
  · replace hf := if_f c_4 hf
    refine lv_iload_n hx hb dX2_tallyUpTo_15 rfl (lv_at hl 2 rfl) ?_
    refine lv_sipush (v := 1000) hx hb dX2_tallyUpTo_16 (by decide) ?_
    refine lv_icmp_ge (tgt := 47) hx hb dX2_tallyUpTo_19 (by decide) (fun c_7 => ?_) (fun c_7 => ?_)
    · replace hf := if_t c_7 hf
      refine lv_aload_n hx hb dX2_tallyUpTo_47 rfl (lv_at hl 0 rfl) ?_
      refine va_get (D := G.1) (ci := 2) (v := .ref (a 20)) (C := RX2) (T := TX2) (N := 6) hx hb hts hin2 hown hG.1 hw.1 4 rfl rfl 5 (by decide) (hts (.fieldLink RX2 21 "DutyDesk$Nights" "tally" "[I") (List.mem_of_getElem? (i := 1) rfl)) (fun _ h9 => h9) rfl dX2_tallyUpTo_48 ?_
      have e_8 := Option.some.inj hf
      have e_9 := hz2_0_10 _ e_8.symm
      subst e_9
      exact wd_aret hx hb hr (by first | exact Or.inl ⟨_, rfl⟩ | exact Or.inr ⟨_, rfl⟩) hlocks hw dX2_tallyUpTo_51
    · replace hf := if_f c_7 hf
      refine lv_aload_n hx hb dX2_tallyUpTo_22 rfl (lv_at hl 0 rfl) ?_
      refine va_get (D := G.1) (ci := 2) (v := .ref (a 18)) (C := RX2) (T := TX2) (N := 6) hx hb hts hin2 hown hG.1 hw.1 4 rfl rfl 3 (by decide) (hts (.fieldLink RX2 15 "DutyDesk$Nights" "busyBits" "[I") (List.mem_of_getElem? (i := 2) rfl)) (fun _ h9 => h9) rfl dX2_tallyUpTo_23 ?_
      refine lv_iload_n hx hb dX2_tallyUpTo_26 rfl (lv_at hl 2 rfl) ?_
      obtain ⟨h_10, hf⟩ := gd_of hf
      refine va_iald hx hb hG.1 hw.1 18 1 (xw_atM (k := 18) rfl) rfl h_10 dX2_tallyUpTo_27 ?_
      refine lv_if_eq (tgt := 41) hx hb dX2_tallyUpTo_28 (by decide) (fun c_11 => ?_) (fun c_11 => ?_)
      · replace hf := if_t c_11 hf
        obtain ⟨x_12, ex_12⟩ : ∃ z : Int32, z = v_2 + 1 := ⟨_, rfl⟩
        replace hf := bnd_of ex_12 hf
        refine lv_iinc (v := x_12) (lv' := [(2, .int x_12), (0, .ref (a 4)), (1, .int p1)]) hx hb dX2_tallyUpTo_41 hl (k := 2) rfl (by rw [ex_12]; rfl) (by decide) rfl (fun ls hl => ?_)
        refine lv_goto (tgt := 10) hx hb dX2_tallyUpTo_44 (by decide) ?_
        have e_13 := Option.some.inj hf
        exact hz1_0_10 _ e_13.symm _ _ _ hw (lv_sub hl [1, 2, 0] rfl)
      · replace hf := if_f c_11 hf
        refine lv_aload_n hx hb dX2_tallyUpTo_31 rfl (lv_at hl 0 rfl) ?_
        refine lv_aload_n hx hb dX2_tallyUpTo_32 rfl (lv_at hl 0 rfl) ?_
        refine va_get (D := G.1) (ci := 2) (v := .ref (a 18)) (C := RX2) (T := TX2) (N := 6) hx hb hts hin2 hown hG.1 hw.1 4 rfl rfl 3 (by decide) (hts (.fieldLink RX2 15 "DutyDesk$Nights" "busyBits" "[I") (List.mem_of_getElem? (i := 2) rfl)) (fun _ h9 => h9) rfl dX2_tallyUpTo_33 ?_
        refine lv_iload_n hx hb dX2_tallyUpTo_36 rfl (lv_at hl 2 rfl) ?_
        obtain ⟨h_14, hf⟩ := gd_of hf
        refine va_iald hx hb hG.1 hw.1 18 1 (xw_atM (k := 18) rfl) rfl h_14 dX2_tallyUpTo_37 ?_
        obtain ⟨S_16, h_15, hf⟩ := bind_of hf
        refine cV (As := [.int (gM S_3 18 v_2.toNatClampNeg)]) (rest := []) ⟨hx, hb, hml, hown, hts⟩ hG hA hw (c_X2_addToTally G l a ha R S_3 (gM S_3 18 v_2.toNatClampNeg) S_16 h_15) (cwV 1 hts gX2_tallyUpTo_X2_addToTally rfl rfl rfl (by decide +kernel) ⟨Nat.le_of_ble_eq_true rfl, Nat.le_of_ble_eq_true rfl⟩) (va_recv hG.1 hw.1 (ci := 2) (q0 := 4) rfl rfl) rfl hl.1 rfl (Nat.le_of_ble_eq_true rfl) dX2_tallyUpTo_38 ⟨Nat.zero_le _, Nat.zero_le _⟩ (fun H locs hw => ?_)
        obtain ⟨x_17, ex_17⟩ : ∃ z : Int32, z = v_2 + 1 := ⟨_, rfl⟩
        replace hf := bnd_of ex_17 hf
        refine lv_iinc (v := x_17) (lv' := [(2, .int x_17), (0, .ref (a 4)), (1, .int p1)]) hx hb dX2_tallyUpTo_41 hl (k := 2) rfl (by rw [ex_17]; rfl) (by decide) rfl (fun ls hl => ?_)
        refine lv_goto (tgt := 10) hx hb dX2_tallyUpTo_44 (by decide) ?_
        have e_18 := Option.some.inj hf
        exact hz1_0_10 _ e_18.symm _ _ _ hw (lv_sub hl [1, 2, 0] rfl)
/-! DutyDesk$Nights.put(III)V -/
def rm_X2_put : Room := { frames := 1, cells := 0, slots := 0, locals := 22 }
def f_X2_put_J40 (y_1 : Int32) (y_2 : Int32) (y_3 : Int32) (S_4 : St) : Option (St) :=
  bnd (y_1 * 5) fun x_5 => gd y_2 1000 (gd y_2 1000 (bnd (sM S_4 17 (y_2.toNatClampNeg) (((gM S_4 17 y_2.toNatClampNeg) &&& (((31 : Int32) <<< (x_5 &&& 31)) ^^^ (-1))) ||| ((y_3 + 1) <<< (x_5 &&& 31)))) fun S_8 => (if y_3 = (-1) then
    some (S_8)
  else
    gd y_2 1000 (gd y_2 1000 (bnd (sM S_8 18 (y_2.toNatClampNeg) ((gM S_8 18 y_2.toNatClampNeg) ||| ((1 : Int32) <<< (y_3 &&& 31)))) fun S_13 => gd y_3 24 (gd y_3 24 (bnd (sM S_13 19 (y_3.toNatClampNeg) ((gM S_13 19 y_3.toNatClampNeg) + 1)) fun S_16 => some (S_16))))))))
def f_X2_put (S : St) (p1 : Int32) (p2 : Int32) (p3 : Int32) : Option (St) :=
  (f_X2_holder S p1 p2).bind (fun r_19 => (if r_19 = (-1) then
    f_X2_put_J40 p1 p2 p3 S
  else
    gd p2 1000 (gd p2 1000 (bnd (sM S 18 (p2.toNatClampNeg) ((gM S 18 p2.toNatClampNeg) &&& (((1 : Int32) <<< (r_19 &&& 31)) ^^^ (-1)))) fun S_23 => gd r_19 24 (gd r_19 24 (bnd (sM S_23 19 (r_19.toNatClampNeg) ((gM S_23 19 r_19.toNatClampNeg) - 1)) fun S_26 => f_X2_put_J40 p1 p2 p3 S_26))))))
set_option maxHeartbeats 4000000 in
set_option maxRecDepth 100000 in
theorem c_X2_put (G : GP) (l : Launch) (a : Nat → Nat) (ha : a 45 = G.2.2.1) (R : va_W) (S : St) (p1 : Int32) (p2 : Int32) (p3 : Int32) (S9 : St) (hf : f_X2_put S p1 p2 p3 = some S9) : MC G l yX2_put wsX2_put rm_X2_put [.ref (a 4), .int p1, .int p2, .int p3] (xw G.2.1 a R S) (xw G.2.1 a R S9) none 0 0 := by
  refine MC.mk (cc := cX2_put) (maxL := 6) (ret := none) (by decide) rfl (Nat.le_of_ble_eq_true rfl) ?_
  intro p e s m below meth c A ls ⟨hx, hb, hr, hml, hown, hlocks, _, hts⟩ hw hG hA hl
  have hl : lv_has ls 6 [(0, .ref (a 4)), (1, .int p1), (2, .int p2), (3, .int p3)] := hl
  have hin2 : ∀ w ∈ u_ws RX2 TX2 6, w ∈ wsX2_put := by decide +kernel
  rw [f_X2_put] at hf
  have j40 : ∀ (y_1 : Int32) (y_2 : Int32) (y_3 : Int32) (S_4 : St) (H : Heap) (locs : List Loc) (ls : Array Slot), f_X2_put_J40 y_1 y_2 y_3 S_4 = some S9 → Wd G A s H locs (xw G.2.1 a R S_4) → lv_has ls 6 [(0, .ref (a 4)), (1, .int y_1), (2, .int y_2), (3, .int y_3)] → WQ p l e rm_X2_put s m [.ref (a 4), .int p1, .int p2, .int p3] below meth c G A (xw G.2.1 a R S9) none 0 0 H locs 0 0 (F0 m 40 ls []) := by
    intro y_1 y_2 y_3 S_4 H locs ls hf hw hl
    rw [f_X2_put_J40] at hf
    refine lv_iload_n hx hb dX2_put_40 rfl (lv_at hl 1 rfl) ?_
    refine lv_iconst (v := 5) hx hb dX2_put_41 (by decide) ?_
    refine lv_imul hx hb dX2_put_42 ?_
    refine lv_topi (fun x_5 ex_5 => ?_)
    replace hf := bnd_of ex_5 hf
    refine lv_istore (lv' := [(5, .int x_5), (0, .ref (a 4)), (1, .int y_1), (2, .int y_2), (3, .int y_3)]) hx hb dX2_put_43 hl (by decide) rfl (fun ls hl => ?_)
    refine lv_aload_n hx hb dX2_put_45 rfl (lv_at hl 1 rfl) ?_
    refine va_get (D := G.1) (ci := 2) (v := .ref (a 17)) (C := RX2) (T := TX2) (N := 6) hx hb hts hin2 hown hG.1 hw.1 4 rfl rfl 2 (by decide) (hts (.fieldLink RX2 9 "DutyDesk$Nights" "holders" "[I") (List.mem_of_getElem? (i := 3) rfl)) (fun _ h9 => h9) rfl dX2_put_46 ?_
    refine lv_iload_n hx hb dX2_put_49 rfl (lv_at hl 3 rfl) ?_
    refine lv_aload_n hx hb dX2_put_50 rfl (lv_at hl 1 rfl) ?_
    refine va_get (D := G.1) (ci := 2) (v := .ref (a 17)) (C := RX2) (T := TX2) (N := 6) hx hb hts hin2 hown hG.1 hw.1 4 rfl rfl 2 (by decide) (hts (.fieldLink RX2 9 "DutyDesk$Nights" "holders" "[I") (List.mem_of_getElem? (i := 3) rfl)) (fun _ h9 => h9) rfl dX2_put_51 ?_
    refine lv_iload_n hx hb dX2_put_54 rfl (lv_at hl 3 rfl) ?_
    obtain ⟨h_6, hf⟩ := gd_of hf
    refine va_iald hx hb hG.1 hw.1 17 1 (xw_atM (k := 17) rfl) rfl h_6 dX2_put_55 ?_
    refine lv_bipush (v := 31) hx hb dX2_put_56 (by decide) ?_
    refine lv_iload hx hb dX2_put_58 (lv_at hl 0 rfl) ?_
    refine lv_ishl hx hb dX2_put_60 ?_
    refine lv_iconst (v := (-1)) hx hb dX2_put_61 (by decide) ?_
    refine lv_ixor hx hb dX2_put_62 ?_
    refine lv_iand hx hb dX2_put_63 ?_
    refine lv_iload_n hx hb dX2_put_64 rfl (lv_at hl 4 rfl) ?_
    refine lv_iconst (v := 1) hx hb dX2_put_65 (by decide) ?_
    refine lv_iadd hx hb dX2_put_66 ?_
    refine lv_iload hx hb dX2_put_67 (lv_at hl 0 rfl) ?_
    refine lv_ishl hx hb dX2_put_69 ?_
    refine lv_ior hx hb dX2_put_70 ?_
    obtain ⟨h_7, hf⟩ := gd_of hf
    refine va_iast hx hb hG.1 hw.1 hw.2.1 hw.2.2 17 1 (xw_atM (k := 17) rfl) rfl h_7 dX2_put_71 (fun H locs hP hD hS => ?_)
    obtain ⟨S_8, eS_8⟩ : ∃ z : St, z = sM S_4 17 (y_2.toNatClampNeg) (((gM S_4 17 y_2.toNatClampNeg) &&& (((31 : Int32) <<< (x_5 &&& 31)) ^^^ (-1))) ||| ((y_3 + 1) <<< (x_5 &&& 31))) := ⟨_, rfl⟩
    replace hf := bnd_of eS_8 hf
    have hw : Wd G A s H locs (xw G.2.1 a R S_8) := wd_eq (by rw [eS_8]; exact xw_upM (k := 17) rfl _) hP hD hS
    refine lv_iload_n hx hb dX2_put_72 rfl (lv_at hl 4 rfl) ?_
    refine lv_iconst (v := (-1)) hx hb dX2_put_73 (by decide) ?_
    refine lv_icmp_eq (tgt := 99) hx hb dX2_put_74 (by decide) (fun c_9 => ?_) (fun c_9 => ?_)
    · replace hf := if_t c_9 hf
      have e_10 := Option.some.inj hf
      subst e_10
      exact wd_vret hx hb hr hlocks hw dX2_put_99
    · replace hf := if_f c_9 hf
      refine lv_aload_n hx hb dX2_put_77 rfl (lv_at hl 1 rfl) ?_
      refine va_get (D := G.1) (ci := 2) (v := .ref (a 18)) (C := RX2) (T := TX2) (N := 6) hx hb hts hin2 hown hG.1 hw.1 4 rfl rfl 3 (by decide) (hts (.fieldLink RX2 15 "DutyDesk$Nights" "busyBits" "[I") (List.mem_of_getElem? (i := 1) rfl)) (fun _ h9 => h9) rfl dX2_put_78 ?_
      refine lv_iload_n hx hb dX2_put_81 rfl (lv_at hl 3 rfl) ?_
      refine lv_dup2_11 hx hb dX2_put_82 rfl rfl ?_
      obtain ⟨h_11, hf⟩ := gd_of hf
      refine va_iald hx hb hG.1 hw.1 18 1 (xw_atM (k := 18) rfl) rfl h_11 dX2_put_83 ?_
      refine lv_iconst (v := 1) hx hb dX2_put_84 (by decide) ?_
      refine lv_iload_n hx hb dX2_put_85 rfl (lv_at hl 4 rfl) ?_
      refine lv_ishl hx hb dX2_put_86 ?_
      refine lv_ior hx hb dX2_put_87 ?_
      obtain ⟨h_12, hf⟩ := gd_of hf
      refine va_iast hx hb hG.1 hw.1 hw.2.1 hw.2.2 18 1 (xw_atM (k := 18) rfl) rfl h_12 dX2_put_88 (fun H locs hP hD hS => ?_)
      obtain ⟨S_13, eS_13⟩ : ∃ z : St, z = sM S_8 18 (y_2.toNatClampNeg) ((gM S_8 18 y_2.toNatClampNeg) ||| ((1 : Int32) <<< (y_3 &&& 31))) := ⟨_, rfl⟩
      replace hf := bnd_of eS_13 hf
      have hw : Wd G A s H locs (xw G.2.1 a R S_13) := wd_eq (by rw [eS_13]; exact xw_upM (k := 18) rfl _) hP hD hS
      refine lv_aload_n hx hb dX2_put_89 rfl (lv_at hl 1 rfl) ?_
      refine va_get (D := G.1) (ci := 2) (v := .ref (a 19)) (C := RX2) (T := TX2) (N := 6) hx hb hts hin2 hown hG.1 hw.1 4 rfl rfl 4 (by decide) (hts (.fieldLink RX2 18 "DutyDesk$Nights" "duties" "[I") (List.mem_of_getElem? (i := 2) rfl)) (fun _ h9 => h9) rfl dX2_put_90 ?_
      refine lv_iload_n hx hb dX2_put_93 rfl (lv_at hl 4 rfl) ?_
      refine lv_dup2_11 hx hb dX2_put_94 rfl rfl ?_
      obtain ⟨h_14, hf⟩ := gd_of hf
      refine va_iald hx hb hG.1 hw.1 19 1 (xw_atM (k := 19) rfl) rfl h_14 dX2_put_95 ?_
      refine lv_iconst (v := 1) hx hb dX2_put_96 (by decide) ?_
      refine lv_iadd hx hb dX2_put_97 ?_
      obtain ⟨h_15, hf⟩ := gd_of hf
      refine va_iast hx hb hG.1 hw.1 hw.2.1 hw.2.2 19 1 (xw_atM (k := 19) rfl) rfl h_15 dX2_put_98 (fun H locs hP hD hS => ?_)
      obtain ⟨S_16, eS_16⟩ : ∃ z : St, z = sM S_13 19 (y_3.toNatClampNeg) ((gM S_13 19 y_3.toNatClampNeg) + 1) := ⟨_, rfl⟩
      replace hf := bnd_of eS_16 hf
      have hw : Wd G A s H locs (xw G.2.1 a R S_16) := wd_eq (by rw [eS_16]; exact xw_upM (k := 19) rfl _) hP hD hS
      have e_17 := Option.some.inj hf
      subst e_17
      exact wd_vret hx hb hr hlocks hw dX2_put_99
  refine lv_aload_n hx hb dX2_put_0 rfl (lv_at hl 0 rfl) ?_
  refine lv_iload_n hx hb dX2_put_1 rfl (lv_at hl 1 rfl) ?_
  refine lv_iload_n hx hb dX2_put_2 rfl (lv_at hl 2 rfl) ?_
  obtain ⟨r_19, h_18, hf⟩ := bind_of hf
  refine cV (As := [.int p1, .int p2]) (rest := []) ⟨hx, hb, hml, hown, hts⟩ hG hA hw (c_X2_holder G l a ha R S p1 p2 r_19 h_18) (cwV 2 hts gX2_put_X2_holder rfl rfl rfl (by decide +kernel) ⟨Nat.le_of_ble_eq_true rfl, Nat.le_of_ble_eq_true rfl⟩) (va_recv hG.1 hw.1 (ci := 2) (q0 := 4) rfl rfl) rfl hl.1 rfl (Nat.le_of_ble_eq_true rfl) dX2_put_3 ⟨Nat.zero_le _, Nat.zero_le _⟩ (fun H locs hw => ?_)
  refine lv_istore (lv' := [(4, .int r_19), (0, .ref (a 4)), (1, .int p1), (2, .int p2), (3, .int p3)]) hx hb dX2_put_6 hl (by decide) rfl (fun ls hl => ?_)
  refine lv_iload hx hb dX2_put_8 (lv_at hl 0 rfl) ?_
  refine lv_iconst (v := (-1)) hx hb dX2_put_10 (by decide) ?_
  refine lv_icmp_eq (tgt := 40) hx hb dX2_put_11 (by decide) (fun c_20 => ?_) (fun c_20 => ?_)
  · replace hf := if_t c_20 hf
    exact j40 p1 p2 p3 S _ _ _ hf hw (lv_sub hl [1, 2, 3, 4] rfl)
  · replace hf := if_f c_20 hf
    refine lv_aload_n hx hb dX2_put_14 rfl (lv_at hl 1 rfl) ?_
    refine va_get (D := G.1) (ci := 2) (v := .ref (a 18)) (C := RX2) (T := TX2) (N := 6) hx hb hts hin2 hown hG.1 hw.1 4 rfl rfl 3 (by decide) (hts (.fieldLink RX2 15 "DutyDesk$Nights" "busyBits" "[I") (List.mem_of_getElem? (i := 1) rfl)) (fun _ h9 => h9) rfl dX2_put_15 ?_
    refine lv_iload_n hx hb dX2_put_18 rfl (lv_at hl 3 rfl) ?_
    refine lv_dup2_11 hx hb dX2_put_19 rfl rfl ?_
    obtain ⟨h_21, hf⟩ := gd_of hf
    refine va_iald hx hb hG.1 hw.1 18 1 (xw_atM (k := 18) rfl) rfl h_21 dX2_put_20 ?_
    refine lv_iconst (v := 1) hx hb dX2_put_21 (by decide) ?_
    refine lv_iload hx hb dX2_put_22 (lv_at hl 0 rfl) ?_
    refine lv_ishl hx hb dX2_put_24 ?_
    refine lv_iconst (v := (-1)) hx hb dX2_put_25 (by decide) ?_
    refine lv_ixor hx hb dX2_put_26 ?_
    refine lv_iand hx hb dX2_put_27 ?_
    obtain ⟨h_22, hf⟩ := gd_of hf
    refine va_iast hx hb hG.1 hw.1 hw.2.1 hw.2.2 18 1 (xw_atM (k := 18) rfl) rfl h_22 dX2_put_28 (fun H locs hP hD hS => ?_)
    obtain ⟨S_23, eS_23⟩ : ∃ z : St, z = sM S 18 (p2.toNatClampNeg) ((gM S 18 p2.toNatClampNeg) &&& (((1 : Int32) <<< (r_19 &&& 31)) ^^^ (-1))) := ⟨_, rfl⟩
    replace hf := bnd_of eS_23 hf
    have hw : Wd G A s H locs (xw G.2.1 a R S_23) := wd_eq (by rw [eS_23]; exact xw_upM (k := 18) rfl _) hP hD hS
    refine lv_aload_n hx hb dX2_put_29 rfl (lv_at hl 1 rfl) ?_
    refine va_get (D := G.1) (ci := 2) (v := .ref (a 19)) (C := RX2) (T := TX2) (N := 6) hx hb hts hin2 hown hG.1 hw.1 4 rfl rfl 4 (by decide) (hts (.fieldLink RX2 18 "DutyDesk$Nights" "duties" "[I") (List.mem_of_getElem? (i := 2) rfl)) (fun _ h9 => h9) rfl dX2_put_30 ?_
    refine lv_iload hx hb dX2_put_33 (lv_at hl 0 rfl) ?_
    refine lv_dup2_11 hx hb dX2_put_35 rfl rfl ?_
    obtain ⟨h_24, hf⟩ := gd_of hf
    refine va_iald hx hb hG.1 hw.1 19 1 (xw_atM (k := 19) rfl) rfl h_24 dX2_put_36 ?_
    refine lv_iconst (v := 1) hx hb dX2_put_37 (by decide) ?_
    refine lv_isub hx hb dX2_put_38 ?_
    obtain ⟨h_25, hf⟩ := gd_of hf
    refine va_iast hx hb hG.1 hw.1 hw.2.1 hw.2.2 19 1 (xw_atM (k := 19) rfl) rfl h_25 dX2_put_39 (fun H locs hP hD hS => ?_)
    obtain ⟨S_26, eS_26⟩ : ∃ z : St, z = sM S_23 19 (r_19.toNatClampNeg) ((gM S_23 19 r_19.toNatClampNeg) - 1) := ⟨_, rfl⟩
    replace hf := bnd_of eS_26 hf
    have hw : Wd G A s H locs (xw G.2.1 a R S_26) := wd_eq (by rw [eS_26]; exact xw_upM (k := 19) rfl _) hP hD hS
    exact j40 p1 p2 p3 S_26 _ _ _ hf hw (lv_sub hl [1, 2, 3, 4] rfl)
/-! DutyDesk$Nights.busyOn(II)I -/
def rm_X2_busyOn : Room := { frames := 0, cells := 0, slots := 0, locals := 0 }
def f_X2_busyOn (S : St) (p1 : Int32) (p2 : Int32) : Option (Int32) :=
  (if p2 < 0 then
    some (0)
  else
    (if 1000 ≤ p2 then
    some (0)
  else
    gd p2 1000 (some ((((gM S 18 p2.toNatClampNeg) >>> (p1 &&& 31)) &&& 1)))))
set_option maxHeartbeats 4000000 in
set_option maxRecDepth 100000 in
theorem c_X2_busyOn (G : GP) (l : Launch) (a : Nat → Nat) (ha : a 45 = G.2.2.1) (R : va_W) (S : St) (p1 : Int32) (p2 : Int32) (r0 : Int32) (hf : f_X2_busyOn S p1 p2 = some r0) : MC G l yX2_busyOn wsX2_busyOn rm_X2_busyOn [.ref (a 4), .int p1, .int p2] (xw G.2.1 a R S) (xw G.2.1 a R S) (some (.int r0)) 0 0 := by
  refine MC.mk (cc := cX2_busyOn) (maxL := 3) (ret := (some .int)) (by decide) rfl (Nat.le_of_ble_eq_true rfl) ?_
  intro p e s m below meth c A ls ⟨hx, hb, hr, hml, hown, hlocks, _, hts⟩ hw hG hA hl
  have hl : lv_has ls 3 [(0, .ref (a 4)), (1, .int p1), (2, .int p2)] := hl
  have hin2 : ∀ w ∈ u_ws RX2 TX2 6, w ∈ wsX2_busyOn := by decide +kernel
  rw [f_X2_busyOn] at hf
  refine lv_iload_n hx hb dX2_busyOn_0 rfl (lv_at hl 2 rfl) ?_
  refine lv_if_lt (tgt := 24) hx hb dX2_busyOn_1 (by decide) (fun c_1 => ?_) (fun c_1 => ?_)
  · replace hf := if_t c_1 hf
    refine lv_iconst (v := 0) hx hb dX2_busyOn_24 (by decide) ?_
    have e_2 := Option.some.inj hf
    subst e_2
    exact wd_iret hx hb hr hlocks hw dX2_busyOn_25
  · replace hf := if_f c_1 hf
    refine lv_iload_n hx hb dX2_busyOn_4 rfl (lv_at hl 2 rfl) ?_
    refine lv_sipush (v := 1000) hx hb dX2_busyOn_5 (by decide) ?_
    refine lv_icmp_ge (tgt := 24) hx hb dX2_busyOn_8 (by decide) (fun c_3 => ?_) (fun c_3 => ?_)
    · replace hf := if_t c_3 hf
      refine lv_iconst (v := 0) hx hb dX2_busyOn_24 (by decide) ?_
      have e_4 := Option.some.inj hf
      subst e_4
      exact wd_iret hx hb hr hlocks hw dX2_busyOn_25
    · replace hf := if_f c_3 hf
      refine lv_aload_n hx hb dX2_busyOn_11 rfl (lv_at hl 0 rfl) ?_
      refine va_get (D := G.1) (ci := 2) (v := .ref (a 18)) (C := RX2) (T := TX2) (N := 6) hx hb hts hin2 hown hG.1 hw.1 4 rfl rfl 3 (by decide) (hts (.fieldLink RX2 15 "DutyDesk$Nights" "busyBits" "[I") (List.mem_of_getElem? (i := 1) rfl)) (fun _ h9 => h9) rfl dX2_busyOn_12 ?_
      refine lv_iload_n hx hb dX2_busyOn_15 rfl (lv_at hl 2 rfl) ?_
      obtain ⟨h_5, hf⟩ := gd_of hf
      refine va_iald hx hb hG.1 hw.1 18 1 (xw_atM (k := 18) rfl) rfl h_5 dX2_busyOn_16 ?_
      refine lv_iload_n hx hb dX2_busyOn_17 rfl (lv_at hl 1 rfl) ?_
      refine lv_ishr hx hb dX2_busyOn_18 ?_
      refine lv_iconst (v := 1) hx hb dX2_busyOn_19 (by decide) ?_
      refine lv_iand hx hb dX2_busyOn_20 ?_
      refine lv_goto (tgt := 25) hx hb dX2_busyOn_21 (by decide) ?_
      have e_6 := Option.some.inj hf
      subst e_6
      exact wd_iret hx hb hr hlocks hw dX2_busyOn_25
/-! DutyDesk$Nights.busyDays(III)I -/
def rm_X2_busyDays : Room := { frames := 1, cells := 0, slots := 0, locals := 22 }
def f_X2_busyDays_L6 (S : St) (p1 : Int32) (p3 : Int32) : (Int32 × Int32) → Option ((Int32 × Int32) ⊕ (Int32))
  | (v_1, v_2) =>
  (if p3 < v_2 then
    some (.inr (v_1))
  else
    (f_X2_busyOn S p1 v_2).bind (fun r_7 => bnd (v_1 + r_7) fun x_8 => bnd (v_2 + 1) fun x_9 => some (.inl (x_8, x_9))))
def f_X2_busyDays (S : St) (p1 : Int32) (p2 : Int32) (p3 : Int32) : Option (Int32) :=
  loopF (f_X2_busyDays_L6 S p1 p3) FU (0, p2)
set_option maxHeartbeats 4000000 in
set_option maxRecDepth 100000 in
theorem c_X2_busyDays (G : GP) (l : Launch) (a : Nat → Nat) (ha : a 45 = G.2.2.1) (R : va_W) (S : St) (p1 : Int32) (p2 : Int32) (p3 : Int32) (r0 : Int32) (hf : f_X2_busyDays S p1 p2 p3 = some r0) : MC G l yX2_busyDays wsX2_busyDays rm_X2_busyDays [.ref (a 4), .int p1, .int p2, .int p3] (xw G.2.1 a R S) (xw G.2.1 a R S) (some (.int r0)) 0 0 := by
  refine MC.mk (cc := cX2_busyDays) (maxL := 6) (ret := (some .int)) (by decide) rfl (Nat.le_of_ble_eq_true rfl) ?_
  intro p e s m below meth c A ls ⟨hx, hb, hr, hml, hown, hlocks, _, hts⟩ hw hG hA hl
  have hl : lv_has ls 6 [(0, .ref (a 4)), (1, .int p1), (2, .int p2), (3, .int p3)] := hl
  rw [f_X2_busyDays] at hf
  refine lv_iconst (v := 0) hx hb dX2_busyDays_0 (by decide) ?_
  refine lv_istore (lv' := [(4, .int 0), (0, .ref (a 4)), (1, .int p1), (2, .int p2), (3, .int p3)]) hx hb dX2_busyDays_1 hl (by decide) rfl (fun ls hl => ?_)
  refine lv_iload_n hx hb dX2_busyDays_3 rfl (lv_at hl 3 rfl) ?_
  refine lv_istore (lv' := [(5, .int p2), (4, .int 0), (0, .ref (a 4)), (1, .int p1), (2, .int p2), (3, .int p3)]) hx hb dX2_busyDays_4 hl (by decide) rfl (fun ls hl => ?_)
  refine loopF_ind (body := f_X2_busyDays_L6 S p1 p3) (fun (q : Int32 × Int32) => match q with | (v_1, v_2) => ∀ (H : Heap) (locs : List Loc) (ls : Array Slot), Wd G A s H locs (xw G.2.1 a R S) → lv_has ls 6 [(0, .ref (a 4)), (1, .int p1), (3, .int p3), (4, .int v_1), (5, .int v_2)] → WQ p l e rm_X2_busyDays s m [.ref (a 4), .int p1, .int p2, .int p3] below meth c G A (xw G.2.1 a R S) (some (.int r0)) 0 0 H locs 0 0 (F0 m 6 ls [])) ?_ FU (0, p2) hf _ _ _ hw (lv_sub hl [2, 3, 5, 1, 0] rfl)
  clear hf hw hl
  intro ⟨v_1, v_2⟩ t0_6 hf hz1_0_6 hz2_0_6 H locs ls hw hl
  rw [f_X2_busyDays_L6] at hf
  refine lv_iload hx hb dX2_busyDays_6 (lv_at hl 4 rfl) ?_
  refine lv_iload_n hx hb dX2_busyDays_8 rfl (lv_at hl 2 rfl) ?_
  refine lv_icmp_gt (tgt := 30) hx hb dX2_busyDays_9 (by decide) (fun c_3 => ?_) (fun c_3 => ?_)
  · replace hf := if_t c_3 hf
    refine lv_iload hx hb dX2_busyDays_30 (lv_at hl 3 rfl) ?_
    have e_4 := Option.some.inj hf
    have e_5 := hz2_0_6 _ e_4.symm
    subst e_5
    exact wd_iret hx hb hr hlocks hw dX2_busyDays_32
  · replace hf := if_f c_3 hf
    refine lv_iload hx hb dX2_busyDays_12 (lv_at hl 3 rfl) ?_
    refine lv_aload_n hx hb dX2_busyDays_14 rfl (lv_at hl 0 rfl) ?_
    refine lv_iload_n hx hb dX2_busyDays_15 rfl (lv_at hl 1 rfl) ?_
    refine lv_iload hx hb dX2_busyDays_16 (lv_at hl 4 rfl) ?_
    obtain ⟨r_7, h_6, hf⟩ := bind_of hf
    refine cV (As := [.int p1, .int v_2]) (rest := [.int v_1]) ⟨hx, hb, hml, hown, hts⟩ hG hA hw (c_X2_busyOn G l a ha R S p1 v_2 r_7 h_6) (cwV 2 hts gX2_busyDays_X2_busyOn rfl rfl rfl (by decide +kernel) ⟨Nat.le_of_ble_eq_true rfl, Nat.le_of_ble_eq_true rfl⟩) (va_recv hG.1 hw.1 (ci := 2) (q0 := 4) rfl rfl) rfl hl.1 rfl (Nat.le_of_ble_eq_true rfl) dX2_busyDays_18 ⟨Nat.zero_le _, Nat.zero_le _⟩ (fun H locs hw => ?_)
    refine lv_iadd hx hb dX2_busyDays_21 ?_
    refine lv_topi (fun x_8 ex_8 => ?_)
    replace hf := bnd_of ex_8 hf
    refine lv_istore (lv' := [(4, .int x_8), (0, .ref (a 4)), (1, .int p1), (3, .int p3), (5, .int v_2)]) hx hb dX2_busyDays_22 hl (by decide) rfl (fun ls hl => ?_)
    obtain ⟨x_9, ex_9⟩ : ∃ z : Int32, z = v_2 + 1 := ⟨_, rfl⟩
    replace hf := bnd_of ex_9 hf
    refine lv_iinc (v := x_9) (lv' := [(5, .int x_9), (4, .int x_8), (0, .ref (a 4)), (1, .int p1), (3, .int p3)]) hx hb dX2_busyDays_24 hl (k := 4) rfl (by rw [ex_9]; rfl) (by decide) rfl (fun ls hl => ?_)
    refine lv_goto (tgt := 6) hx hb dX2_busyDays_27 (by decide) ?_
    have e_10 := Option.some.inj hf
    exact hz1_0_6 _ e_10.symm _ _ _ hw (lv_sub hl [2, 3, 4, 1, 0] rfl)
/-! DutyDesk$Nights.keepsToMost(III)Z -/
def rm_X2_keepsToMost : Room := { frames := 2, cells := 0, slots := 0, locals := 47 }
def f_X2_keepsToMost_L36 (S : St) (p1 : Int32) (p2 : Int32) (p3 : Int32) : (Int32 × Int32) → Option ((Int32 × Int32) ⊕ (Int32))
  | (v_7, v_8) =>
  (if p2 < v_8 then
    some (.inr (1))
  else
    (if v_7 ≤ p3 then
    (f_X2_busyOn S p1 (v_8 + 30)).bind (fun r_14 => (f_X2_busyOn S p1 v_8).bind (fun r_16 => bnd (v_7 + (r_14 - r_16)) fun x_17 => bnd (v_8 + 1) fun x_18 => some (.inl (x_17, x_18))))
  else
    some (.inr (0))))
def f_X2_keepsToMost (S : St) (p1 : Int32) (p2 : Int32) (p3 : Int32) : Option (Int32) :=
  gd p1 24 ((if p3 ≤ (gM S 19 p1.toNatClampNeg) then
    bnd ((p2 - 30) + 1) fun x_3 => (f_X2_busyDays S p1 x_3 p2).bind (fun r_5 => bnd (1 + r_5) fun x_6 => loopF (f_X2_keepsToMost_L36 S p1 p2 p3) FU (x_6, x_3))
  else
    some (1)))
set_option maxHeartbeats 4000000 in
set_option maxRecDepth 100000 in
theorem c_X2_keepsToMost (G : GP) (l : Launch) (a : Nat → Nat) (ha : a 45 = G.2.2.1) (R : va_W) (S : St) (p1 : Int32) (p2 : Int32) (p3 : Int32) (r0 : Int32) (hf : f_X2_keepsToMost S p1 p2 p3 = some r0) : MC G l yX2_keepsToMost wsX2_keepsToMost rm_X2_keepsToMost [.ref (a 4), .int p1, .int p2, .int p3] (xw G.2.1 a R S) (xw G.2.1 a R S) (some (.int r0)) 0 0 := by
  refine MC.mk (cc := cX2_keepsToMost) (maxL := 7) (ret := (some .boolean)) (by decide) rfl (Nat.le_of_ble_eq_true rfl) ?_
  intro p e s m below meth c A ls ⟨hx, hb, hr, hml, hown, hlocks, _, hts⟩ hw hG hA hl
  have hl : lv_has ls 7 [(0, .ref (a 4)), (1, .int p1), (2, .int p2), (3, .int p3)] := hl
  have hin2 : ∀ w ∈ u_ws RX2 TX2 6, w ∈ wsX2_keepsToMost := by decide +kernel
  rw [f_X2_keepsToMost] at hf
  refine lv_aload_n hx hb dX2_keepsToMost_0 rfl (lv_at hl 0 rfl) ?_
  refine va_get (D := G.1) (ci := 2) (v := .ref (a 19)) (C := RX2) (T := TX2) (N := 6) hx hb hts hin2 hown hG.1 hw.1 4 rfl rfl 4 (by decide) (hts (.fieldLink RX2 18 "DutyDesk$Nights" "duties" "[I") (List.mem_of_getElem? (i := 1) rfl)) (fun _ h9 => h9) rfl dX2_keepsToMost_1 ?_
  refine lv_iload_n hx hb dX2_keepsToMost_4 rfl (lv_at hl 1 rfl) ?_
  obtain ⟨h_1, hf⟩ := gd_of hf
  refine va_iald hx hb hG.1 hw.1 19 1 (xw_atM (k := 19) rfl) rfl h_1 dX2_keepsToMost_5 ?_
  refine lv_iload_n hx hb dX2_keepsToMost_6 rfl (lv_at hl 3 rfl) ?_
  refine lv_icmp_ge (tgt := 12) hx hb dX2_keepsToMost_7 (by decide) (fun c_2 => ?_) (fun c_2 => ?_)
  · replace hf := if_t c_2 hf
    refine lv_iload_n hx hb dX2_keepsToMost_12 rfl (lv_at hl 2 rfl) ?_
    refine lv_bipush (v := 30) hx hb dX2_keepsToMost_13 (by decide) ?_
    refine lv_isub hx hb dX2_keepsToMost_15 ?_
    refine lv_iconst (v := 1) hx hb dX2_keepsToMost_16 (by decide) ?_
    refine lv_iadd hx hb dX2_keepsToMost_17 ?_
    refine lv_topi (fun x_3 ex_3 => ?_)
    replace hf := bnd_of ex_3 hf
    refine lv_istore (lv' := [(4, .int x_3), (0, .ref (a 4)), (1, .int p1), (2, .int p2), (3, .int p3)]) hx hb dX2_keepsToMost_18 hl (by decide) rfl (fun ls hl => ?_)
    refine lv_iconst (v := 1) hx hb dX2_keepsToMost_20 (by decide) ?_
    refine lv_aload_n hx hb dX2_keepsToMost_21 rfl (lv_at hl 1 rfl) ?_
    refine lv_iload_n hx hb dX2_keepsToMost_22 rfl (lv_at hl 2 rfl) ?_
    refine lv_iload hx hb dX2_keepsToMost_23 (lv_at hl 0 rfl) ?_
    refine lv_iload_n hx hb dX2_keepsToMost_25 rfl (lv_at hl 3 rfl) ?_
    obtain ⟨r_5, h_4, hf⟩ := bind_of hf
    refine cV (As := [.int p1, .int x_3, .int p2]) (rest := [.int 1]) ⟨hx, hb, hml, hown, hts⟩ hG hA hw (c_X2_busyDays G l a ha R S p1 x_3 p2 r_5 h_4) (cwV 3 hts gX2_keepsToMost_X2_busyDays rfl rfl rfl (by decide +kernel) ⟨Nat.le_of_ble_eq_true rfl, Nat.le_of_ble_eq_true rfl⟩) (va_recv hG.1 hw.1 (ci := 2) (q0 := 4) rfl rfl) rfl hl.1 rfl (Nat.le_of_ble_eq_true rfl) dX2_keepsToMost_26 ⟨Nat.zero_le _, Nat.zero_le _⟩ (fun H locs hw => ?_)
    refine lv_iadd hx hb dX2_keepsToMost_29 ?_
    refine lv_topi (fun x_6 ex_6 => ?_)
    replace hf := bnd_of ex_6 hf
    refine lv_istore (lv' := [(5, .int x_6), (4, .int x_3), (0, .ref (a 4)), (1, .int p1), (2, .int p2), (3, .int p3)]) hx hb dX2_keepsToMost_30 hl (by decide) rfl (fun ls hl => ?_)
    refine lv_iload hx hb dX2_keepsToMost_32 (lv_at hl 1 rfl) ?_
    refine lv_istore (lv' := [(6, .int x_3), (5, .int x_6), (4, .int x_3), (0, .ref (a 4)), (1, .int p1), (2, .int p2), (3, .int p3)]) hx hb dX2_keepsToMost_34 hl (by decide) rfl (fun ls hl => ?_)
    refine loopF_ind (body := f_X2_keepsToMost_L36 S p1 p2 p3) (fun (q : Int32 × Int32) => match q with | (v_7, v_8) => ∀ (H : Heap) (locs : List Loc) (ls : Array Slot), Wd G A s H locs (xw G.2.1 a R S) → lv_has ls 7 [(0, .ref (a 4)), (1, .int p1), (2, .int p2), (3, .int p3), (5, .int v_7), (6, .int v_8)] → WQ p l e rm_X2_keepsToMost s m [.ref (a 4), .int p1, .int p2, .int p3] below meth c G A (xw G.2.1 a R S) (some (.int r0)) 0 0 H locs 0 0 (F0 m 36 ls [])) ?_ FU (x_6, x_3) hf _ _ _ hw (lv_sub hl [3, 4, 5, 6, 1, 0] rfl)
    clear hf hw hl
    intro ⟨v_7, v_8⟩ t0_36 hf hz1_0_36 hz2_0_36 H locs ls hw hl
    rw [f_X2_keepsToMost_L36] at hf
    refine lv_iload hx hb dX2_keepsToMost_36 (lv_at hl 5 rfl) ?_
    refine lv_iload_n hx hb dX2_keepsToMost_38 rfl (lv_at hl 2 rfl) ?_
    refine lv_icmp_gt (tgt := 79) hx hb dX2_keepsToMost_39 (by decide) (fun c_9 => ?_) (fun c_9 => ?_)
    · replace hf := if_t c_9 hf
      refine lv_iconst (v := 1) hx hb dX2_keepsToMost_79 (by decide) ?_
      have e_10 := Option.some.inj hf
      have e_11 := hz2_0_36 _ e_10.symm
      subst e_11
      exact wd_zret hx hb hr rfl hlocks hw dX2_keepsToMost_80
    · replace hf := if_f c_9 hf
      refine lv_iload hx hb dX2_keepsToMost_42 (lv_at hl 4 rfl) ?_
      refine lv_iload_n hx hb dX2_keepsToMost_44 rfl (lv_at hl 3 rfl) ?_
      refine lv_icmp_le (tgt := 50) hx hb dX2_keepsToMost_45 (by decide) (fun c_12 => ?_) (fun c_12 => ?_)
      · replace hf := if_t c_12 hf
        refine lv_iload hx hb dX2_keepsToMost_50 (lv_at hl 4 rfl) ?_
        refine lv_aload_n hx hb dX2_keepsToMost_52 rfl (lv_at hl 0 rfl) ?_
        refine lv_iload_n hx hb dX2_keepsToMost_53 rfl (lv_at hl 1 rfl) ?_
        refine lv_iload hx hb dX2_keepsToMost_54 (lv_at hl 5 rfl) ?_
        refine lv_bipush (v := 30) hx hb dX2_keepsToMost_56 (by decide) ?_
        refine lv_iadd hx hb dX2_keepsToMost_58 ?_
        obtain ⟨r_14, h_13, hf⟩ := bind_of hf
        refine cV (As := [.int p1, .int (v_8 + 30)]) (rest := [.int v_7]) ⟨hx, hb, hml, hown, hts⟩ hG hA hw (c_X2_busyOn G l a ha R S p1 (v_8 + 30) r_14 h_13) (cwV 2 hts gX2_keepsToMost_X2_busyOn rfl rfl rfl (by decide +kernel) ⟨Nat.le_of_ble_eq_true rfl, Nat.le_of_ble_eq_true rfl⟩) (va_recv hG.1 hw.1 (ci := 2) (q0 := 4) rfl rfl) rfl hl.1 rfl (Nat.le_of_ble_eq_true rfl) dX2_keepsToMost_59 ⟨Nat.zero_le _, Nat.zero_le _⟩ (fun H locs hw => ?_)
        refine lv_aload_n hx hb dX2_keepsToMost_62 rfl (lv_at hl 0 rfl) ?_
        refine lv_iload_n hx hb dX2_keepsToMost_63 rfl (lv_at hl 1 rfl) ?_
        refine lv_iload hx hb dX2_keepsToMost_64 (lv_at hl 5 rfl) ?_
        obtain ⟨r_16, h_15, hf⟩ := bind_of hf
        refine cV (As := [.int p1, .int v_8]) (rest := [.int r_14, .int v_7]) ⟨hx, hb, hml, hown, hts⟩ hG hA hw (c_X2_busyOn G l a ha R S p1 v_8 r_16 h_15) (cwV 2 hts gX2_keepsToMost_X2_busyOn rfl rfl rfl (by decide +kernel) ⟨Nat.le_of_ble_eq_true rfl, Nat.le_of_ble_eq_true rfl⟩) (va_recv hG.1 hw.1 (ci := 2) (q0 := 4) rfl rfl) rfl hl.1 rfl (Nat.le_of_ble_eq_true rfl) dX2_keepsToMost_66 ⟨Nat.zero_le _, Nat.zero_le _⟩ (fun H locs hw => ?_)
        refine lv_isub hx hb dX2_keepsToMost_69 ?_
        refine lv_iadd hx hb dX2_keepsToMost_70 ?_
        refine lv_topi (fun x_17 ex_17 => ?_)
        replace hf := bnd_of ex_17 hf
        refine lv_istore (lv' := [(5, .int x_17), (0, .ref (a 4)), (1, .int p1), (2, .int p2), (3, .int p3), (6, .int v_8)]) hx hb dX2_keepsToMost_71 hl (by decide) rfl (fun ls hl => ?_)
        obtain ⟨x_18, ex_18⟩ : ∃ z : Int32, z = v_8 + 1 := ⟨_, rfl⟩
        replace hf := bnd_of ex_18 hf
        refine lv_iinc (v := x_18) (lv' := [(6, .int x_18), (5, .int x_17), (0, .ref (a 4)), (1, .int p1), (2, .int p2), (3, .int p3)]) hx hb dX2_keepsToMost_73 hl (k := 5) rfl (by rw [ex_18]; rfl) (by decide) rfl (fun ls hl => ?_)
        refine lv_goto (tgt := 36) hx hb dX2_keepsToMost_76 (by decide) ?_
        have e_19 := Option.some.inj hf
        exact hz1_0_36 _ e_19.symm _ _ _ hw (lv_sub hl [2, 3, 4, 5, 1, 0] rfl)
      · replace hf := if_f c_12 hf
        refine lv_iconst (v := 0) hx hb dX2_keepsToMost_48 (by decide) ?_
        have e_20 := Option.some.inj hf
        have e_21 := hz2_0_36 _ e_20.symm
        subst e_21
        exact wd_zret hx hb hr rfl hlocks hw dX2_keepsToMost_49
  · replace hf := if_f c_2 hf
    refine lv_iconst (v := 1) hx hb dX2_keepsToMost_10 (by decide) ?_
    have e_22 := Option.some.inj hf
    subst e_22
    exact wd_zret hx hb hr rfl hlocks hw dX2_keepsToMost_11
/-! DutyDesk$Nights.mayHave(III)Z -/
def rm_X2_mayHave : Room := { frames := 3, cells := 0, slots := 0, locals := 73 }
def f_X2_mayHave (S : St) (p1 : Int32) (p2 : Int32) (p3 : Int32) : Option (Int32) :=
  (f_X3_isOn S p1 p2).bind (fun r_2 => (if r_2 = 0 then
    some (0)
  else
    (f_X3_isThere S p1 p3).bind (fun r_6 => (if r_6 = 0 then
    some (0)
  else
    (f_X6_textNow S p3).bind (fun r_9 => gk r_9 (gd 2 12 (bnd (gT S r_9 (2 : Int32).toNatClampNeg) fun x_12 => (f_X2_busyDays S p1 (p3 - x_12) (p3 + x_12)).bind (fun r_14 => (if r_14 = 0 then
    gd 3 12 ((f_X2_keepsToMost S p1 p3 (gT S r_9 (3 : Int32).toNatClampNeg)).bind (fun r_19 => (if r_19 = 0 then
    some (0)
  else
    some (1))))
  else
    some (0))))))))))
set_option maxHeartbeats 4000000 in
set_option maxRecDepth 100000 in
theorem c_X2_mayHave (G : GP) (l : Launch) (a : Nat → Nat) (ha : a 45 = G.2.2.1) (R : va_W) (S : St) (p1 : Int32) (p2 : Int32) (p3 : Int32) (r0 : Int32) (hf : f_X2_mayHave S p1 p2 p3 = some r0) : MC G l yX2_mayHave wsX2_mayHave rm_X2_mayHave [.ref (a 4), .int p1, .int p2, .int p3] (xw G.2.1 a R S) (xw G.2.1 a R S) (some (.int r0)) 0 0 := by
  refine MC.mk (cc := cX2_mayHave) (maxL := 6) (ret := (some .boolean)) (by decide) rfl (Nat.le_of_ble_eq_true rfl) ?_
  intro p e s m below meth c A ls ⟨hx, hb, hr, hml, hown, hlocks, _, hts⟩ hw hG hA hl
  have hl : lv_has ls 6 [(0, .ref (a 4)), (1, .int p1), (2, .int p2), (3, .int p3)] := hl
  have hin2 : ∀ w ∈ u_ws RX2 TX2 6, w ∈ wsX2_mayHave := by decide +kernel
  rw [f_X2_mayHave] at hf
  refine lv_aload_n hx hb dX2_mayHave_0 rfl (lv_at hl 0 rfl) ?_
  refine va_get (D := G.1) (ci := 2) (v := .ref (a 3)) (C := RX2) (T := TX2) (N := 6) hx hb hts hin2 hown hG.1 hw.1 4 rfl rfl 0 (by decide) (hts (.fieldLink RX2 24 "DutyDesk$Nights" "people" "LDutyDesk$People;") (List.mem_of_getElem? (i := 1) rfl)) (fun _ h9 => h9) rfl dX2_mayHave_1 ?_
  refine lv_iload_n hx hb dX2_mayHave_4 rfl (lv_at hl 1 rfl) ?_
  refine lv_iload_n hx hb dX2_mayHave_5 rfl (lv_at hl 2 rfl) ?_
  obtain ⟨r_2, h_1, hf⟩ := bind_of hf
  refine cVN (As := [.int p1, .int p2]) (rest := []) ⟨hx, hb, hml, hown, hts⟩ hG hA hw (c_X3_isOn G l a ha R S p1 p2 r_2 h_1) ⟨va_cnB 2 hts gX2_mayHave_X3_isOn_n36 rfl rfl rfl (hG.2.1 (.methodLinkNest "DutyDesk$Nights" 36 yX3_isOn "DutyDesk") (List.mem_of_getElem? (i := 61) rfl)) (hts (.initialized RX3) (List.mem_of_getElem? (i := 4) rfl)) (by decide +kernel) ⟨Nat.le_of_ble_eq_true rfl, Nat.le_of_ble_eq_true rfl⟩, hts (.instanceMethod yX3_isOn) (List.mem_of_getElem? (i := 3) rfl), hts (.selects RX3 yX3_isOn yX3_isOn) (List.mem_of_getElem? (i := 5) rfl)⟩ (va_recv hG.1 hw.1 (ci := 3) (q0 := 3) rfl rfl) rfl hl.1 rfl (Nat.le_of_ble_eq_true rfl) dX2_mayHave_6 ⟨Nat.zero_le _, Nat.zero_le _⟩ (fun H locs hw => ?_)
  refine lv_if_eq (tgt := 24) hx hb dX2_mayHave_9 (by decide) (fun c_3 => ?_) (fun c_3 => ?_)
  · replace hf := if_t c_3 hf
    refine lv_iconst (v := 0) hx hb dX2_mayHave_24 (by decide) ?_
    have e_4 := Option.some.inj hf
    subst e_4
    exact wd_zret hx hb hr rfl hlocks hw dX2_mayHave_25
  · replace hf := if_f c_3 hf
    refine lv_aload_n hx hb dX2_mayHave_12 rfl (lv_at hl 0 rfl) ?_
    refine va_get (D := G.1) (ci := 2) (v := .ref (a 3)) (C := RX2) (T := TX2) (N := 6) hx hb hts hin2 hown hG.1 hw.1 4 rfl rfl 0 (by decide) (hts (.fieldLink RX2 24 "DutyDesk$Nights" "people" "LDutyDesk$People;") (List.mem_of_getElem? (i := 1) rfl)) (fun _ h9 => h9) rfl dX2_mayHave_13 ?_
    refine lv_iload_n hx hb dX2_mayHave_16 rfl (lv_at hl 1 rfl) ?_
    refine lv_iload_n hx hb dX2_mayHave_17 rfl (lv_at hl 3 rfl) ?_
    obtain ⟨r_6, h_5, hf⟩ := bind_of hf
    refine cVN (As := [.int p1, .int p3]) (rest := []) ⟨hx, hb, hml, hown, hts⟩ hG hA hw (c_X3_isThere G l a ha R S p1 p3 r_6 h_5) ⟨va_cnB 2 hts gX2_mayHave_X3_isThere_n42 rfl rfl rfl (hG.2.1 (.methodLinkNest "DutyDesk$Nights" 42 yX3_isThere "DutyDesk") (List.mem_of_getElem? (i := 62) rfl)) (hts (.initialized RX3) (List.mem_of_getElem? (i := 4) rfl)) (by decide +kernel) ⟨Nat.le_of_ble_eq_true rfl, Nat.le_of_ble_eq_true rfl⟩, hts (.instanceMethod yX3_isThere) (List.mem_of_getElem? (i := 11) rfl), hts (.selects RX3 yX3_isThere yX3_isThere) (List.mem_of_getElem? (i := 12) rfl)⟩ (va_recv hG.1 hw.1 (ci := 3) (q0 := 3) rfl rfl) rfl hl.1 rfl (Nat.le_of_ble_eq_true rfl) dX2_mayHave_18 ⟨Nat.zero_le _, Nat.zero_le _⟩ (fun H locs hw => ?_)
    refine lv_if_ne (tgt := 26) hx hb dX2_mayHave_21 (by decide) (fun c_7 => ?_) (fun c_7 => ?_)
    · replace hf := if_f c_7 hf
      refine lv_aload_n hx hb dX2_mayHave_26 rfl (lv_at hl 0 rfl) ?_
      refine va_get (D := G.1) (ci := 2) (v := .ref (a 2)) (C := RX2) (T := TX2) (N := 6) hx hb hts hin2 hown hG.1 hw.1 4 rfl rfl 1 (by decide) (hts (.fieldLink RX2 28 "DutyDesk$Nights" "statutes" "LDutyDesk$Statutes;") (List.mem_of_getElem? (i := 2) rfl)) (fun _ h9 => h9) rfl dX2_mayHave_27 ?_
      refine lv_iload_n hx hb dX2_mayHave_30 rfl (lv_at hl 3 rfl) ?_
      obtain ⟨r_9, h_8, hf⟩ := bind_of hf
      refine cVN (As := [.int p3]) (rest := []) ⟨hx, hb, hml, hown, hts⟩ hG hA hw (c_X6_textNow G l a ha R S p3 r_9 h_8) ⟨va_cnB 1 hts gX2_mayHave_X6_textNow_n45 rfl rfl rfl (hG.2.1 (.methodLinkNest "DutyDesk$Nights" 45 yX6_textNow "DutyDesk") (List.mem_of_getElem? (i := 63) rfl)) (hts (.initialized RX6) (List.mem_of_getElem? (i := 21) rfl)) (by decide +kernel) ⟨Nat.le_of_ble_eq_true rfl, Nat.le_of_ble_eq_true rfl⟩, hts (.instanceMethod yX6_textNow) (List.mem_of_getElem? (i := 20) rfl), hts (.selects RX6 yX6_textNow yX6_textNow) (List.mem_of_getElem? (i := 22) rfl)⟩ (va_recv hG.1 hw.1 (ci := 6) (q0 := 2) rfl rfl) rfl hl.1 rfl (Nat.le_of_ble_eq_true rfl) dX2_mayHave_31 ⟨Nat.zero_le _, Nat.zero_le _⟩ (fun H locs hw => ?_)
      obtain ⟨ht_10, hf⟩ := gk_of hf
      refine lv_astore (lv' := [(4, .ref (a r_9)), (0, .ref (a 4)), (1, .int p1), (2, .int p2), (3, .int p3)]) hx hb dX2_mayHave_34 hl (by decide) rfl (fun ls hl => ?_)
      refine lv_aload hx hb dX2_mayHave_36 (lv_at hl 0 rfl) ?_
      refine lv_iconst (v := 2) hx hb dX2_mayHave_38 (by decide) ?_
      obtain ⟨h_11, hf⟩ := gd_of hf
      refine x_tald hx hb ha hG hw ht_10 h_11 dX2_mayHave_39 ?_
      refine lv_topi (fun x_12 ex_12 => ?_)
      replace hf := bnd_of ex_12 hf
      refine lv_istore (lv' := [(5, .int x_12), (4, .ref (a r_9)), (0, .ref (a 4)), (1, .int p1), (2, .int p2), (3, .int p3)]) hx hb dX2_mayHave_40 hl (by decide) rfl (fun ls hl => ?_)
      refine lv_aload_n hx hb dX2_mayHave_42 rfl (lv_at hl 2 rfl) ?_
      refine lv_iload_n hx hb dX2_mayHave_43 rfl (lv_at hl 3 rfl) ?_
      refine lv_iload_n hx hb dX2_mayHave_44 rfl (lv_at hl 5 rfl) ?_
      refine lv_iload hx hb dX2_mayHave_45 (lv_at hl 0 rfl) ?_
      refine lv_isub hx hb dX2_mayHave_47 ?_
      refine lv_iload_n hx hb dX2_mayHave_48 rfl (lv_at hl 5 rfl) ?_
      refine lv_iload hx hb dX2_mayHave_49 (lv_at hl 0 rfl) ?_
      refine lv_iadd hx hb dX2_mayHave_51 ?_
      obtain ⟨r_14, h_13, hf⟩ := bind_of hf
      refine cV (As := [.int p1, .int (p3 - x_12), .int (p3 + x_12)]) (rest := []) ⟨hx, hb, hml, hown, hts⟩ hG hA hw (c_X2_busyDays G l a ha R S p1 (p3 - x_12) (p3 + x_12) r_14 h_13) (cwV 3 hts gX2_mayHave_X2_busyDays rfl rfl rfl (by decide +kernel) ⟨Nat.le_of_ble_eq_true rfl, Nat.le_of_ble_eq_true rfl⟩) (va_recv hG.1 hw.1 (ci := 2) (q0 := 4) rfl rfl) rfl hl.1 rfl (Nat.le_of_ble_eq_true rfl) dX2_mayHave_52 ⟨Nat.zero_le _, Nat.zero_le _⟩ (fun H locs hw => ?_)
      refine lv_if_ne (tgt := 75) hx hb dX2_mayHave_55 (by decide) (fun c_15 => ?_) (fun c_15 => ?_)
      · replace hf := if_f c_15 hf
        refine lv_iconst (v := 0) hx hb dX2_mayHave_75 (by decide) ?_
        have e_16 := Option.some.inj hf
        subst e_16
        exact wd_zret hx hb hr rfl hlocks hw dX2_mayHave_76
      · replace hf := if_t c_15 hf
        refine lv_aload_n hx hb dX2_mayHave_58 rfl (lv_at hl 2 rfl) ?_
        refine lv_iload_n hx hb dX2_mayHave_59 rfl (lv_at hl 3 rfl) ?_
        refine lv_iload_n hx hb dX2_mayHave_60 rfl (lv_at hl 5 rfl) ?_
        refine lv_aload hx hb dX2_mayHave_61 (lv_at hl 1 rfl) ?_
        refine lv_iconst (v := 3) hx hb dX2_mayHave_63 (by decide) ?_
        obtain ⟨h_17, hf⟩ := gd_of hf
        refine x_tald hx hb ha hG hw ht_10 h_17 dX2_mayHave_64 ?_
        obtain ⟨r_19, h_18, hf⟩ := bind_of hf
        refine cV (As := [.int p1, .int p3, .int (gT S r_9 (3 : Int32).toNatClampNeg)]) (rest := []) ⟨hx, hb, hml, hown, hts⟩ hG hA hw (c_X2_keepsToMost G l a ha R S p1 p3 (gT S r_9 (3 : Int32).toNatClampNeg) r_19 h_18) (cwV 3 hts gX2_mayHave_X2_keepsToMost rfl rfl rfl (by decide +kernel) ⟨Nat.le_of_ble_eq_true rfl, Nat.le_of_ble_eq_true rfl⟩) (va_recv hG.1 hw.1 (ci := 2) (q0 := 4) rfl rfl) rfl hl.1 rfl (Nat.le_of_ble_eq_true rfl) dX2_mayHave_65 ⟨Nat.zero_le _, Nat.zero_le _⟩ (fun H locs hw => ?_)
        refine lv_if_eq (tgt := 75) hx hb dX2_mayHave_68 (by decide) (fun c_20 => ?_) (fun c_20 => ?_)
        · replace hf := if_t c_20 hf
          refine lv_iconst (v := 0) hx hb dX2_mayHave_75 (by decide) ?_
          have e_21 := Option.some.inj hf
          subst e_21
          exact wd_zret hx hb hr rfl hlocks hw dX2_mayHave_76
        · replace hf := if_f c_20 hf
          refine lv_iconst (v := 1) hx hb dX2_mayHave_71 (by decide) ?_
          refine lv_goto (tgt := 76) hx hb dX2_mayHave_72 (by decide) ?_
          have e_22 := Option.some.inj hf
          subst e_22
          exact wd_zret hx hb hr rfl hlocks hw dX2_mayHave_76
    · replace hf := if_t c_7 hf
      refine lv_iconst (v := 0) hx hb dX2_mayHave_24 (by decide) ?_
      have e_23 := Option.some.inj hf
      subst e_23
      exact wd_zret hx hb hr rfl hlocks hw dX2_mayHave_25
/-! DutyDesk$Nights.leastLoaded(II)I -/
def rm_X2_leastLoaded : Room := { frames := 4, cells := 0, slots := 0, locals := 98 }
def f_X2_leastLoaded_J38 (S : St) (p1 : Int32) (p2 : Int32) (y_3 : Int32) (y_4 : Int32) : Option ((Int32 × Int32) ⊕ (Int32)) :=
  (f_X2_mayHave S y_4 p1 p2).bind (fun r_6 => (if r_6 = 0 then
    bnd (y_4 + 1) fun x_8 => some (.inl (y_3, x_8))
  else
    bnd (y_4 + 1) fun x_10 => some (.inl (y_4, x_10))))
def f_X2_leastLoaded_L5 (S : St) (p1 : Int32) (p2 : Int32) : (Int32 × Int32) → Option ((Int32 × Int32) ⊕ (Int32))
  | (v_1, v_2) =>
  (if (gI S 11) ≤ v_2 then
    some (.inr (v_1))
  else
    (if v_1 = (-1) then
    f_X2_leastLoaded_J38 S p1 p2 v_1 v_2
  else
    gd v_2 24 (gd v_1 24 ((if (gM S 19 v_1.toNatClampNeg) ≤ (gM S 19 v_2.toNatClampNeg) then
    bnd (v_2 + 1) fun x_19 => some (.inl (v_1, x_19))
  else
    f_X2_leastLoaded_J38 S p1 p2 v_1 v_2)))))
def f_X2_leastLoaded (S : St) (p1 : Int32) (p2 : Int32) : Option (Int32) :=
  loopF (f_X2_leastLoaded_L5 S p1 p2) FU ((-1), 0)
set_option maxHeartbeats 4000000 in
set_option maxRecDepth 100000 in
theorem c_X2_leastLoaded (G : GP) (l : Launch) (a : Nat → Nat) (ha : a 45 = G.2.2.1) (R : va_W) (S : St) (p1 : Int32) (p2 : Int32) (r0 : Int32) (hf : f_X2_leastLoaded S p1 p2 = some r0) : MC G l yX2_leastLoaded wsX2_leastLoaded rm_X2_leastLoaded [.ref (a 4), .int p1, .int p2] (xw G.2.1 a R S) (xw G.2.1 a R S) (some (.int r0)) 0 0 := by
  refine MC.mk (cc := cX2_leastLoaded) (maxL := 5) (ret := (some .int)) (by decide) rfl (Nat.le_of_ble_eq_true rfl) ?_
  intro p e s m below meth c A ls ⟨hx, hb, hr, hml, hown, hlocks, _, hts⟩ hw hG hA hl
  have hl : lv_has ls 5 [(0, .ref (a 4)), (1, .int p1), (2, .int p2)] := hl
  have hin2 : ∀ w ∈ u_ws RX2 TX2 6, w ∈ wsX2_leastLoaded := by decide +kernel
  have hin3 : ∀ w ∈ u_ws RX3 TX3 8, w ∈ wsX2_leastLoaded := by decide +kernel
  rw [f_X2_leastLoaded] at hf
  refine lv_iconst (v := (-1)) hx hb dX2_leastLoaded_0 (by decide) ?_
  refine lv_istore_n (lv' := [(3, .int (-1)), (0, .ref (a 4)), (1, .int p1), (2, .int p2)]) hx hb dX2_leastLoaded_1 rfl hl (by decide) rfl (fun ls hl => ?_)
  refine lv_iconst (v := 0) hx hb dX2_leastLoaded_2 (by decide) ?_
  refine lv_istore (lv' := [(4, .int 0), (3, .int (-1)), (0, .ref (a 4)), (1, .int p1), (2, .int p2)]) hx hb dX2_leastLoaded_3 hl (by decide) rfl (fun ls hl => ?_)
  refine loopF_ind (body := f_X2_leastLoaded_L5 S p1 p2) (fun (q : Int32 × Int32) => match q with | (v_1, v_2) => ∀ (H : Heap) (locs : List Loc) (ls : Array Slot), Wd G A s H locs (xw G.2.1 a R S) → lv_has ls 5 [(0, .ref (a 4)), (1, .int p1), (2, .int p2), (3, .int v_1), (4, .int v_2)] → WQ p l e rm_X2_leastLoaded s m [.ref (a 4), .int p1, .int p2] below meth c G A (xw G.2.1 a R S) (some (.int r0)) 0 0 H locs 0 0 (F0 m 5 ls [])) ?_ FU ((-1), 0) hf _ _ _ hw (lv_sub hl [2, 3, 4, 1, 0] rfl)
  clear hf hw hl
  intro ⟨v_1, v_2⟩ t0_5 hf hz1_0_5 hz2_0_5 H locs ls hw hl
  rw [f_X2_leastLoaded_L5] at hf
  have j38 : ∀ (y_3 : Int32) (y_4 : Int32) (H : Heap) (locs : List Loc) (ls : Array Slot), f_X2_leastLoaded_J38 S p1 p2 y_3 y_4 = some t0_5 → Wd G A s H locs (xw G.2.1 a R S) → lv_has ls 5 [(0, .ref (a 4)), (1, .int p1), (2, .int p2), (3, .int y_3), (4, .int y_4)] → WQ p l e rm_X2_leastLoaded s m [.ref (a 4), .int p1, .int p2] below meth c G A (xw G.2.1 a R S) (some (.int r0)) 0 0 H locs 0 0 (F0 m 38 ls []) := by
    intro y_3 y_4 H locs ls hf hw hl
    rw [f_X2_leastLoaded_J38] at hf
    refine lv_aload_n hx hb dX2_leastLoaded_38 rfl (lv_at hl 0 rfl) ?_
    refine lv_iload hx hb dX2_leastLoaded_39 (lv_at hl 4 rfl) ?_
    refine lv_iload_n hx hb dX2_leastLoaded_41 rfl (lv_at hl 1 rfl) ?_
    refine lv_iload_n hx hb dX2_leastLoaded_42 rfl (lv_at hl 2 rfl) ?_
    obtain ⟨r_6, h_5, hf⟩ := bind_of hf
    refine cV (As := [.int y_4, .int p1, .int p2]) (rest := []) ⟨hx, hb, hml, hown, hts⟩ hG hA hw (c_X2_mayHave G l a ha R S y_4 p1 p2 r_6 h_5) (cwV 3 hts gX2_leastLoaded_X2_mayHave rfl rfl rfl (by decide +kernel) ⟨Nat.le_of_ble_eq_true rfl, Nat.le_of_ble_eq_true rfl⟩) (va_recv hG.1 hw.1 (ci := 2) (q0 := 4) rfl rfl) rfl hl.1 rfl (Nat.le_of_ble_eq_true rfl) dX2_leastLoaded_43 ⟨Nat.zero_le _, Nat.zero_le _⟩ (fun H locs hw => ?_)
    refine lv_if_eq (tgt := 52) hx hb dX2_leastLoaded_46 (by decide) (fun c_7 => ?_) (fun c_7 => ?_)
    · replace hf := if_t c_7 hf
      obtain ⟨x_8, ex_8⟩ : ∃ z : Int32, z = y_4 + 1 := ⟨_, rfl⟩
      replace hf := bnd_of ex_8 hf
      refine lv_iinc (v := x_8) (lv' := [(4, .int x_8), (0, .ref (a 4)), (1, .int p1), (2, .int p2), (3, .int y_3)]) hx hb dX2_leastLoaded_52 hl (k := 4) rfl (by rw [ex_8]; rfl) (by decide) rfl (fun ls hl => ?_)
      refine lv_goto (tgt := 5) hx hb dX2_leastLoaded_55 (by decide) ?_
      have e_9 := Option.some.inj hf
      exact hz1_0_5 _ e_9.symm _ _ _ hw (lv_sub hl [1, 2, 3, 4, 0] rfl)
    · replace hf := if_f c_7 hf
      refine lv_iload hx hb dX2_leastLoaded_49 (lv_at hl 4 rfl) ?_
      refine lv_istore_n (lv' := [(3, .int y_4), (0, .ref (a 4)), (1, .int p1), (2, .int p2), (4, .int y_4)]) hx hb dX2_leastLoaded_51 rfl hl (by decide) rfl (fun ls hl => ?_)
      obtain ⟨x_10, ex_10⟩ : ∃ z : Int32, z = y_4 + 1 := ⟨_, rfl⟩
      replace hf := bnd_of ex_10 hf
      refine lv_iinc (v := x_10) (lv' := [(4, .int x_10), (3, .int y_4), (0, .ref (a 4)), (1, .int p1), (2, .int p2)]) hx hb dX2_leastLoaded_52 hl (k := 4) rfl (by rw [ex_10]; rfl) (by decide) rfl (fun ls hl => ?_)
      refine lv_goto (tgt := 5) hx hb dX2_leastLoaded_55 (by decide) ?_
      have e_11 := Option.some.inj hf
      exact hz1_0_5 _ e_11.symm _ _ _ hw (lv_sub hl [2, 3, 4, 1, 0] rfl)
  refine lv_iload hx hb dX2_leastLoaded_5 (lv_at hl 4 rfl) ?_
  refine lv_aload_n hx hb dX2_leastLoaded_7 rfl (lv_at hl 0 rfl) ?_
  refine va_get (D := G.1) (ci := 2) (v := .ref (a 3)) (C := RX2) (T := TX2) (N := 6) hx hb hts hin2 hown hG.1 hw.1 4 rfl rfl 0 (by decide) (hts (.fieldLink RX2 24 "DutyDesk$Nights" "people" "LDutyDesk$People;") (List.mem_of_getElem? (i := 1) rfl)) (fun _ h9 => h9) rfl dX2_leastLoaded_8 ?_
  refine va_getN (D := G.1) (ci := 3) (v := .int (gI S 11)) (C := RX3) (T := TX3) (N := 8) (host := "DutyDesk") hx hb hts hin3 hown hG.1 hw.1 3 rfl rfl 7 (by decide) (va_Nw.use rfl (hG.2.1 (.fieldLinkNest "DutyDesk$Nights" 73 "DutyDesk$People" "size" "I" "DutyDesk") (List.mem_of_getElem? (i := 15) rfl))) (fun _ h9 => h9) rfl dX2_leastLoaded_11 ?_
  refine lv_icmp_ge (tgt := 58) hx hb dX2_leastLoaded_14 (by decide) (fun c_12 => ?_) (fun c_12 => ?_)
  · replace hf := if_t c_12 hf
    refine lv_iload_n hx hb dX2_leastLoaded_58 rfl (lv_at hl 3 rfl) ?_
    have e_13 := Option.some.inj hf
    have e_14 := hz2_0_5 _ e_13.symm
    subst e_14
    exact wd_iret hx hb hr hlocks hw dX2_leastLoaded_59
  · replace hf := if_f c_12 hf
    refine lv_iload_n hx hb dX2_leastLoaded_17 rfl (lv_at hl 3 rfl) ?_
    refine lv_iconst (v := (-1)) hx hb dX2_leastLoaded_18 (by decide) ?_
    refine lv_icmp_eq (tgt := 38) hx hb dX2_leastLoaded_19 (by decide) (fun c_15 => ?_) (fun c_15 => ?_)
    · replace hf := if_t c_15 hf
      exact j38 v_1 v_2 _ _ _ hf hw (lv_sub hl [0, 1, 2, 3, 4] rfl)
    · replace hf := if_f c_15 hf
      refine lv_aload_n hx hb dX2_leastLoaded_22 rfl (lv_at hl 0 rfl) ?_
      refine va_get (D := G.1) (ci := 2) (v := .ref (a 19)) (C := RX2) (T := TX2) (N := 6) hx hb hts hin2 hown hG.1 hw.1 4 rfl rfl 4 (by decide) (hts (.fieldLink RX2 18 "DutyDesk$Nights" "duties" "[I") (List.mem_of_getElem? (i := 2) rfl)) (fun _ h9 => h9) rfl dX2_leastLoaded_23 ?_
      refine lv_iload hx hb dX2_leastLoaded_26 (lv_at hl 4 rfl) ?_
      obtain ⟨h_16, hf⟩ := gd_of hf
      refine va_iald hx hb hG.1 hw.1 19 1 (xw_atM (k := 19) rfl) rfl h_16 dX2_leastLoaded_28 ?_
      refine lv_aload_n hx hb dX2_leastLoaded_29 rfl (lv_at hl 0 rfl) ?_
      refine va_get (D := G.1) (ci := 2) (v := .ref (a 19)) (C := RX2) (T := TX2) (N := 6) hx hb hts hin2 hown hG.1 hw.1 4 rfl rfl 4 (by decide) (hts (.fieldLink RX2 18 "DutyDesk$Nights" "duties" "[I") (List.mem_of_getElem? (i := 2) rfl)) (fun _ h9 => h9) rfl dX2_leastLoaded_30 ?_
      refine lv_iload_n hx hb dX2_leastLoaded_33 rfl (lv_at hl 3 rfl) ?_
      obtain ⟨h_17, hf⟩ := gd_of hf
      refine va_iald hx hb hG.1 hw.1 19 1 (xw_atM (k := 19) rfl) rfl h_17 dX2_leastLoaded_34 ?_
      refine lv_icmp_ge (tgt := 52) hx hb dX2_leastLoaded_35 (by decide) (fun c_18 => ?_) (fun c_18 => ?_)
      · replace hf := if_t c_18 hf
        obtain ⟨x_19, ex_19⟩ : ∃ z : Int32, z = v_2 + 1 := ⟨_, rfl⟩
        replace hf := bnd_of ex_19 hf
        refine lv_iinc (v := x_19) (lv' := [(4, .int x_19), (0, .ref (a 4)), (1, .int p1), (2, .int p2), (3, .int v_1)]) hx hb dX2_leastLoaded_52 hl (k := 4) rfl (by rw [ex_19]; rfl) (by decide) rfl (fun ls hl => ?_)
        refine lv_goto (tgt := 5) hx hb dX2_leastLoaded_55 (by decide) ?_
        have e_20 := Option.some.inj hf
        exact hz1_0_5 _ e_20.symm _ _ _ hw (lv_sub hl [1, 2, 3, 4, 0] rfl)
      · replace hf := if_f c_18 hf
        exact j38 v_1 v_2 _ _ _ hf hw (lv_sub hl [0, 1, 2, 3, 4] rfl)
/-! DutyDesk$Nights.passOnNight(II)V -/
def rm_X2_passOnNight : Room := { frames := 5, cells := 0, slots := 0, locals := 122 }
def f_X2_passOnNight_L2 (p1 : Int32) (p2 : Int32) : (Int32 × St) → Option ((Int32 × St) ⊕ (St))
  | (v_1, S_2) =>
  (if 6 ≤ v_1 then
    some (.inr (S_2))
  else
    (f_X2_holder S_2 v_1 p2).bind (fun r_7 => (if r_7 = p1 then
    (f_X2_put S_2 v_1 p2 (-1)).bind (fun S_12 => (f_X2_leastLoaded S_12 v_1 p2).bind (fun r_14 => (f_X2_put S_12 v_1 p2 r_14).bind (fun S_16 => bnd (v_1 + 1) fun x_17 => some (.inl (x_17, S_16)))))
  else
    bnd (v_1 + 1) fun x_9 => some (.inl (x_9, S_2)))))
def f_X2_passOnNight (S : St) (p1 : Int32) (p2 : Int32) : Option (St) :=
  loopF (f_X2_passOnNight_L2 p1 p2) FU (0, S)
set_option maxHeartbeats 4000000 in
set_option maxRecDepth 100000 in
theorem c_X2_passOnNight (G : GP) (l : Launch) (a : Nat → Nat) (ha : a 45 = G.2.2.1) (R : va_W) (S : St) (p1 : Int32) (p2 : Int32) (S9 : St) (hf : f_X2_passOnNight S p1 p2 = some S9) : MC G l yX2_passOnNight wsX2_passOnNight rm_X2_passOnNight [.ref (a 4), .int p1, .int p2] (xw G.2.1 a R S) (xw G.2.1 a R S9) none 0 0 := by
  refine MC.mk (cc := cX2_passOnNight) (maxL := 4) (ret := none) (by decide) rfl (Nat.le_of_ble_eq_true rfl) ?_
  intro p e s m below meth c A ls ⟨hx, hb, hr, hml, hown, hlocks, _, hts⟩ hw hG hA hl
  have hl : lv_has ls 4 [(0, .ref (a 4)), (1, .int p1), (2, .int p2)] := hl
  rw [f_X2_passOnNight] at hf
  refine lv_iconst (v := 0) hx hb dX2_passOnNight_0 (by decide) ?_
  refine lv_istore_n (lv' := [(3, .int 0), (0, .ref (a 4)), (1, .int p1), (2, .int p2)]) hx hb dX2_passOnNight_1 rfl hl (by decide) rfl (fun ls hl => ?_)
  refine loopF_ind (body := f_X2_passOnNight_L2 p1 p2) (fun (q : Int32 × St) => match q with | (v_1, S_2) => ∀ (H : Heap) (locs : List Loc) (ls : Array Slot), Wd G A s H locs (xw G.2.1 a R S_2) → lv_has ls 4 [(0, .ref (a 4)), (1, .int p1), (2, .int p2), (3, .int v_1)] → WQ p l e rm_X2_passOnNight s m [.ref (a 4), .int p1, .int p2] below meth c G A (xw G.2.1 a R S9) none 0 0 H locs 0 0 (F0 m 2 ls [])) ?_ FU (0, S) hf _ _ _ hw (lv_sub hl [1, 2, 3, 0] rfl)
  clear hf hw hl
  intro ⟨v_1, S_2⟩ t0_2 hf hz1_0_2 hz2_0_2 H locs ls hw hl
  rw [f_X2_passOnNight_L2] at hf
  refine lv_iload_n hx hb dX2_passOnNight_2 rfl (lv_at hl 3 rfl) ?_
  refine lv_bipush (v := 6) hx hb dX2_passOnNight_3 (by decide) ?_
  refine lv_icmp_ge (tgt := 43) hx hb dX2_passOnNight_5 (by decide) (fun c_3 => ?_) (fun c_3 => ?_)
  · replace hf := if_t c_3 hf
    have e_4 := Option.some.inj hf
    have e_5 := hz2_0_2 _ e_4.symm
    subst e_5
    exact wd_vret hx hb hr hlocks hw dX2_passOnNight_43
  · replace hf := if_f c_3 hf
    refine lv_aload_n hx hb dX2_passOnNight_8 rfl (lv_at hl 0 rfl) ?_
    refine lv_iload_n hx hb dX2_passOnNight_9 rfl (lv_at hl 3 rfl) ?_
    refine lv_iload_n hx hb dX2_passOnNight_10 rfl (lv_at hl 2 rfl) ?_
    obtain ⟨r_7, h_6, hf⟩ := bind_of hf
    refine cV (As := [.int v_1, .int p2]) (rest := []) ⟨hx, hb, hml, hown, hts⟩ hG hA hw (c_X2_holder G l a ha R S_2 v_1 p2 r_7 h_6) (cwV 2 hts gX2_passOnNight_X2_holder rfl rfl rfl (by decide +kernel) ⟨Nat.le_of_ble_eq_true rfl, Nat.le_of_ble_eq_true rfl⟩) (va_recv hG.1 hw.1 (ci := 2) (q0 := 4) rfl rfl) rfl hl.1 rfl (Nat.le_of_ble_eq_true rfl) dX2_passOnNight_11 ⟨Nat.zero_le _, Nat.zero_le _⟩ (fun H locs hw => ?_)
    refine lv_iload_n hx hb dX2_passOnNight_14 rfl (lv_at hl 1 rfl) ?_
    refine lv_icmp_ne (tgt := 37) hx hb dX2_passOnNight_15 (by decide) (fun c_8 => ?_) (fun c_8 => ?_)
    · replace hf := if_f c_8 hf
      obtain ⟨x_9, ex_9⟩ : ∃ z : Int32, z = v_1 + 1 := ⟨_, rfl⟩
      replace hf := bnd_of ex_9 hf
      refine lv_iinc (v := x_9) (lv' := [(3, .int x_9), (0, .ref (a 4)), (1, .int p1), (2, .int p2)]) hx hb dX2_passOnNight_37 hl (k := 3) rfl (by rw [ex_9]; rfl) (by decide) rfl (fun ls hl => ?_)
      refine lv_goto (tgt := 2) hx hb dX2_passOnNight_40 (by decide) ?_
      have e_10 := Option.some.inj hf
      exact hz1_0_2 _ e_10.symm _ _ _ hw (lv_sub hl [1, 2, 3, 0] rfl)
    · replace hf := if_t c_8 hf
      refine lv_aload_n hx hb dX2_passOnNight_18 rfl (lv_at hl 0 rfl) ?_
      refine lv_iload_n hx hb dX2_passOnNight_19 rfl (lv_at hl 3 rfl) ?_
      refine lv_iload_n hx hb dX2_passOnNight_20 rfl (lv_at hl 2 rfl) ?_
      refine lv_iconst (v := (-1)) hx hb dX2_passOnNight_21 (by decide) ?_
      obtain ⟨S_12, h_11, hf⟩ := bind_of hf
      refine cV (As := [.int v_1, .int p2, .int (-1)]) (rest := []) ⟨hx, hb, hml, hown, hts⟩ hG hA hw (c_X2_put G l a ha R S_2 v_1 p2 (-1) S_12 h_11) (cwV 3 hts gX2_passOnNight_X2_put rfl rfl rfl (by decide +kernel) ⟨Nat.le_of_ble_eq_true rfl, Nat.le_of_ble_eq_true rfl⟩) (va_recv hG.1 hw.1 (ci := 2) (q0 := 4) rfl rfl) rfl hl.1 rfl (Nat.le_of_ble_eq_true rfl) dX2_passOnNight_22 ⟨Nat.zero_le _, Nat.zero_le _⟩ (fun H locs hw => ?_)
      refine lv_aload_n hx hb dX2_passOnNight_25 rfl (lv_at hl 0 rfl) ?_
      refine lv_iload_n hx hb dX2_passOnNight_26 rfl (lv_at hl 3 rfl) ?_
      refine lv_iload_n hx hb dX2_passOnNight_27 rfl (lv_at hl 2 rfl) ?_
      refine lv_aload_n hx hb dX2_passOnNight_28 rfl (lv_at hl 0 rfl) ?_
      refine lv_iload_n hx hb dX2_passOnNight_29 rfl (lv_at hl 3 rfl) ?_
      refine lv_iload_n hx hb dX2_passOnNight_30 rfl (lv_at hl 2 rfl) ?_
      obtain ⟨r_14, h_13, hf⟩ := bind_of hf
      refine cV (As := [.int v_1, .int p2]) (rest := [.int p2, .int v_1, .ref (a 4)]) ⟨hx, hb, hml, hown, hts⟩ hG hA hw (c_X2_leastLoaded G l a ha R S_12 v_1 p2 r_14 h_13) (cwV 2 hts gX2_passOnNight_X2_leastLoaded rfl rfl rfl (by decide +kernel) ⟨Nat.le_of_ble_eq_true rfl, Nat.le_of_ble_eq_true rfl⟩) (va_recv hG.1 hw.1 (ci := 2) (q0 := 4) rfl rfl) rfl hl.1 rfl (Nat.le_of_ble_eq_true rfl) dX2_passOnNight_31 ⟨Nat.zero_le _, Nat.zero_le _⟩ (fun H locs hw => ?_)
      obtain ⟨S_16, h_15, hf⟩ := bind_of hf
      refine cV (As := [.int v_1, .int p2, .int r_14]) (rest := []) ⟨hx, hb, hml, hown, hts⟩ hG hA hw (c_X2_put G l a ha R S_12 v_1 p2 r_14 S_16 h_15) (cwV 3 hts gX2_passOnNight_X2_put rfl rfl rfl (by decide +kernel) ⟨Nat.le_of_ble_eq_true rfl, Nat.le_of_ble_eq_true rfl⟩) (va_recv hG.1 hw.1 (ci := 2) (q0 := 4) rfl rfl) rfl hl.1 rfl (Nat.le_of_ble_eq_true rfl) dX2_passOnNight_34 ⟨Nat.zero_le _, Nat.zero_le _⟩ (fun H locs hw => ?_)
      obtain ⟨x_17, ex_17⟩ : ∃ z : Int32, z = v_1 + 1 := ⟨_, rfl⟩
      replace hf := bnd_of ex_17 hf
      refine lv_iinc (v := x_17) (lv' := [(3, .int x_17), (0, .ref (a 4)), (1, .int p1), (2, .int p2)]) hx hb dX2_passOnNight_37 hl (k := 3) rfl (by rw [ex_17]; rfl) (by decide) rfl (fun ls hl => ?_)
      refine lv_goto (tgt := 2) hx hb dX2_passOnNight_40 (by decide) ?_
      have e_18 := Option.some.inj hf
      exact hz1_0_2 _ e_18.symm _ _ _ hw (lv_sub hl [1, 2, 3, 0] rfl)
/-! DutyDesk$Nights.passOn(II)I -/
def rm_X2_passOn : Room := { frames := 6, cells := 0, slots := 0, locals := 145 }
def f_X2_passOn_L5 (p1 : Int32) : (Int32 × Int32 × St) → Option ((Int32 × Int32 × St) ⊕ (Int32 × St))
  | (v_1, v_2, S_3) =>
  (if 1000 ≤ v_2 then
    some (.inr ((v_1, S_3)))
  else
    (f_X2_busyOn S_3 p1 v_2).bind (fun r_8 => (if r_8 = 1 then
    (f_X2_passOnNight S_3 p1 v_2).bind (fun S_13 => bnd (v_1 + 1) fun x_14 => bnd (v_2 + 1) fun x_15 => some (.inl (x_14, x_15, S_13)))
  else
    bnd (v_2 + 1) fun x_10 => some (.inl (v_1, x_10, S_3)))))
def f_X2_passOn (S : St) (p1 : Int32) (p2 : Int32) : Option (Int32 × St) :=
  loopF (f_X2_passOn_L5 p1) FU (0, p2, S)
set_option maxHeartbeats 4000000 in
set_option maxRecDepth 100000 in
theorem c_X2_passOn (G : GP) (l : Launch) (a : Nat → Nat) (ha : a 45 = G.2.2.1) (R : va_W) (S : St) (p1 : Int32) (p2 : Int32) (r0 : Int32) (S9 : St) (hf : f_X2_passOn S p1 p2 = some (r0, S9)) : MC G l yX2_passOn wsX2_passOn rm_X2_passOn [.ref (a 4), .int p1, .int p2] (xw G.2.1 a R S) (xw G.2.1 a R S9) (some (.int r0)) 0 0 := by
  refine MC.mk (cc := cX2_passOn) (maxL := 5) (ret := (some .int)) (by decide) rfl (Nat.le_of_ble_eq_true rfl) ?_
  intro p e s m below meth c A ls ⟨hx, hb, hr, hml, hown, hlocks, _, hts⟩ hw hG hA hl
  have hl : lv_has ls 5 [(0, .ref (a 4)), (1, .int p1), (2, .int p2)] := hl
  rw [f_X2_passOn] at hf
  refine lv_iconst (v := 0) hx hb dX2_passOn_0 (by decide) ?_
  refine lv_istore_n (lv' := [(3, .int 0), (0, .ref (a 4)), (1, .int p1), (2, .int p2)]) hx hb dX2_passOn_1 rfl hl (by decide) rfl (fun ls hl => ?_)
  refine lv_iload_n hx hb dX2_passOn_2 rfl (lv_at hl 3 rfl) ?_
  refine lv_istore (lv' := [(4, .int p2), (3, .int 0), (0, .ref (a 4)), (1, .int p1), (2, .int p2)]) hx hb dX2_passOn_3 hl (by decide) rfl (fun ls hl => ?_)
  refine loopF_ind (body := f_X2_passOn_L5 p1) (fun (q : Int32 × Int32 × St) => match q with | (v_1, v_2, S_3) => ∀ (H : Heap) (locs : List Loc) (ls : Array Slot), Wd G A s H locs (xw G.2.1 a R S_3) → lv_has ls 5 [(0, .ref (a 4)), (1, .int p1), (3, .int v_1), (4, .int v_2)] → WQ p l e rm_X2_passOn s m [.ref (a 4), .int p1, .int p2] below meth c G A (xw G.2.1 a R S9) (some (.int r0)) 0 0 H locs 0 0 (F0 m 5 ls [])) ?_ FU (0, p2, S) hf _ _ _ hw (lv_sub hl [2, 3, 1, 0] rfl)
  clear hf hw hl
  intro ⟨v_1, v_2, S_3⟩ t0_5 hf hz1_0_5 hz2_0_5 H locs ls hw hl
  rw [f_X2_passOn_L5] at hf
  refine lv_iload hx hb dX2_passOn_5 (lv_at hl 3 rfl) ?_
  refine lv_sipush (v := 1000) hx hb dX2_passOn_7 (by decide) ?_
  refine lv_icmp_ge (tgt := 40) hx hb dX2_passOn_10 (by decide) (fun c_4 => ?_) (fun c_4 => ?_)
  · replace hf := if_t c_4 hf
    refine lv_iload_n hx hb dX2_passOn_40 rfl (lv_at hl 2 rfl) ?_
    have e_5 := Option.some.inj hf
    have e_6 := hz2_0_5 _ e_5.symm
    obtain ⟨rfl, rfl⟩ := Prod.mk.inj e_6
    exact wd_iret hx hb hr hlocks hw dX2_passOn_41
  · replace hf := if_f c_4 hf
    refine lv_aload_n hx hb dX2_passOn_13 rfl (lv_at hl 0 rfl) ?_
    refine lv_iload_n hx hb dX2_passOn_14 rfl (lv_at hl 1 rfl) ?_
    refine lv_iload hx hb dX2_passOn_15 (lv_at hl 3 rfl) ?_
    obtain ⟨r_8, h_7, hf⟩ := bind_of hf
    refine cV (As := [.int p1, .int v_2]) (rest := []) ⟨hx, hb, hml, hown, hts⟩ hG hA hw (c_X2_busyOn G l a ha R S_3 p1 v_2 r_8 h_7) (cwV 2 hts gX2_passOn_X2_busyOn rfl rfl rfl (by decide +kernel) ⟨Nat.le_of_ble_eq_true rfl, Nat.le_of_ble_eq_true rfl⟩) (va_recv hG.1 hw.1 (ci := 2) (q0 := 4) rfl rfl) rfl hl.1 rfl (Nat.le_of_ble_eq_true rfl) dX2_passOn_17 ⟨Nat.zero_le _, Nat.zero_le _⟩ (fun H locs hw => ?_)
    refine lv_iconst (v := 1) hx hb dX2_passOn_20 (by decide) ?_
    refine lv_icmp_ne (tgt := 34) hx hb dX2_passOn_21 (by decide) (fun c_9 => ?_) (fun c_9 => ?_)
    · replace hf := if_f c_9 hf
      obtain ⟨x_10, ex_10⟩ : ∃ z : Int32, z = v_2 + 1 := ⟨_, rfl⟩
      replace hf := bnd_of ex_10 hf
      refine lv_iinc (v := x_10) (lv' := [(4, .int x_10), (0, .ref (a 4)), (1, .int p1), (3, .int v_1)]) hx hb dX2_passOn_34 hl (k := 3) rfl (by rw [ex_10]; rfl) (by decide) rfl (fun ls hl => ?_)
      refine lv_goto (tgt := 5) hx hb dX2_passOn_37 (by decide) ?_
      have e_11 := Option.some.inj hf
      exact hz1_0_5 _ e_11.symm _ _ _ hw (lv_sub hl [1, 2, 3, 0] rfl)
    · replace hf := if_t c_9 hf
      refine lv_aload_n hx hb dX2_passOn_24 rfl (lv_at hl 0 rfl) ?_
      refine lv_iload_n hx hb dX2_passOn_25 rfl (lv_at hl 1 rfl) ?_
      refine lv_iload hx hb dX2_passOn_26 (lv_at hl 3 rfl) ?_
      obtain ⟨S_13, h_12, hf⟩ := bind_of hf
      refine cV (As := [.int p1, .int v_2]) (rest := []) ⟨hx, hb, hml, hown, hts⟩ hG hA hw (c_X2_passOnNight G l a ha R S_3 p1 v_2 S_13 h_12) (cwV 2 hts gX2_passOn_X2_passOnNight rfl rfl rfl (by decide +kernel) ⟨Nat.le_of_ble_eq_true rfl, Nat.le_of_ble_eq_true rfl⟩) (va_recv hG.1 hw.1 (ci := 2) (q0 := 4) rfl rfl) rfl hl.1 rfl (Nat.le_of_ble_eq_true rfl) dX2_passOn_28 ⟨Nat.zero_le _, Nat.zero_le _⟩ (fun H locs hw => ?_)
      obtain ⟨x_14, ex_14⟩ : ∃ z : Int32, z = v_1 + 1 := ⟨_, rfl⟩
      replace hf := bnd_of ex_14 hf
      refine lv_iinc (v := x_14) (lv' := [(3, .int x_14), (0, .ref (a 4)), (1, .int p1), (4, .int v_2)]) hx hb dX2_passOn_31 hl (k := 2) rfl (by rw [ex_14]; rfl) (by decide) rfl (fun ls hl => ?_)
      obtain ⟨x_15, ex_15⟩ : ∃ z : Int32, z = v_2 + 1 := ⟨_, rfl⟩
      replace hf := bnd_of ex_15 hf
      refine lv_iinc (v := x_15) (lv' := [(4, .int x_15), (3, .int x_14), (0, .ref (a 4)), (1, .int p1)]) hx hb dX2_passOn_34 hl (k := 3) rfl (by rw [ex_15]; rfl) (by decide) rfl (fun ls hl => ?_)
      refine lv_goto (tgt := 5) hx hb dX2_passOn_37 (by decide) ?_
      have e_16 := Option.some.inj hf
      exact hz1_0_5 _ e_16.symm _ _ _ hw (lv_sub hl [2, 3, 1, 0] rfl)
/-! DutyDesk$Nights.allDuties()I -/
def rm_X2_allDuties : Room := { frames := 0, cells := 0, slots := 0, locals := 0 }
def f_X2_allDuties_L4 (S : St) : (Int32 × Int32) → Option ((Int32 × Int32) ⊕ (Int32))
  | (v_1, v_2) =>
  (if (gI S 11) ≤ v_2 then
    some (.inr (v_1))
  else
    gd v_2 24 (bnd (v_1 + (gM S 19 v_2.toNatClampNeg)) fun x_7 => bnd (v_2 + 1) fun x_8 => some (.inl (x_7, x_8))))
def f_X2_allDuties (S : St) : Option (Int32) :=
  loopF (f_X2_allDuties_L4 S) FU (0, 0)
set_option maxHeartbeats 4000000 in
set_option maxRecDepth 100000 in
theorem c_X2_allDuties (G : GP) (l : Launch) (a : Nat → Nat) (ha : a 45 = G.2.2.1) (R : va_W) (S : St) (r0 : Int32) (hf : f_X2_allDuties S = some r0) : MC G l yX2_allDuties wsX2_allDuties rm_X2_allDuties [.ref (a 4)] (xw G.2.1 a R S) (xw G.2.1 a R S) (some (.int r0)) 0 0 := by
  refine MC.mk (cc := cX2_allDuties) (maxL := 3) (ret := (some .int)) (by decide) rfl (Nat.le_of_ble_eq_true rfl) ?_
  intro p e s m below meth c A ls ⟨hx, hb, hr, hml, hown, hlocks, _, hts⟩ hw hG hA hl
  have hl : lv_has ls 3 [(0, .ref (a 4))] := hl
  have hin2 : ∀ w ∈ u_ws RX2 TX2 6, w ∈ wsX2_allDuties := by decide +kernel
  have hin3 : ∀ w ∈ u_ws RX3 TX3 8, w ∈ wsX2_allDuties := by decide +kernel
  rw [f_X2_allDuties] at hf
  refine lv_iconst (v := 0) hx hb dX2_allDuties_0 (by decide) ?_
  refine lv_istore_n (lv' := [(1, .int 0), (0, .ref (a 4))]) hx hb dX2_allDuties_1 rfl hl (by decide) rfl (fun ls hl => ?_)
  refine lv_iconst (v := 0) hx hb dX2_allDuties_2 (by decide) ?_
  refine lv_istore_n (lv' := [(2, .int 0), (1, .int 0), (0, .ref (a 4))]) hx hb dX2_allDuties_3 rfl hl (by decide) rfl (fun ls hl => ?_)
  refine loopF_ind (body := f_X2_allDuties_L4 S) (fun (q : Int32 × Int32) => match q with | (v_1, v_2) => ∀ (H : Heap) (locs : List Loc) (ls : Array Slot), Wd G A s H locs (xw G.2.1 a R S) → lv_has ls 3 [(0, .ref (a 4)), (1, .int v_1), (2, .int v_2)] → WQ p l e rm_X2_allDuties s m [.ref (a 4)] below meth c G A (xw G.2.1 a R S) (some (.int r0)) 0 0 H locs 0 0 (F0 m 4 ls [])) ?_ FU (0, 0) hf _ _ _ hw (lv_sub hl [2, 1, 0] rfl)
  clear hf hw hl
  intro ⟨v_1, v_2⟩ t0_4 hf hz1_0_4 hz2_0_4 H locs ls hw hl
  rw [f_X2_allDuties_L4] at hf
  refine lv_iload_n hx hb dX2_allDuties_4 rfl (lv_at hl 2 rfl) ?_
  refine lv_aload_n hx hb dX2_allDuties_5 rfl (lv_at hl 0 rfl) ?_
  refine va_get (D := G.1) (ci := 2) (v := .ref (a 3)) (C := RX2) (T := TX2) (N := 6) hx hb hts hin2 hown hG.1 hw.1 4 rfl rfl 0 (by decide) (hts (.fieldLink RX2 24 "DutyDesk$Nights" "people" "LDutyDesk$People;") (List.mem_of_getElem? (i := 1) rfl)) (fun _ h9 => h9) rfl dX2_allDuties_6 ?_
  refine va_getN (D := G.1) (ci := 3) (v := .int (gI S 11)) (C := RX3) (T := TX3) (N := 8) (host := "DutyDesk") hx hb hts hin3 hown hG.1 hw.1 3 rfl rfl 7 (by decide) (va_Nw.use rfl (hG.2.1 (.fieldLinkNest "DutyDesk$Nights" 73 "DutyDesk$People" "size" "I" "DutyDesk") (List.mem_of_getElem? (i := 15) rfl))) (fun _ h9 => h9) rfl dX2_allDuties_9 ?_
  refine lv_icmp_ge (tgt := 30) hx hb dX2_allDuties_12 (by decide) (fun c_3 => ?_) (fun c_3 => ?_)
  · replace hf := if_t c_3 hf
    refine lv_iload_n hx hb dX2_allDuties_30 rfl (lv_at hl 1 rfl) ?_
    have e_4 := Option.some.inj hf
    have e_5 := hz2_0_4 _ e_4.symm
    subst e_5
    exact wd_iret hx hb hr hlocks hw dX2_allDuties_31
  · replace hf := if_f c_3 hf
    refine lv_iload_n hx hb dX2_allDuties_15 rfl (lv_at hl 1 rfl) ?_
    refine lv_aload_n hx hb dX2_allDuties_16 rfl (lv_at hl 0 rfl) ?_
    refine va_get (D := G.1) (ci := 2) (v := .ref (a 19)) (C := RX2) (T := TX2) (N := 6) hx hb hts hin2 hown hG.1 hw.1 4 rfl rfl 4 (by decide) (hts (.fieldLink RX2 18 "DutyDesk$Nights" "duties" "[I") (List.mem_of_getElem? (i := 2) rfl)) (fun _ h9 => h9) rfl dX2_allDuties_17 ?_
    refine lv_iload_n hx hb dX2_allDuties_20 rfl (lv_at hl 2 rfl) ?_
    obtain ⟨h_6, hf⟩ := gd_of hf
    refine va_iald hx hb hG.1 hw.1 19 1 (xw_atM (k := 19) rfl) rfl h_6 dX2_allDuties_21 ?_
    refine lv_iadd hx hb dX2_allDuties_22 ?_
    refine lv_topi (fun x_7 ex_7 => ?_)
    replace hf := bnd_of ex_7 hf
    refine lv_istore_n (lv' := [(1, .int x_7), (0, .ref (a 4)), (2, .int v_2)]) hx hb dX2_allDuties_23 rfl hl (by decide) rfl (fun ls hl => ?_)
    obtain ⟨x_8, ex_8⟩ : ∃ z : Int32, z = v_2 + 1 := ⟨_, rfl⟩
    replace hf := bnd_of ex_8 hf
    refine lv_iinc (v := x_8) (lv' := [(2, .int x_8), (1, .int x_7), (0, .ref (a 4))]) hx hb dX2_allDuties_24 hl (k := 2) rfl (by rw [ex_8]; rfl) (by decide) rfl (fun ls hl => ?_)
    refine lv_goto (tgt := 4) hx hb dX2_allDuties_27 (by decide) ?_
    have e_9 := Option.some.inj hf
    exact hz1_0_4 _ e_9.symm _ _ _ hw (lv_sub hl [2, 1, 0] rfl)
