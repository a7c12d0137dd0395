/-! DutyDeskModel.in(III)Z -/
def rm_X8_in : Room := { frames := 0, cells := 0, slots := 0, locals := 0 }
def f_X8_in (p1 : Int32) (p2 : Int32) (p3 : Int32) : Option (Int32) :=
  (if p1 < p2 then
    some (0)
  else
    (if p3 < p1 then
    some (0)
  else
    some (1)))
set_option maxHeartbeats 4000000 in
set_option maxRecDepth 100000 in
theorem c_X8_in (G : GP) (l : Launch) (W0 : va_W) (p1 : Int32) (p2 : Int32) (p3 : Int32) (r0 : Int32) (hf : f_X8_in p1 p2 p3 = some r0) : MC G l yX8_in wsX8_in rm_X8_in [.int p1, .int p2, .int p3] (W0) (W0) (some (.int r0)) 0 0 := by
  refine MC.mk (cc := cX8_in) (maxL := 3) (ret := (some .boolean)) (by decide) rfl (Nat.le_of_ble_eq_true rfl) ?_
  intro p e s m below meth c A ls ⟨hx, hb, hr, hml, hown, hlocks, _, hts⟩ hw hG hA hl
  have hl : lv_has ls 3 [(0, .int p1), (1, .int p2), (2, .int p3)] := hl
  rw [f_X8_in] at hf
  refine lv_iload_n hx hb dX8_in_0 rfl (lv_at hl 0 rfl) ?_
  refine lv_iload_n hx hb dX8_in_1 rfl (lv_at hl 1 rfl) ?_
  refine lv_icmp_lt (tgt := 14) hx hb dX8_in_2 (by decide) (fun c_1 => ?_) (fun c_1 => ?_)
  · replace hf := if_t c_1 hf
    refine lv_iconst (v := 0) hx hb dX8_in_14 (by decide) ?_
    have e_2 := Option.some.inj hf
    subst e_2
    exact wd_zret hx hb hr rfl hlocks hw dX8_in_15
  · replace hf := if_f c_1 hf
    refine lv_iload_n hx hb dX8_in_5 rfl (lv_at hl 0 rfl) ?_
    refine lv_iload_n hx hb dX8_in_6 rfl (lv_at hl 2 rfl) ?_
    refine lv_icmp_gt (tgt := 14) hx hb dX8_in_7 (by decide) (fun c_3 => ?_) (fun c_3 => ?_)
    · replace hf := if_t c_3 hf
      refine lv_iconst (v := 0) hx hb dX8_in_14 (by decide) ?_
      have e_4 := Option.some.inj hf
      subst e_4
      exact wd_zret hx hb hr rfl hlocks hw dX8_in_15
    · replace hf := if_f c_3 hf
      refine lv_iconst (v := 1) hx hb dX8_in_10 (by decide) ?_
      refine lv_goto (tgt := 15) hx hb dX8_in_11 (by decide) ?_
      have e_5 := Option.some.inj hf
      subst e_5
      exact wd_zret hx hb hr rfl hlocks hw dX8_in_15
/-! DutyDeskModel.feed(IIIII)I -/
def rm_X8_feed : Room := { frames := 0, cells := 0, slots := 0, locals := 0 }
def f_X8_feed_L73 (y_4 : Int32) (z_5 : Int32) : (Int32 × St) → Option ((Int32 × St) ⊕ ((Int32 × St) ⊕ (Int32 × St)))
  | (v_7, S_8) =>
  (if v_7 < 0 then
    bnd (y_4 + 1) fun x_10 => some (.inr (.inl (x_10, S_8)))
  else
    gd (gI S_8 0) 1000 (bnd (sM S_8 1 ((gI S_8 0).toNatClampNeg) (vp_nar .byte ((z_5 >>> (v_7 &&& 31)).toInt8.toInt32))) fun S_14 => bnd (sI S_14 0 ((gI S_14 0) + 1)) fun S_15 => bnd (v_7 + (-8)) fun x_16 => some (.inl (x_16, S_15))))
def f_X8_feed_J67 (y_4 : Int32) (z_5 : Int32) (S_6 : St) : Option ((Int32 × St) ⊕ (Int32 × St)) :=
  loopF (f_X8_feed_L73 y_4 z_5) FU (24, S_6)
def f_X8_feed_L19 (p1 : Int32) (p2 : Int32) (p3 : Int32) (p4 : Int32) (p5 : Int32) : (Int32 × St) → Option ((Int32 × St) ⊕ (Int32 × St))
  | (v_2, S_3) =>
  (if 5 ≤ v_2 then
    some (.inr ((gI S_3 0, S_3)))
  else
    (if v_2 = 0 then
    f_X8_feed_J67 v_2 p1 S_3
  else
    (if v_2 = 1 then
    f_X8_feed_J67 v_2 p2 S_3
  else
    (if v_2 = 2 then
    f_X8_feed_J67 v_2 p3 S_3
  else
    (if v_2 = 3 then
    f_X8_feed_J67 v_2 p4 S_3
  else
    f_X8_feed_J67 v_2 p5 S_3)))))
def f_X8_feed (S : St) (p1 : Int32) (p2 : Int32) (p3 : Int32) (p4 : Int32) (p5 : Int32) : Option (Int32 × St) :=
  (if ((gI S 0) + 20) ≤ 1000 then
    loopF (f_X8_feed_L19 p1 p2 p3 p4 p5) FU (0, S)
  else
    some (((-3), S)))
set_option maxHeartbeats 4000000 in
set_option maxRecDepth 100000 in
theorem c_X8_feed (G : GP) (l : Launch) (a : Nat → Nat) (R : va_W) (S : St) (p1 : Int32) (p2 : Int32) (p3 : Int32) (p4 : Int32) (p5 : Int32) (r0 : Int32) (S9 : St) (hf : f_X8_feed S p1 p2 p3 p4 p5 = some (r0, S9)) : MC G l yX8_feed wsX8_feed rm_X8_feed [.ref (a 0), .int p1, .int p2, .int p3, .int p4, .int p5] (mw G.2.1 a R S) (mw G.2.1 a R S9) (some (.int r0)) 0 0 := by
  refine MC.mk (cc := cX8_feed) (maxL := 9) (ret := (some .int)) (by decide) rfl (Nat.le_of_ble_eq_true rfl) ?_
  intro p e s m below meth c A ls ⟨hx, hb, hr, hml, hown, hlocks, _, hts⟩ hw hG hA hl
  have hl : lv_has ls 9 [(0, .ref (a 0)), (1, .int p1), (2, .int p2), (3, .int p3), (4, .int p4), (5, .int p5)] := hl
  have hin8 : ∀ w ∈ u_ws RX8 TX8 45, w ∈ wsX8_feed := by decide +kernel
  rw [f_X8_feed] at hf
  refine lv_aload_n hx hb dX8_feed_0 rfl (lv_at hl 0 rfl) ?_
  refine va_get (D := G.1) (ci := 8) (v := .int (gI S 0)) (C := RX8) (T := TX8) (N := 45) hx hb hts hin8 hown hG.1 hw.1 0 rfl rfl 1 (by decide) (hts (.fieldLink RX8 109 "DutyDeskModel" "taped" "I") (List.mem_of_getElem? (i := 1) rfl)) (fun _ h9 => h9) rfl dX8_feed_1 ?_
  refine lv_bipush (v := 20) hx hb dX8_feed_4 (by decide) ?_
  refine lv_iadd hx hb dX8_feed_6 ?_
  refine lv_sipush (v := 1000) hx hb dX8_feed_7 (by decide) ?_
  refine lv_icmp_le (tgt := 16) hx hb dX8_feed_10 (by decide) (fun c_1 => ?_) (fun c_1 => ?_)
  · replace hf := if_t c_1 hf
    refine lv_iconst (v := 0) hx hb dX8_feed_16 (by decide) ?_
    refine lv_istore (lv' := [(6, .int 0), (0, .ref (a 0)), (1, .int p1), (2, .int p2), (3, .int p3), (4, .int p4), (5, .int p5)]) hx hb dX8_feed_17 hl (by decide) rfl (fun ls hl => ?_)
    refine loopF_ind (body := f_X8_feed_L19 p1 p2 p3 p4 p5) (fun (q : Int32 × St) => match q with | (v_2, S_3) => ∀ (H : Heap) (locs : List Loc) (ls : Array Slot), Wd G A s H locs (mw G.2.1 a R S_3) → lv_has ls 9 [(0, .ref (a 0)), (1, .int p1), (2, .int p2), (3, .int p3), (4, .int p4), (5, .int p5), (6, .int v_2)] → WQ p l e rm_X8_feed s m [.ref (a 0), .int p1, .int p2, .int p3, .int p4, .int p5] below meth c G A (mw G.2.1 a R S9) (some (.int r0)) 0 0 H locs 0 0 (F0 m 19 ls [])) ?_ FU (0, S) hf _ _ _ hw (lv_sub hl [1, 2, 3, 4, 5, 6, 0] rfl)
    clear hf hw hl
    intro ⟨v_2, S_3⟩ t0_19 hf hz1_0_19 hz2_0_19 H locs ls hw hl
    rw [f_X8_feed_L19] at hf
    have j67 : ∀ (y_4 : Int32) (z_5 : Int32) (S_6 : St) (H : Heap) (locs : List Loc) (ls : Array Slot), f_X8_feed_J67 y_4 z_5 S_6 = some t0_19 → Wd G A s H locs (mw G.2.1 a R S_6) → lv_has ls 9 [(0, .ref (a 0)), (1, .int p1), (2, .int p2), (3, .int p3), (4, .int p4), (5, .int p5), (6, .int y_4)] → WQ p l e rm_X8_feed s m [.ref (a 0), .int p1, .int p2, .int p3, .int p4, .int p5] below meth c G A (mw G.2.1 a R S9) (some (.int r0)) 0 0 H locs 0 0 (F0 m 67 ls [.int z_5]) := by
      intro y_4 z_5 S_6 H locs ls hf hw hl
      rw [f_X8_feed_J67] at hf
      refine lv_istore (lv' := [(7, .int z_5), (0, .ref (a 0)), (1, .int p1), (2, .int p2), (3, .int p3), (4, .int p4), (5, .int p5), (6, .int y_4)]) hx hb dX8_feed_67 hl (by decide) rfl (fun ls hl => ?_)
      refine lv_bipush (v := 24) hx hb dX8_feed_69 (by decide) ?_
      refine lv_istore (lv' := [(8, .int 24), (7, .int z_5), (0, .ref (a 0)), (1, .int p1), (2, .int p2), (3, .int p3), (4, .int p4), (5, .int p5), (6, .int y_4)]) hx hb dX8_feed_71 hl (by decide) rfl (fun ls hl => ?_)
      refine loopF_ind (body := f_X8_feed_L73 y_4 z_5) (fun (q : Int32 × St) => match q with | (v_7, S_8) => ∀ (H : Heap) (locs : List Loc) (ls : Array Slot), Wd G A s H locs (mw G.2.1 a R S_8) → lv_has ls 9 [(0, .ref (a 0)), (1, .int p1), (2, .int p2), (3, .int p3), (4, .int p4), (5, .int p5), (6, .int y_4), (7, .int z_5), (8, .int v_7)] → WQ p l e rm_X8_feed s m [.ref (a 0), .int p1, .int p2, .int p3, .int p4, .int p5] below meth c G A (mw G.2.1 a R S9) (some (.int r0)) 0 0 H locs 0 0 (F0 m 73 ls [])) ?_ FU (24, S_6) hf _ _ _ hw (lv_sub hl [2, 3, 4, 5, 6, 7, 8, 1, 0] rfl)
      clear hf hw hl
      intro ⟨v_7, S_8⟩ t1_73 hf hz1_1_73 hz2_1_73 H locs ls hw hl
      rw [f_X8_feed_L73] at hf
      refine lv_iload hx hb dX8_feed_73 (lv_at hl 8 rfl) ?_
      refine lv_if_lt (tgt := 109) hx hb dX8_feed_75 (by decide) (fun c_9 => ?_) (fun c_9 => ?_)
      · replace hf := if_t c_9 hf
        obtain ⟨x_10, ex_10⟩ : ∃ z : Int32, z = y_4 + 1 := ⟨_, rfl⟩
        replace hf := bnd_of ex_10 hf
        refine lv_iinc (v := x_10) (lv' := [(6, .int x_10), (0, .ref (a 0)), (1, .int p1), (2, .int p2), (3, .int p3), (4, .int p4), (5, .int p5), (7, .int z_5), (8, .int v_7)]) hx hb dX8_feed_109 hl (k := 6) rfl (by rw [ex_10]; rfl) (by decide) rfl (fun ls hl => ?_)
        refine lv_goto (tgt := 19) hx hb dX8_feed_112 (by decide) ?_
        have e_11 := Option.some.inj hf
        have e_12 := hz2_1_73 _ e_11.symm
        exact hz1_0_19 _ e_12.symm _ _ _ hw (lv_sub hl [1, 2, 3, 4, 5, 6, 0] rfl)
      · replace hf := if_f c_9 hf
        refine lv_aload_n hx hb dX8_feed_78 rfl (lv_at hl 0 rfl) ?_
        refine va_get (D := G.1) (ci := 8) (v := .ref (a 1)) (C := RX8) (T := TX8) (N := 45) hx hb hts hin8 hown hG.1 hw.1 0 rfl rfl 0 (by decide) (hts (.fieldLink RX8 7 "DutyDeskModel" "tape" "[B") (List.mem_of_getElem? (i := 2) rfl)) (fun _ h9 => h9) rfl dX8_feed_79 ?_
        refine lv_aload_n hx hb dX8_feed_82 rfl (lv_at hl 0 rfl) ?_
        refine va_get (D := G.1) (ci := 8) (v := .int (gI S_8 0)) (C := RX8) (T := TX8) (N := 45) hx hb hts hin8 hown hG.1 hw.1 0 rfl rfl 1 (by decide) (hts (.fieldLink RX8 109 "DutyDeskModel" "taped" "I") (List.mem_of_getElem? (i := 1) rfl)) (fun _ h9 => h9) rfl dX8_feed_83 ?_
        refine lv_iload hx hb dX8_feed_86 (lv_at hl 7 rfl) ?_
        refine lv_iload hx hb dX8_feed_88 (lv_at hl 8 rfl) ?_
        refine lv_ishr hx hb dX8_feed_90 ?_
        refine lv_i2b (v := (z_5 >>> (v_7 &&& 31)).toInt8.toInt32) hx hb dX8_feed_91 rfl ?_
        obtain ⟨h_13, hf⟩ := gd_of hf
        refine va_bast hx hb hG.1 hw.1 hw.2.1 hw.2.2 1 0 (mw_atB (k := 1) rfl) rfl h_13 dX8_feed_92 (fun H locs hP hD hS => ?_)
        obtain ⟨S_14, eS_14⟩ : ∃ z : St, z = sM S_8 1 ((gI S_8 0).toNatClampNeg) (vp_nar .byte ((z_5 >>> (v_7 &&& 31)).toInt8.toInt32)) := ⟨_, rfl⟩
        replace hf := bnd_of eS_14 hf
        have hw : Wd G A s H locs (mw G.2.1 a R S_14) := wd_eq (by rw [eS_14]; exact mw_upB (k := 1) rfl _) hP hD hS
        refine lv_aload_n hx hb dX8_feed_93 rfl (lv_at hl 0 rfl) ?_
        refine lv_dup hx hb dX8_feed_94 rfl ?_
        refine va_get (D := G.1) (ci := 8) (v := .int (gI S_14 0)) (C := RX8) (T := TX8) (N := 45) hx hb hts hin8 hown hG.1 hw.1 0 rfl rfl 1 (by decide) (hts (.fieldLink RX8 109 "DutyDeskModel" "taped" "I") (List.mem_of_getElem? (i := 1) rfl)) (fun _ h9 => h9) rfl dX8_feed_95 ?_
        refine lv_iconst (v := 1) hx hb dX8_feed_98 (by decide) ?_
        refine lv_iadd hx hb dX8_feed_99 ?_
        refine va_put (D := G.1) (ci := 8) (v := .int ((gI S_14 0) + 1)) (ty := .int) (C := RX8) (T := TX8) (N := 45) hx hb hts hin8 tyX8 tyX8_ok nmX8 hown hG.1 hw.1 hw.2.1 hw.2.2 0 rfl rfl 1 (by decide) (hts (.fieldLink RX8 109 "DutyDeskModel" "taped" "I") (List.mem_of_getElem? (i := 1) rfl)) (fun _ h9 => h9) rfl (by decide +kernel) rfl rfl (Nat.le_of_ble_eq_true rfl) dX8_feed_100 (fun H locs hP hD hS => ?_)
        obtain ⟨S_15, eS_15⟩ : ∃ z : St, z = sI S_14 0 ((gI S_14 0) + 1) := ⟨_, rfl⟩
        replace hf := bnd_of eS_15 hf
        have hw : Wd G A s H locs (mw G.2.1 a R S_15) := wd_eq (by rw [eS_15]; exact mw_upI0 _) hP hD hS
        obtain ⟨x_16, ex_16⟩ : ∃ z : Int32, z = v_7 + (-8) := ⟨_, rfl⟩
        replace hf := bnd_of ex_16 hf
        refine lv_iinc (v := x_16) (lv' := [(8, .int x_16), (0, .ref (a 0)), (1, .int p1), (2, .int p2), (3, .int p3), (4, .int p4), (5, .int p5), (6, .int y_4), (7, .int z_5)]) hx hb dX8_feed_103 hl (k := 8) rfl (by rw [ex_16]; rfl) (by decide) rfl (fun ls hl => ?_)
        refine lv_goto (tgt := 73) hx hb dX8_feed_106 (by decide) ?_
        have e_17 := Option.some.inj hf
        exact hz1_1_73 _ e_17.symm _ _ _ hw (lv_sub hl [1, 2, 3, 4, 5, 6, 7, 8, 0] rfl)
    refine lv_iload hx hb dX8_feed_19 (lv_at hl 6 rfl) ?_
    refine lv_iconst (v := 5) hx hb dX8_feed_21 (by decide) ?_
    refine lv_icmp_ge (tgt := 115) hx hb dX8_feed_22 (by decide) (fun c_18 => ?_) (fun c_18 => ?_)
    · replace hf := if_t c_18 hf
      refine lv_aload_n hx hb dX8_feed_115 rfl (lv_at hl 0 rfl) ?_
      refine va_get (D := G.1) (ci := 8) (v := .int (gI S_3 0)) (C := RX8) (T := TX8) (N := 45) hx hb hts hin8 hown hG.1 hw.1 0 rfl rfl 1 (by decide) (hts (.fieldLink RX8 109 "DutyDeskModel" "taped" "I") (List.mem_of_getElem? (i := 1) rfl)) (fun _ h9 => h9) rfl dX8_feed_116 ?_
      have e_19 := Option.some.inj hf
      have e_20 := hz2_0_19 _ e_19.symm
      obtain ⟨rfl, rfl⟩ := Prod.mk.inj e_20
      exact wd_iret hx hb hr hlocks hw dX8_feed_119
    · replace hf := if_f c_18 hf
      refine lv_iload hx hb dX8_feed_25 (lv_at hl 6 rfl) ?_
      refine lv_if_ne (tgt := 34) hx hb dX8_feed_27 (by decide) (fun c_21 => ?_) (fun c_21 => ?_)
      · replace hf := if_f c_21 hf
        refine lv_iload hx hb dX8_feed_34 (lv_at hl 6 rfl) ?_
        refine lv_iconst (v := 1) hx hb dX8_feed_36 (by decide) ?_
        refine lv_icmp_ne (tgt := 44) hx hb dX8_feed_37 (by decide) (fun c_22 => ?_) (fun c_22 => ?_)
        · replace hf := if_f c_22 hf
          refine lv_iload hx hb dX8_feed_44 (lv_at hl 6 rfl) ?_
          refine lv_iconst (v := 2) hx hb dX8_feed_46 (by decide) ?_
          refine lv_icmp_ne (tgt := 54) hx hb dX8_feed_47 (by decide) (fun c_23 => ?_) (fun c_23 => ?_)
          · replace hf := if_f c_23 hf
            refine lv_iload hx hb dX8_feed_54 (lv_at hl 6 rfl) ?_
            refine lv_iconst (v := 3) hx hb dX8_feed_56 (by decide) ?_
            refine lv_icmp_ne (tgt := 65) hx hb dX8_feed_57 (by decide) (fun c_24 => ?_) (fun c_24 => ?_)
            · replace hf := if_f c_24 hf
              refine lv_iload hx hb dX8_feed_65 (lv_at hl 5 rfl) ?_
              exact j67 v_2 p5 S_3 _ _ _ hf hw (lv_sub hl [0, 1, 2, 3, 4, 5, 6] rfl)
            · replace hf := if_t c_24 hf
              refine lv_iload hx hb dX8_feed_60 (lv_at hl 4 rfl) ?_
              refine lv_goto (tgt := 67) hx hb dX8_feed_62 (by decide) ?_
              exact j67 v_2 p4 S_3 _ _ _ hf hw (lv_sub hl [0, 1, 2, 3, 4, 5, 6] rfl)
          · replace hf := if_t c_23 hf
            refine lv_iload_n hx hb dX8_feed_50 rfl (lv_at hl 3 rfl) ?_
            refine lv_goto (tgt := 67) hx hb dX8_feed_51 (by decide) ?_
            exact j67 v_2 p3 S_3 _ _ _ hf hw (lv_sub hl [0, 1, 2, 3, 4, 5, 6] rfl)
        · replace hf := if_t c_22 hf
          refine lv_iload_n hx hb dX8_feed_40 rfl (lv_at hl 2 rfl) ?_
          refine lv_goto (tgt := 67) hx hb dX8_feed_41 (by decide) ?_
          exact j67 v_2 p2 S_3 _ _ _ hf hw (lv_sub hl [0, 1, 2, 3, 4, 5, 6] rfl)
      · replace hf := if_t c_21 hf
        refine lv_iload_n hx hb dX8_feed_30 rfl (lv_at hl 1 rfl) ?_
        refine lv_goto (tgt := 67) hx hb dX8_feed_31 (by decide) ?_
        exact j67 v_2 p1 S_3 _ _ _ hf hw (lv_sub hl [0, 1, 2, 3, 4, 5, 6] rfl)
  · replace hf := if_f c_1 hf
    refine lv_bipush (v := (-3)) hx hb dX8_feed_13 (by decide) ?_
    have e_25 := Option.some.inj hf
    obtain ⟨rfl, rfl⟩ := Prod.mk.inj e_25
    exact wd_iret hx hb hr hlocks hw dX8_feed_15
/-! DutyDeskModel.end(I)I -/
def rm_X8_end : Room := { frames := 0, cells := 0, slots := 0, locals := 0 }
def f_X8_end (S : St) (p1 : Int32) : Option (Int32 × St) :=
  (if p1 < 0 then
    some (((-1), S))
  else
    (if p1 ≤ (gI S 0) then
    bnd (sI S 0 p1) fun S_4 => some ((p1, S_4))
  else
    some (((-1), S))))
set_option maxHeartbeats 4000000 in
set_option maxRecDepth 100000 in
theorem c_X8_end (G : GP) (l : Launch) (a : Nat → Nat) (R : va_W) (S : St) (p1 : Int32) (r0 : Int32) (S9 : St) (hf : f_X8_end S p1 = some (r0, S9)) : MC G l yX8_end wsX8_end rm_X8_end [.ref (a 0), .int p1] (mw G.2.1 a R S) (mw G.2.1 a R S9) (some (.int r0)) 0 0 := by
  refine MC.mk (cc := cX8_end) (maxL := 2) (ret := (some .int)) (by decide) rfl (Nat.le_of_ble_eq_true rfl) ?_
  intro p e s m below meth c A ls ⟨hx, hb, hr, hml, hown, hlocks, _, hts⟩ hw hG hA hl
  have hl : lv_has ls 2 [(0, .ref (a 0)), (1, .int p1)] := hl
  have hin8 : ∀ w ∈ u_ws RX8 TX8 45, w ∈ wsX8_end := by decide +kernel
  rw [f_X8_end] at hf
  refine lv_iload_n hx hb dX8_end_0 rfl (lv_at hl 1 rfl) ?_
  refine lv_if_lt (tgt := 12) hx hb dX8_end_1 (by decide) (fun c_1 => ?_) (fun c_1 => ?_)
  · replace hf := if_t c_1 hf
    refine lv_iconst (v := (-1)) hx hb dX8_end_12 (by decide) ?_
    have e_2 := Option.some.inj hf
    obtain ⟨rfl, rfl⟩ := Prod.mk.inj e_2
    exact wd_iret hx hb hr hlocks hw dX8_end_13
  · replace hf := if_f c_1 hf
    refine lv_iload_n hx hb dX8_end_4 rfl (lv_at hl 1 rfl) ?_
    refine lv_aload_n hx hb dX8_end_5 rfl (lv_at hl 0 rfl) ?_
    refine va_get (D := G.1) (ci := 8) (v := .int (gI S 0)) (C := RX8) (T := TX8) (N := 45) hx hb hts hin8 hown hG.1 hw.1 0 rfl rfl 1 (by decide) (hts (.fieldLink RX8 109 "DutyDeskModel" "taped" "I") (List.mem_of_getElem? (i := 1) rfl)) (fun _ h9 => h9) rfl dX8_end_6 ?_
    refine lv_icmp_le (tgt := 14) hx hb dX8_end_9 (by decide) (fun c_3 => ?_) (fun c_3 => ?_)
    · replace hf := if_t c_3 hf
      refine lv_aload_n hx hb dX8_end_14 rfl (lv_at hl 0 rfl) ?_
      refine lv_iload_n hx hb dX8_end_15 rfl (lv_at hl 1 rfl) ?_
      refine va_put (D := G.1) (ci := 8) (v := .int p1) (ty := .int) (C := RX8) (T := TX8) (N := 45) hx hb hts hin8 tyX8 tyX8_ok nmX8 hown hG.1 hw.1 hw.2.1 hw.2.2 0 rfl rfl 1 (by decide) (hts (.fieldLink RX8 109 "DutyDeskModel" "taped" "I") (List.mem_of_getElem? (i := 1) rfl)) (fun _ h9 => h9) rfl (by decide +kernel) rfl rfl (Nat.le_of_ble_eq_true rfl) dX8_end_16 (fun H locs hP hD hS => ?_)
      obtain ⟨S_4, eS_4⟩ : ∃ z : St, z = sI S 0 p1 := ⟨_, rfl⟩
      replace hf := bnd_of eS_4 hf
      have hw : Wd G A s H locs (mw G.2.1 a R S_4) := wd_eq (by rw [eS_4]; exact mw_upI0 _) hP hD hS
      refine lv_iload_n hx hb dX8_end_19 rfl (lv_at hl 1 rfl) ?_
      have e_5 := Option.some.inj hf
      obtain ⟨rfl, rfl⟩ := Prod.mk.inj e_5
      exact wd_iret hx hb hr hlocks hw dX8_end_20
    · replace hf := if_f c_3 hf
      refine lv_iconst (v := (-1)) hx hb dX8_end_12 (by decide) ?_
      have e_6 := Option.some.inj hf
      obtain ⟨rfl, rfl⟩ := Prod.mk.inj e_6
      exact wd_iret hx hb hr hlocks hw dX8_end_13
/-! DutyDeskModel.see(I)I -/
def rm_X8_see : Room := { frames := 0, cells := 0, slots := 0, locals := 0 }
def f_X8_see (S : St) (p1 : Int32) : Option (Int32) :=
  (if (gI S 1) ≤ p1 then
    some ((-1))
  else
    gd p1 1000 (some (((gM S 1 p1.toNatClampNeg) &&& 255))))
set_option maxHeartbeats 4000000 in
set_option maxRecDepth 100000 in
theorem c_X8_see (G : GP) (l : Launch) (a : Nat → Nat) (R : va_W) (S : St) (p1 : Int32) (r0 : Int32) (hf : f_X8_see S p1 = some r0) : MC G l yX8_see wsX8_see rm_X8_see [.ref (a 0), .int p1] (mw G.2.1 a R S) (mw G.2.1 a R S) (some (.int r0)) 0 0 := by
  refine MC.mk (cc := cX8_see) (maxL := 2) (ret := (some .int)) (by decide) rfl (Nat.le_of_ble_eq_true rfl) ?_
  intro p e s m below meth c A ls ⟨hx, hb, hr, hml, hown, hlocks, _, hts⟩ hw hG hA hl
  have hl : lv_has ls 2 [(0, .ref (a 0)), (1, .int p1)] := hl
  have hin8 : ∀ w ∈ u_ws RX8 TX8 45, w ∈ wsX8_see := by decide +kernel
  rw [f_X8_see] at hf
  refine lv_iload_n hx hb dX8_see_0 rfl (lv_at hl 1 rfl) ?_
  refine lv_aload_n hx hb dX8_see_1 rfl (lv_at hl 0 rfl) ?_
  refine va_get (D := G.1) (ci := 8) (v := .int (gI S 1)) (C := RX8) (T := TX8) (N := 45) hx hb hts hin8 hown hG.1 hw.1 0 rfl rfl 2 (by decide) (hts (.fieldLink RX8 112 "DutyDeskModel" "size" "I") (List.mem_of_getElem? (i := 1) rfl)) (fun _ h9 => h9) rfl dX8_see_2 ?_
  refine lv_icmp_ge (tgt := 21) hx hb dX8_see_5 (by decide) (fun c_1 => ?_) (fun c_1 => ?_)
  · replace hf := if_t c_1 hf
    refine lv_iconst (v := (-1)) hx hb dX8_see_21 (by decide) ?_
    have e_2 := Option.some.inj hf
    subst e_2
    exact wd_iret hx hb hr hlocks hw dX8_see_22
  · replace hf := if_f c_1 hf
    refine lv_aload_n hx hb dX8_see_8 rfl (lv_at hl 0 rfl) ?_
    refine va_get (D := G.1) (ci := 8) (v := .ref (a 1)) (C := RX8) (T := TX8) (N := 45) hx hb hts hin8 hown hG.1 hw.1 0 rfl rfl 0 (by decide) (hts (.fieldLink RX8 7 "DutyDeskModel" "tape" "[B") (List.mem_of_getElem? (i := 2) rfl)) (fun _ h9 => h9) rfl dX8_see_9 ?_
    refine lv_iload_n hx hb dX8_see_12 rfl (lv_at hl 1 rfl) ?_
    obtain ⟨h_3, hf⟩ := gd_of hf
    refine va_bald hx hb hG.1 hw.1 1 0 (mw_atB (k := 1) rfl) rfl h_3 dX8_see_13 ?_
    refine lv_sipush (v := 255) hx hb dX8_see_14 (by decide) ?_
    refine lv_iand hx hb dX8_see_17 ?_
    refine lv_goto (tgt := 22) hx hb dX8_see_18 (by decide) ?_
    have e_4 := Option.some.inj hf
    subst e_4
    exact wd_iret hx hb hr hlocks hw dX8_see_22
/-! DutyDeskModel.isSmall(I)Z -/
def rm_X8_isSmall : Room := { frames := 0, cells := 0, slots := 0, locals := 0 }
def f_X8_isSmall (p1 : Int32) : Option (Int32) :=
  (if p1 < 97 then
    some (0)
  else
    (if 122 < p1 then
    some (0)
  else
    some (1)))
set_option maxHeartbeats 4000000 in
set_option maxRecDepth 100000 in
theorem c_X8_isSmall (G : GP) (l : Launch) (W0 : va_W) (p1 : Int32) (r0 : Int32) (hf : f_X8_isSmall p1 = some r0) : MC G l yX8_isSmall wsX8_isSmall rm_X8_isSmall [.int p1] (W0) (W0) (some (.int r0)) 0 0 := by
  refine MC.mk (cc := cX8_isSmall) (maxL := 1) (ret := (some .boolean)) (by decide) rfl (Nat.le_of_ble_eq_true rfl) ?_
  intro p e s m below meth c A ls ⟨hx, hb, hr, hml, hown, hlocks, _, hts⟩ hw hG hA hl
  have hl : lv_has ls 1 [(0, .int p1)] := hl
  rw [f_X8_isSmall] at hf
  refine lv_iload_n hx hb dX8_isSmall_0 rfl (lv_at hl 0 rfl) ?_
  refine lv_bipush (v := 97) hx hb dX8_isSmall_1 (by decide) ?_
  refine lv_icmp_lt (tgt := 16) hx hb dX8_isSmall_3 (by decide) (fun c_1 => ?_) (fun c_1 => ?_)
  · replace hf := if_t c_1 hf
    refine lv_iconst (v := 0) hx hb dX8_isSmall_16 (by decide) ?_
    have e_2 := Option.some.inj hf
    subst e_2
    exact wd_zret hx hb hr rfl hlocks hw dX8_isSmall_17
  · replace hf := if_f c_1 hf
    refine lv_iload_n hx hb dX8_isSmall_6 rfl (lv_at hl 0 rfl) ?_
    refine lv_bipush (v := 122) hx hb dX8_isSmall_7 (by decide) ?_
    refine lv_icmp_gt (tgt := 16) hx hb dX8_isSmall_9 (by decide) (fun c_3 => ?_) (fun c_3 => ?_)
    · replace hf := if_t c_3 hf
      refine lv_iconst (v := 0) hx hb dX8_isSmall_16 (by decide) ?_
      have e_4 := Option.some.inj hf
      subst e_4
      exact wd_zret hx hb hr rfl hlocks hw dX8_isSmall_17
    · replace hf := if_f c_3 hf
      refine lv_iconst (v := 1) hx hb dX8_isSmall_12 (by decide) ?_
      refine lv_goto (tgt := 17) hx hb dX8_isSmall_13 (by decide) ?_
      have e_5 := Option.some.inj hf
      subst e_5
      exact wd_zret hx hb hr rfl hlocks hw dX8_isSmall_17
/-! DutyDeskModel.isDigit(I)Z -/
def rm_X8_isDigit : Room := { frames := 0, cells := 0, slots := 0, locals := 0 }
def f_X8_isDigit (p1 : Int32) : Option (Int32) :=
  (if p1 < 48 then
    some (0)
  else
    (if 57 < p1 then
    some (0)
  else
    some (1)))
set_option maxHeartbeats 4000000 in
set_option maxRecDepth 100000 in
theorem c_X8_isDigit (G : GP) (l : Launch) (W0 : va_W) (p1 : Int32) (r0 : Int32) (hf : f_X8_isDigit p1 = some r0) : MC G l yX8_isDigit wsX8_isDigit rm_X8_isDigit [.int p1] (W0) (W0) (some (.int r0)) 0 0 := by
  refine MC.mk (cc := cX8_isDigit) (maxL := 1) (ret := (some .boolean)) (by decide) rfl (Nat.le_of_ble_eq_true rfl) ?_
  intro p e s m below meth c A ls ⟨hx, hb, hr, hml, hown, hlocks, _, hts⟩ hw hG hA hl
  have hl : lv_has ls 1 [(0, .int p1)] := hl
  rw [f_X8_isDigit] at hf
  refine lv_iload_n hx hb dX8_isDigit_0 rfl (lv_at hl 0 rfl) ?_
  refine lv_bipush (v := 48) hx hb dX8_isDigit_1 (by decide) ?_
  refine lv_icmp_lt (tgt := 16) hx hb dX8_isDigit_3 (by decide) (fun c_1 => ?_) (fun c_1 => ?_)
  · replace hf := if_t c_1 hf
    refine lv_iconst (v := 0) hx hb dX8_isDigit_16 (by decide) ?_
    have e_2 := Option.some.inj hf
    subst e_2
    exact wd_zret hx hb hr rfl hlocks hw dX8_isDigit_17
  · replace hf := if_f c_1 hf
    refine lv_iload_n hx hb dX8_isDigit_6 rfl (lv_at hl 0 rfl) ?_
    refine lv_bipush (v := 57) hx hb dX8_isDigit_7 (by decide) ?_
    refine lv_icmp_gt (tgt := 16) hx hb dX8_isDigit_9 (by decide) (fun c_3 => ?_) (fun c_3 => ?_)
    · replace hf := if_t c_3 hf
      refine lv_iconst (v := 0) hx hb dX8_isDigit_16 (by decide) ?_
      have e_4 := Option.some.inj hf
      subst e_4
      exact wd_zret hx hb hr rfl hlocks hw dX8_isDigit_17
    · replace hf := if_f c_3 hf
      refine lv_iconst (v := 1) hx hb dX8_isDigit_12 (by decide) ?_
      refine lv_goto (tgt := 17) hx hb dX8_isDigit_13 (by decide) ?_
      have e_5 := Option.some.inj hf
      subst e_5
      exact wd_zret hx hb hr rfl hlocks hw dX8_isDigit_17
/-! DutyDeskModel.keyAt(II)I -/
def rm_X8_keyAt : Room := { frames := 4, cells := 0, slots := 0, locals := 85 }
def f_X8_keyAt_J97 (y_4 : Int32) (y_5 : Int32) (y_6 : Int32) : Option ((Int32 × Int32 × Int32) ⊕ (Int32)) :=
  (if y_6 = 0 then
    bnd (y_4 + 1) fun x_8 => bnd (y_5 + 1) fun x_9 => bnd (y_5 + 1) fun x_10 => some (.inl (x_8, x_9, x_10))
  else
    some (.inr (y_4)))
def f_X8_keyAt_L52 (S : St) (p1 : Int32) (p2 : Int32) (y_14 : Int32) (y_15 : Int32) (y_16 : Int32) : (Int32 × Int32) → Option ((Int32 × Int32) ⊕ ((Int32 × Int32 × Int32) ⊕ (Int32)))
  | (v_18, v_19) =>
  (if p2 ≤ v_19 then
    (f_X8_keyAt_J97 y_14 y_16 v_18).bind (fun z_21 => some (.inr (z_21)))
  else
    (if v_18 = 0 then
    (f_X8_keyAt_J97 y_14 y_16 v_18).bind (fun z_26 => some (.inr (z_26)))
  else
    gd (y_15 + v_19) (scL.getD 17 0) ((f_X8_see S (p1 + v_19)).bind (fun r_32 => (if ((scB.getD 17 []).getD (y_15 + v_19).toNatClampNeg 0) = r_32 then
    bnd (v_19 + 1) fun x_36 => some (.inl (1, x_36))
  else
    bnd (v_19 + 1) fun x_34 => some (.inl (0, x_34)))))))
def f_X8_keyAt_J47 (S : St) (p1 : Int32) (p2 : Int32) (y_14 : Int32) (y_15 : Int32) (y_16 : Int32) (z_17 : Int32) : Option ((Int32 × Int32 × Int32) ⊕ (Int32)) :=
  loopF (f_X8_keyAt_L52 S p1 p2 y_14 y_15 y_16) FU (z_17, 0)
def f_X8_keyAt_L8 (S : St) (p1 : Int32) (p2 : Int32) : (Int32 × Int32 × Int32) → Option ((Int32 × Int32 × Int32) ⊕ (Int32))
  | (v_1, v_2, v_3) =>
  (if (nI (scL.getD 17 0)) ≤ v_3 then
    some (.inr ((-1)))
  else
    gd v_3 (scL.getD 17 0) ((if ((scB.getD 17 []).getD v_3.toNatClampNeg 0) = 32 then
    (if (v_3 - v_2) = p2 then
    f_X8_keyAt_J47 S p1 p2 v_1 v_2 v_3 1
  else
    f_X8_keyAt_J47 S p1 p2 v_1 v_2 v_3 0)
  else
    bnd (v_3 + 1) fun x_44 => some (.inl (v_1, v_2, x_44)))))
def f_X8_keyAt (S : St) (p1 : Int32) (p2 : Int32) : Option (Int32) :=
  loopF (f_X8_keyAt_L8 S p1 p2) FU (0, 0, 0)
set_option maxHeartbeats 4000000 in
set_option maxRecDepth 100000 in
theorem c_X8_keyAt (G : GP) (l : Launch) (a : Nat → Nat) (R : va_W) (S : St) (p1 : Int32) (p2 : Int32) (r0 : Int32) (hf : f_X8_keyAt S p1 p2 = some r0) : MC G l yX8_keyAt wsX8_keyAt rm_X8_keyAt [.ref (a 0), .int p1, .int p2] (mw G.2.1 a R S) (mw G.2.1 a R S) (some (.int r0)) 0 0 := by
  refine MC.mk (cc := cX8_keyAt) (maxL := 8) (ret := (some .int)) (by decide) rfl (Nat.le_of_ble_eq_true rfl) ?_
  intro p e s m below meth c A ls ⟨hx, hb, hr, hml, hown, hlocks, _, hts⟩ hw hG hA hl
  have hl : lv_has ls 8 [(0, .ref (a 0)), (1, .int p1), (2, .int p2)] := hl
  rw [f_X8_keyAt] at hf
  refine lv_iconst (v := 0) hx hb dX8_keyAt_0 (by decide) ?_
  refine lv_istore_n (lv' := [(3, .int 0), (0, .ref (a 0)), (1, .int p1), (2, .int p2)]) hx hb dX8_keyAt_1 rfl hl (by decide) rfl (fun ls hl => ?_)
  refine lv_iconst (v := 0) hx hb dX8_keyAt_2 (by decide) ?_
  refine lv_istore (lv' := [(4, .int 0), (3, .int 0), (0, .ref (a 0)), (1, .int p1), (2, .int p2)]) hx hb dX8_keyAt_3 hl (by decide) rfl (fun ls hl => ?_)
  refine lv_iconst (v := 0) hx hb dX8_keyAt_5 (by decide) ?_
  refine lv_istore (lv' := [(5, .int 0), (4, .int 0), (3, .int 0), (0, .ref (a 0)), (1, .int p1), (2, .int p2)]) hx hb dX8_keyAt_6 hl (by decide) rfl (fun ls hl => ?_)
  refine loopF_ind (body := f_X8_keyAt_L8 S p1 p2) (fun (q : Int32 × Int32 × Int32) => match q with | (v_1, v_2, v_3) => ∀ (H : Heap) (locs : List Loc) (ls : Array Slot), Wd G A s H locs (mw G.2.1 a R S) → lv_has ls 8 [(0, .ref (a 0)), (1, .int p1), (2, .int p2), (3, .int v_1), (4, .int v_2), (5, .int v_3)] → WQ p l e rm_X8_keyAt s m [.ref (a 0), .int p1, .int p2] below meth c G A (mw G.2.1 a R S) (some (.int r0)) 0 0 H locs 0 0 (F0 m 8 ls [])) ?_ FU (0, 0, 0) hf _ _ _ hw (lv_sub hl [3, 4, 5, 2, 1, 0] rfl)
  clear hf hw hl
  intro ⟨v_1, v_2, v_3⟩ t0_8 hf hz1_0_8 hz2_0_8 H locs ls hw hl
  rw [f_X8_keyAt_L8] at hf
  have j97 : ∀ (y_4 : Int32) (y_5 : Int32) (y_6 : Int32) (H : Heap) (locs : List Loc) (ls : Array Slot), f_X8_keyAt_J97 y_4 y_5 y_6 = some t0_8 → Wd G A s H locs (mw G.2.1 a R S) → lv_has ls 8 [(0, .ref (a 0)), (1, .int p1), (2, .int p2), (3, .int y_4), (5, .int y_5), (6, .int y_6)] → WQ p l e rm_X8_keyAt s m [.ref (a 0), .int p1, .int p2] below meth c G A (mw G.2.1 a R S) (some (.int r0)) 0 0 H locs 0 0 (F0 m 97 ls []) := by
    intro y_4 y_5 y_6 H locs ls hf hw hl
    rw [f_X8_keyAt_J97] at hf
    refine lv_iload hx hb dX8_keyAt_97 (lv_at hl 5 rfl) ?_
    refine lv_if_eq (tgt := 104) hx hb dX8_keyAt_99 (by decide) (fun c_7 => ?_) (fun c_7 => ?_)
    · replace hf := if_t c_7 hf
      obtain ⟨x_8, ex_8⟩ : ∃ z : Int32, z = y_4 + 1 := ⟨_, rfl⟩
      replace hf := bnd_of ex_8 hf
      refine lv_iinc (v := x_8) (lv' := [(3, .int x_8), (0, .ref (a 0)), (1, .int p1), (2, .int p2), (5, .int y_5), (6, .int y_6)]) hx hb dX8_keyAt_104 hl (k := 3) rfl (by rw [ex_8]; rfl) (by decide) rfl (fun ls hl => ?_)
      refine lv_iload hx hb dX8_keyAt_107 (lv_at hl 4 rfl) ?_
      refine lv_iconst (v := 1) hx hb dX8_keyAt_109 (by decide) ?_
      refine lv_iadd hx hb dX8_keyAt_110 ?_
      refine lv_topi (fun x_9 ex_9 => ?_)
      replace hf := bnd_of ex_9 hf
      refine lv_istore (lv' := [(4, .int x_9), (3, .int x_8), (0, .ref (a 0)), (1, .int p1), (2, .int p2), (5, .int y_5), (6, .int y_6)]) hx hb dX8_keyAt_111 hl (by decide) rfl (fun ls hl => ?_)
      obtain ⟨x_10, ex_10⟩ : ∃ z : Int32, z = y_5 + 1 := ⟨_, rfl⟩
      replace hf := bnd_of ex_10 hf
      refine lv_iinc (v := x_10) (lv' := [(5, .int x_10), (4, .int x_9), (3, .int x_8), (0, .ref (a 0)), (1, .int p1), (2, .int p2), (6, .int y_6)]) hx hb dX8_keyAt_113 hl (k := 5) rfl (by rw [ex_10]; rfl) (by decide) rfl (fun ls hl => ?_)
      refine lv_goto (tgt := 8) hx hb dX8_keyAt_116 (by decide) ?_
      have e_11 := Option.some.inj hf
      exact hz1_0_8 _ e_11.symm _ _ _ hw (lv_sub hl [3, 4, 5, 2, 1, 0] rfl)
    · replace hf := if_f c_7 hf
      refine lv_iload_n hx hb dX8_keyAt_102 rfl (lv_at hl 3 rfl) ?_
      have e_12 := Option.some.inj hf
      have e_13 := hz2_0_8 _ e_12.symm
      subst e_13
      exact wd_iret hx hb hr hlocks hw dX8_keyAt_103
  have j47 : ∀ (y_14 : Int32) (y_15 : Int32) (y_16 : Int32) (z_17 : Int32) (H : Heap) (locs : List Loc) (ls : Array Slot), f_X8_keyAt_J47 S p1 p2 y_14 y_15 y_16 z_17 = some t0_8 → Wd G A s H locs (mw G.2.1 a R S) → lv_has ls 8 [(0, .ref (a 0)), (1, .int p1), (2, .int p2), (3, .int y_14), (4, .int y_15), (5, .int y_16)] → WQ p l e rm_X8_keyAt s m [.ref (a 0), .int p1, .int p2] below meth c G A (mw G.2.1 a R S) (some (.int r0)) 0 0 H locs 0 0 (F0 m 47 ls [.int z_17]) := by
    intro y_14 y_15 y_16 z_17 H locs ls hf hw hl
    rw [f_X8_keyAt_J47] at hf
    refine lv_istore (lv' := [(6, .int z_17), (0, .ref (a 0)), (1, .int p1), (2, .int p2), (3, .int y_14), (4, .int y_15), (5, .int y_16)]) hx hb dX8_keyAt_47 hl (by decide) rfl (fun ls hl => ?_)
    refine lv_iconst (v := 0) hx hb dX8_keyAt_49 (by decide) ?_
    refine lv_istore (lv' := [(7, .int 0), (6, .int z_17), (0, .ref (a 0)), (1, .int p1), (2, .int p2), (3, .int y_14), (4, .int y_15), (5, .int y_16)]) hx hb dX8_keyAt_50 hl (by decide) rfl (fun ls hl => ?_)
    refine loopF_ind (body := f_X8_keyAt_L52 S p1 p2 y_14 y_15 y_16) (fun (q : Int32 × Int32) => match q with | (v_18, v_19) => ∀ (H : Heap) (locs : List Loc) (ls : Array Slot), Wd G A s H locs (mw G.2.1 a R S) → lv_has ls 8 [(0, .ref (a 0)), (1, .int p1), (2, .int p2), (3, .int y_14), (4, .int y_15), (5, .int y_16), (6, .int v_18), (7, .int v_19)] → WQ p l e rm_X8_keyAt s m [.ref (a 0), .int p1, .int p2] below meth c G A (mw G.2.1 a R S) (some (.int r0)) 0 0 H locs 0 0 (F0 m 52 ls [])) ?_ FU (z_17, 0) hf _ _ _ hw (lv_sub hl [2, 3, 4, 5, 6, 7, 1, 0] rfl)
    clear hf hw hl
    intro ⟨v_18, v_19⟩ t1_52 hf hz1_1_52 hz2_1_52 H locs ls hw hl
    rw [f_X8_keyAt_L52] at hf
    refine lv_iload hx hb dX8_keyAt_52 (lv_at hl 7 rfl) ?_
    refine lv_iload_n hx hb dX8_keyAt_54 rfl (lv_at hl 2 rfl) ?_
    refine lv_icmp_ge (tgt := 97) hx hb dX8_keyAt_55 (by decide) (fun c_20 => ?_) (fun c_20 => ?_)
    · replace hf := if_t c_20 hf
      obtain ⟨z_21, hj_22, hf⟩ := bind_of hf
      have e_23 := Option.some.inj hf
      have e_24 := hz2_1_52 _ e_23.symm
      exact j97 y_14 y_16 v_18 _ _ _ (hj_22.trans (congrArg some e_24)) hw (lv_sub hl [0, 1, 2, 3, 5, 6] rfl)
    · replace hf := if_f c_20 hf
      refine lv_iload hx hb dX8_keyAt_58 (lv_at hl 6 rfl) ?_
      refine lv_if_eq (tgt := 97) hx hb dX8_keyAt_60 (by decide) (fun c_25 => ?_) (fun c_25 => ?_)
      · replace hf := if_t c_25 hf
        obtain ⟨z_26, hj_27, hf⟩ := bind_of hf
        have e_28 := Option.some.inj hf
        have e_29 := hz2_1_52 _ e_28.symm
        exact j97 y_14 y_16 v_18 _ _ _ (hj_27.trans (congrArg some e_29)) hw (lv_sub hl [0, 1, 2, 3, 5, 6] rfl)
      · replace hf := if_f c_25 hf
        refine va_ldcS hx hb hown (hG.2.2.2.2.2.2.2 17 (by decide)) dX8_keyAt_63 ?_
        refine lv_iload hx hb dX8_keyAt_65 (lv_at hl 4 rfl) ?_
        refine lv_iload hx hb dX8_keyAt_67 (lv_at hl 7 rfl) ?_
        refine lv_iadd hx hb dX8_keyAt_69 ?_
        obtain ⟨h_30, hf⟩ := gd_of hf
        refine cV (As := [.int (y_15 + v_19)]) (rest := []) ⟨hx, hb, hml, hown, hts⟩ hG hA hw (c_strchar G l _ 17 (by decide) (y_15 + v_19) h_30) (cwV 1 hts gX8_keyAt_J0_charAt_5068e rfl rfl rfl (by decide +kernel) ⟨Nat.le_of_ble_eq_true rfl, Nat.le_of_ble_eq_true rfl⟩) (vk_recv hG.2.2.2.2.2.2.1 (by decide) hw.2.2) rfl hl.1 rfl (Nat.le_of_ble_eq_true rfl) dX8_keyAt_70 ⟨Nat.zero_le _, Nat.zero_le _⟩ (fun H locs hw => ?_)
        refine lv_aload_n hx hb dX8_keyAt_73 rfl (lv_at hl 0 rfl) ?_
        refine lv_iload_n hx hb dX8_keyAt_74 rfl (lv_at hl 1 rfl) ?_
        refine lv_iload hx hb dX8_keyAt_75 (lv_at hl 7 rfl) ?_
        refine lv_iadd hx hb dX8_keyAt_77 ?_
        obtain ⟨r_32, h_31, hf⟩ := bind_of hf
        refine cV (As := [.int (p1 + v_19)]) (rest := [.int ((scB.getD 17 []).getD (y_15 + v_19).toNatClampNeg 0)]) ⟨hx, hb, hml, hown, hts⟩ hG hA hw (c_X8_see G l a R S (p1 + v_19) r_32 h_31) (cwV 1 hts gX8_keyAt_X8_see rfl rfl rfl (by decide +kernel) ⟨Nat.le_of_ble_eq_true rfl, Nat.le_of_ble_eq_true rfl⟩) (va_recv hG.1 hw.1 (ci := 8) (q0 := 0) rfl rfl) rfl hl.1 rfl (Nat.le_of_ble_eq_true rfl) dX8_keyAt_78 ⟨Nat.zero_le _, Nat.zero_le _⟩ (fun H locs hw => ?_)
        refine lv_icmp_ne (tgt := 88) hx hb dX8_keyAt_81 (by decide) (fun c_33 => ?_) (fun c_33 => ?_)
        · replace hf := if_f c_33 hf
          refine lv_iconst (v := 0) hx hb dX8_keyAt_88 (by decide) ?_
          refine lv_istore (lv' := [(6, .int 0), (0, .ref (a 0)), (1, .int p1), (2, .int p2), (3, .int y_14), (4, .int y_15), (5, .int y_16), (7, .int v_19)]) hx hb dX8_keyAt_89 hl (by decide) rfl (fun ls hl => ?_)
          obtain ⟨x_34, ex_34⟩ : ∃ z : Int32, z = v_19 + 1 := ⟨_, rfl⟩
          replace hf := bnd_of ex_34 hf
          refine lv_iinc (v := x_34) (lv' := [(7, .int x_34), (6, .int 0), (0, .ref (a 0)), (1, .int p1), (2, .int p2), (3, .int y_14), (4, .int y_15), (5, .int y_16)]) hx hb dX8_keyAt_91 hl (k := 7) rfl (by rw [ex_34]; rfl) (by decide) rfl (fun ls hl => ?_)
          refine lv_goto (tgt := 52) hx hb dX8_keyAt_94 (by decide) ?_
          have e_35 := Option.some.inj hf
          exact hz1_1_52 _ e_35.symm _ _ _ hw (lv_sub hl [2, 3, 4, 5, 6, 7, 1, 0] rfl)
        · replace hf := if_t c_33 hf
          refine lv_iconst (v := 1) hx hb dX8_keyAt_84 (by decide) ?_
          refine lv_goto (tgt := 89) hx hb dX8_keyAt_85 (by decide) ?_
          refine lv_istore (lv' := [(6, .int 1), (0, .ref (a 0)), (1, .int p1), (2, .int p2), (3, .int y_14), (4, .int y_15), (5, .int y_16), (7, .int v_19)]) hx hb dX8_keyAt_89 hl (by decide) rfl (fun ls hl => ?_)
          obtain ⟨x_36, ex_36⟩ : ∃ z : Int32, z = v_19 + 1 := ⟨_, rfl⟩
          replace hf := bnd_of ex_36 hf
          refine lv_iinc (v := x_36) (lv' := [(7, .int x_36), (6, .int 1), (0, .ref (a 0)), (1, .int p1), (2, .int p2), (3, .int y_14), (4, .int y_15), (5, .int y_16)]) hx hb dX8_keyAt_91 hl (k := 7) rfl (by rw [ex_36]; rfl) (by decide) rfl (fun ls hl => ?_)
          refine lv_goto (tgt := 52) hx hb dX8_keyAt_94 (by decide) ?_
          have e_37 := Option.some.inj hf
          exact hz1_1_52 _ e_37.symm _ _ _ hw (lv_sub hl [2, 3, 4, 5, 6, 7, 1, 0] rfl)
  refine lv_iload hx hb dX8_keyAt_8 (lv_at hl 5 rfl) ?_
  refine va_ldcS hx hb hown (hG.2.2.2.2.2.2.2 17 (by decide)) dX8_keyAt_10 ?_
  refine cV (As := []) (rest := [.int v_3]) ⟨hx, hb, hml, hown, hts⟩ hG hA hw (c_strlen G l _ 17 (by decide)) (cwV 0 hts gX8_keyAt_J0_length_8abf5 rfl rfl rfl (by decide +kernel) ⟨Nat.le_of_ble_eq_true rfl, Nat.le_of_ble_eq_true rfl⟩) (vk_recv hG.2.2.2.2.2.2.1 (by decide) hw.2.2) rfl hl.1 rfl (Nat.le_of_ble_eq_true rfl) dX8_keyAt_12 ⟨Nat.zero_le _, Nat.zero_le _⟩ (fun H locs hw => ?_)
  refine lv_icmp_ge (tgt := 119) hx hb dX8_keyAt_15 (by decide) (fun c_38 => ?_) (fun c_38 => ?_)
  · replace hf := if_t c_38 hf
    refine lv_iconst (v := (-1)) hx hb dX8_keyAt_119 (by decide) ?_
    have e_39 := Option.some.inj hf
    have e_40 := hz2_0_8 _ e_39.symm
    subst e_40
    exact wd_iret hx hb hr hlocks hw dX8_keyAt_120
  · replace hf := if_f c_38 hf
    refine va_ldcS hx hb hown (hG.2.2.2.2.2.2.2 17 (by decide)) dX8_keyAt_18 ?_
    refine lv_iload hx hb dX8_keyAt_20 (lv_at hl 5 rfl) ?_
    obtain ⟨h_41, hf⟩ := gd_of hf
    refine cV (As := [.int v_3]) (rest := []) ⟨hx, hb, hml, hown, hts⟩ hG hA hw (c_strchar G l _ 17 (by decide) v_3 h_41) (cwV 1 hts gX8_keyAt_J0_charAt_5068e rfl rfl rfl (by decide +kernel) ⟨Nat.le_of_ble_eq_true rfl, Nat.le_of_ble_eq_true rfl⟩) (vk_recv hG.2.2.2.2.2.2.1 (by decide) hw.2.2) rfl hl.1 rfl (Nat.le_of_ble_eq_true rfl) dX8_keyAt_22 ⟨Nat.zero_le _, Nat.zero_le _⟩ (fun H locs hw => ?_)
    refine lv_bipush (v := 32) hx hb dX8_keyAt_25 (by decide) ?_
    refine lv_icmp_eq (tgt := 33) hx hb dX8_keyAt_27 (by decide) (fun c_42 => ?_) (fun c_42 => ?_)
    · replace hf := if_t c_42 hf
      refine lv_iload hx hb dX8_keyAt_33 (lv_at hl 5 rfl) ?_
      refine lv_iload hx hb dX8_keyAt_35 (lv_at hl 4 rfl) ?_
      refine lv_isub hx hb dX8_keyAt_37 ?_
      refine lv_iload_n hx hb dX8_keyAt_38 rfl (lv_at hl 2 rfl) ?_
      refine lv_icmp_ne (tgt := 46) hx hb dX8_keyAt_39 (by decide) (fun c_43 => ?_) (fun c_43 => ?_)
      · replace hf := if_f c_43 hf
        refine lv_iconst (v := 0) hx hb dX8_keyAt_46 (by decide) ?_
        exact j47 v_1 v_2 v_3 0 _ _ _ hf hw (lv_sub hl [0, 1, 2, 3, 4, 5] rfl)
      · replace hf := if_t c_43 hf
        refine lv_iconst (v := 1) hx hb dX8_keyAt_42 (by decide) ?_
        refine lv_goto (tgt := 47) hx hb dX8_keyAt_43 (by decide) ?_
        exact j47 v_1 v_2 v_3 1 _ _ _ hf hw (lv_sub hl [0, 1, 2, 3, 4, 5] rfl)
    · replace hf := if_f c_42 hf
      refine lv_goto (tgt := 113) hx hb dX8_keyAt_30 (by decide) ?_
      obtain ⟨x_44, ex_44⟩ : ∃ z : Int32, z = v_3 + 1 := ⟨_, rfl⟩
      replace hf := bnd_of ex_44 hf
      refine lv_iinc (v := x_44) (lv' := [(5, .int x_44), (0, .ref (a 0)), (1, .int p1), (2, .int p2), (3, .int v_1), (4, .int v_2)]) hx hb dX8_keyAt_113 hl (k := 5) rfl (by rw [ex_44]; rfl) (by decide) rfl (fun ls hl => ?_)
      refine lv_goto (tgt := 8) hx hb dX8_keyAt_116 (by decide) ?_
      have e_45 := Option.some.inj hf
      exact hz1_0_8 _ e_45.symm _ _ _ hw (lv_sub hl [1, 2, 3, 4, 5, 0] rfl)
/-! DutyDeskModel.scan()V -/
def rm_X8_scan : Room := { frames := 5, cells := 0, slots := 0, locals := 112 }
def f_X8_scan_L133 (v_2 : Int32) : (Int32 × St) → Option ((Int32 × St) ⊕ ((Int32) ⊕ (St)))
  | (v_32, S_33) =>
  (f_X8_see S_33 v_32).bind (fun r_35 => (f_X8_isDigit r_35).bind (fun r_37 => (if r_37 = 0 then
    (if (v_32 - v_2) ≤ 4 then
    bnd (sI S_33 2 2) fun S_40 => bnd (sI S_40 5 v_32) fun S_41 => some (.inr (.inr (S_41)))
  else
    bnd (sI S_33 2 0) fun S_45 => bnd (sI S_45 5 v_32) fun S_46 => some (.inr (.inr (S_46))))
  else
    (if 4 ≤ (v_32 - v_2) then
    bnd (sI S_33 6 (gI S_33 6)) fun S_51 => bnd (v_32 + 1) fun x_52 => some (.inl (x_52, S_51))
  else
    (f_X8_see S_33 v_32).bind (fun r_55 => bnd (sI S_33 6 (((10 * (gI S_33 6)) + r_55) - 48)) fun S_56 => bnd (v_32 + 1) fun x_57 => some (.inl (x_57, S_56)))))))
def f_X8_scan_L69 (v_2 : Int32) (S_11 : St) : Int32 → Option ((Int32) ⊕ ((Int32) ⊕ (St)))
  | v_59 =>
  (f_X8_see S_11 v_59).bind (fun r_61 => (f_X8_isSmall r_61).bind (fun r_63 => (if r_63 = 0 then
    (f_X8_keyAt S_11 v_2 (v_59 - v_2)).bind (fun r_66 => bnd (sI S_11 3 r_66) fun S_67 => (if (gI S_67 3) = (-1) then
    bnd (sI S_67 2 0) fun S_74 => bnd (sI S_74 5 v_59) fun S_75 => some (.inr (.inr (S_75)))
  else
    bnd (sI S_67 2 1) fun S_69 => bnd (sI S_69 5 v_59) fun S_70 => some (.inr (.inr (S_70)))))
  else
    bnd (v_59 + 1) fun x_79 => some (.inl x_79))))
def f_X8_scan_L5 (S : St) : Int32 → Option ((Int32) ⊕ (St))
  | v_2 =>
  (f_X8_see S v_2).bind (fun r_4 => (if r_4 = 32 then
    bnd (v_2 + 1) fun x_6 => some (.inl x_6)
  else
    (f_X8_see S v_2).bind (fun r_9 => (if r_9 = 10 then
    bnd (v_2 + 1) fun x_85 => some (.inl x_85)
  else
    bnd (sI S 4 v_2) fun S_11 => (f_X8_see S_11 v_2).bind (fun r_13 => (if r_13 = (-1) then
    bnd (sI S_11 2 4) fun S_81 => bnd (sI S_81 5 v_2) fun S_82 => some (.inr (S_82))
  else
    bnd (v_2 + 1) fun x_15 => (f_X8_isSmall r_13).bind (fun r_17 => (if r_17 = 0 then
    (f_X8_isDigit r_13).bind (fun r_20 => (if r_20 = 0 then
    (if r_13 = 59 then
    bnd (sI S_11 2 3) fun S_27 => bnd (sI S_27 5 x_15) fun S_28 => some (.inr (S_28))
  else
    bnd (sI S_11 2 0) fun S_23 => bnd (sI S_23 5 x_15) fun S_24 => some (.inr (S_24)))
  else
    bnd (sI S_11 6 (r_13 - 48)) fun S_31 => loopF (f_X8_scan_L133 v_2) FU (x_15, S_31)))
  else
    loopF (f_X8_scan_L69 v_2 S_11) FU x_15))))))))
def f_X8_scan (S : St) : Option (St) :=
  bnd (gI S 5) fun x_1 => loopF (f_X8_scan_L5 S) FU x_1
set_option maxHeartbeats 4000000 in
set_option maxRecDepth 100000 in
theorem c_X8_scan (G : GP) (l : Launch) (a : Nat → Nat) (R : va_W) (S : St) (S9 : St) (hf : f_X8_scan S = some S9) : MC G l yX8_scan wsX8_scan rm_X8_scan [.ref (a 0)] (mw G.2.1 a R S) (mw G.2.1 a R S9) none 0 0 := by
  refine MC.mk (cc := cX8_scan) (maxL := 4) (ret := none) (by decide) rfl (Nat.le_of_ble_eq_true rfl) ?_
  intro p e s m below meth c A ls ⟨hx, hb, hr, hml, hown, hlocks, _, hts⟩ hw hG hA hl
  have hl : lv_has ls 4 [(0, .ref (a 0))] := hl
  have hin8 : ∀ w ∈ u_ws RX8 TX8 45, w ∈ wsX8_scan := by decide +kernel
  rw [f_X8_scan] at hf
  refine lv_aload_n hx hb dX8_scan_0 rfl (lv_at hl 0 rfl) ?_
  refine va_get (D := G.1) (ci := 8) (v := .int (gI S 5)) (C := RX8) (T := TX8) (N := 45) hx hb hts hin8 hown hG.1 hw.1 0 rfl rfl 6 (by decide) (hts (.fieldLink RX8 131 "DutyDeskModel" "end" "I") (List.mem_of_getElem? (i := 1) rfl)) (fun _ h9 => h9) rfl dX8_scan_1 ?_
  refine lv_topi (fun x_1 ex_1 => ?_)
  replace hf := bnd_of ex_1 hf
  refine lv_istore_n (lv' := [(1, .int x_1), (0, .ref (a 0))]) hx hb dX8_scan_4 rfl hl (by decide) rfl (fun ls hl => ?_)
  refine loopF_ind (body := f_X8_scan_L5 S) (fun (v_2 : Int32) => ∀ (H : Heap) (locs : List Loc) (ls : Array Slot), Wd G A s H locs (mw G.2.1 a R S) → lv_has ls 4 [(0, .ref (a 0)), (1, .int v_2)] → WQ p l e rm_X8_scan s m [.ref (a 0)] below meth c G A (mw G.2.1 a R S9) none 0 0 H locs 0 0 (F0 m 5 ls [])) ?_ FU x_1 hf _ _ _ hw (lv_sub hl [1, 0] rfl)
  clear hf hw hl
  intro v_2 t0_5 hf hz1_0_5 hz2_0_5 H locs ls hw hl
  rw [f_X8_scan_L5] at hf
  refine lv_aload_n hx hb dX8_scan_5 rfl (lv_at hl 0 rfl) ?_
  refine lv_iload_n hx hb dX8_scan_6 rfl (lv_at hl 1 rfl) ?_
  obtain ⟨r_4, h_3, hf⟩ := bind_of hf
  refine cV (As := [.int v_2]) (rest := []) ⟨hx, hb, hml, hown, hts⟩ hG hA hw (c_X8_see G l a R S v_2 r_4 h_3) (cwV 1 hts gX8_scan_X8_see rfl rfl rfl (by decide +kernel) ⟨Nat.le_of_ble_eq_true rfl, Nat.le_of_ble_eq_true rfl⟩) (va_recv hG.1 hw.1 (ci := 8) (q0 := 0) rfl rfl) rfl hl.1 rfl (Nat.le_of_ble_eq_true rfl) dX8_scan_7 ⟨Nat.zero_le _, Nat.zero_le _⟩ (fun H locs hw => ?_)
  refine lv_bipush (v := 32) hx hb dX8_scan_10 (by decide) ?_
  refine lv_icmp_eq (tgt := 25) hx hb dX8_scan_12 (by decide) (fun c_5 => ?_) (fun c_5 => ?_)
  · replace hf := if_t c_5 hf
    obtain ⟨x_6, ex_6⟩ : ∃ z : Int32, z = v_2 + 1 := ⟨_, rfl⟩
    replace hf := bnd_of ex_6 hf
    refine lv_iinc (v := x_6) (lv' := [(1, .int x_6), (0, .ref (a 0))]) hx hb dX8_scan_25 hl (k := 1) rfl (by rw [ex_6]; rfl) (by decide) rfl (fun ls hl => ?_)
    refine lv_goto (tgt := 5) hx hb dX8_scan_28 (by decide) ?_
    have e_7 := Option.some.inj hf
    exact hz1_0_5 _ e_7.symm _ _ _ hw (lv_sub hl [1, 0] rfl)
  · replace hf := if_f c_5 hf
    refine lv_aload_n hx hb dX8_scan_15 rfl (lv_at hl 0 rfl) ?_
    refine lv_iload_n hx hb dX8_scan_16 rfl (lv_at hl 1 rfl) ?_
    obtain ⟨r_9, h_8, hf⟩ := bind_of hf
    refine cV (As := [.int v_2]) (rest := []) ⟨hx, hb, hml, hown, hts⟩ hG hA hw (c_X8_see G l a R S v_2 r_9 h_8) (cwV 1 hts gX8_scan_X8_see rfl rfl rfl (by decide +kernel) ⟨Nat.le_of_ble_eq_true rfl, Nat.le_of_ble_eq_true rfl⟩) (va_recv hG.1 hw.1 (ci := 8) (q0 := 0) rfl rfl) rfl hl.1 rfl (Nat.le_of_ble_eq_true rfl) dX8_scan_17 ⟨Nat.zero_le _, Nat.zero_le _⟩ (fun H locs hw => ?_)
    refine lv_bipush (v := 10) hx hb dX8_scan_20 (by decide) ?_
    refine lv_icmp_ne (tgt := 31) hx hb dX8_scan_22 (by decide) (fun c_10 => ?_) (fun c_10 => ?_)
    · replace hf := if_f c_10 hf
      refine lv_aload_n hx hb dX8_scan_31 rfl (lv_at hl 0 rfl) ?_
      refine lv_iload_n hx hb dX8_scan_32 rfl (lv_at hl 1 rfl) ?_
      refine va_put (D := G.1) (ci := 8) (v := .int v_2) (ty := .int) (C := RX8) (T := TX8) (N := 45) hx hb hts hin8 tyX8 tyX8_ok nmX8 hown hG.1 hw.1 hw.2.1 hw.2.2 0 rfl rfl 5 (by decide) (hts (.fieldLink RX8 134 "DutyDeskModel" "at" "I") (List.mem_of_getElem? (i := 2) rfl)) (fun _ h9 => h9) rfl (by decide +kernel) rfl rfl (Nat.le_of_ble_eq_true rfl) dX8_scan_33 (fun H locs hP hD hS => ?_)
      obtain ⟨S_11, eS_11⟩ : ∃ z : St, z = sI S 4 v_2 := ⟨_, rfl⟩
      replace hf := bnd_of eS_11 hf
      have hw : Wd G A s H locs (mw G.2.1 a R S_11) := wd_eq (by rw [eS_11]; exact mw_upI4 _) hP hD hS
      refine lv_aload_n hx hb dX8_scan_36 rfl (lv_at hl 0 rfl) ?_
      refine lv_iload_n hx hb dX8_scan_37 rfl (lv_at hl 1 rfl) ?_
      obtain ⟨r_13, h_12, hf⟩ := bind_of hf
      refine cV (As := [.int v_2]) (rest := []) ⟨hx, hb, hml, hown, hts⟩ hG hA hw (c_X8_see G l a R S_11 v_2 r_13 h_12) (cwV 1 hts gX8_scan_X8_see rfl rfl rfl (by decide +kernel) ⟨Nat.le_of_ble_eq_true rfl, Nat.le_of_ble_eq_true rfl⟩) (va_recv hG.1 hw.1 (ci := 8) (q0 := 0) rfl rfl) rfl hl.1 rfl (Nat.le_of_ble_eq_true rfl) dX8_scan_38 ⟨Nat.zero_le _, Nat.zero_le _⟩ (fun H locs hw => ?_)
      refine lv_istore_n (lv' := [(2, .int r_13), (0, .ref (a 0)), (1, .int v_2)]) hx hb dX8_scan_41 rfl hl (by decide) rfl (fun ls hl => ?_)
      refine lv_iload_n hx hb dX8_scan_42 rfl (lv_at hl 0 rfl) ?_
      refine lv_iconst (v := (-1)) hx hb dX8_scan_43 (by decide) ?_
      refine lv_icmp_ne (tgt := 58) hx hb dX8_scan_44 (by decide) (fun c_14 => ?_) (fun c_14 => ?_)
      · replace hf := if_f c_14 hf
        refine lv_iload_n hx hb dX8_scan_58 rfl (lv_at hl 2 rfl) ?_
        refine lv_iconst (v := 1) hx hb dX8_scan_59 (by decide) ?_
        refine lv_iadd hx hb dX8_scan_60 ?_
        refine lv_topi (fun x_15 ex_15 => ?_)
        replace hf := bnd_of ex_15 hf
        refine lv_istore_n (lv' := [(3, .int x_15), (2, .int r_13), (0, .ref (a 0)), (1, .int v_2)]) hx hb dX8_scan_61 rfl hl (by decide) rfl (fun ls hl => ?_)
        refine lv_iload_n hx hb dX8_scan_62 rfl (lv_at hl 1 rfl) ?_
        obtain ⟨r_17, h_16, hf⟩ := bind_of hf
        refine cS (As := [.int r_13]) (rest := []) ⟨hx, hb, hml, hown, hts⟩ hG hA hw (c_X8_isSmall G l _ r_13 r_17 h_16) (va_cwS 1 hts gX8_scan_X8_isSmall rfl rfl rfl (by decide +kernel) ⟨Nat.le_of_ble_eq_true rfl, Nat.le_of_ble_eq_true rfl⟩) rfl hl.1 rfl (Nat.le_of_ble_eq_true rfl) dX8_scan_63 ⟨Nat.zero_le _, Nat.zero_le _⟩ (fun H locs hw => ?_)
        refine lv_if_eq (tgt := 118) hx hb dX8_scan_66 (by decide) (fun c_18 => ?_) (fun c_18 => ?_)
        · replace hf := if_t c_18 hf
          refine lv_iload_n hx hb dX8_scan_118 rfl (lv_at hl 1 rfl) ?_
          obtain ⟨r_20, h_19, hf⟩ := bind_of hf
          refine cS (As := [.int r_13]) (rest := []) ⟨hx, hb, hml, hown, hts⟩ hG hA hw (c_X8_isDigit G l _ r_13 r_20 h_19) (va_cwS 1 hts gX8_scan_X8_isDigit rfl rfl rfl (by decide +kernel) ⟨Nat.le_of_ble_eq_true rfl, Nat.le_of_ble_eq_true rfl⟩) rfl hl.1 rfl (Nat.le_of_ble_eq_true rfl) dX8_scan_119 ⟨Nat.zero_le _, Nat.zero_le _⟩ (fun H locs hw => ?_)
          refine lv_if_eq (tgt := 203) hx hb dX8_scan_122 (by decide) (fun c_21 => ?_) (fun c_21 => ?_)
          · replace hf := if_t c_21 hf
            refine lv_aload_n hx hb dX8_scan_203 rfl (lv_at hl 2 rfl) ?_
            refine lv_iload_n hx hb dX8_scan_204 rfl (lv_at hl 1 rfl) ?_
            refine lv_bipush (v := 59) hx hb dX8_scan_205 (by decide) ?_
            refine lv_icmp_ne (tgt := 214) hx hb dX8_scan_207 (by decide) (fun c_22 => ?_) (fun c_22 => ?_)
            · replace hf := if_f c_22 hf
              refine lv_iconst (v := 0) hx hb dX8_scan_214 (by decide) ?_
              refine va_put (D := G.1) (ci := 8) (v := .int 0) (ty := .int) (C := RX8) (T := TX8) (N := 45) hx hb hts hin8 tyX8 tyX8_ok nmX8 hown hG.1 hw.1 hw.2.1 hw.2.2 0 rfl rfl 3 (by decide) (hts (.fieldLink RX8 137 "DutyDeskModel" "sort" "I") (List.mem_of_getElem? (i := 3) rfl)) (fun _ h9 => h9) rfl (by decide +kernel) rfl rfl (Nat.le_of_ble_eq_true rfl) dX8_scan_215 (fun H locs hP hD hS => ?_)
              obtain ⟨S_23, eS_23⟩ : ∃ z : St, z = sI S_11 2 0 := ⟨_, rfl⟩
              replace hf := bnd_of eS_23 hf
              have hw : Wd G A s H locs (mw G.2.1 a R S_23) := wd_eq (by rw [eS_23]; exact mw_upI2 _) hP hD hS
              refine lv_aload_n hx hb dX8_scan_218 rfl (lv_at hl 2 rfl) ?_
              refine lv_iload_n hx hb dX8_scan_219 rfl (lv_at hl 0 rfl) ?_
              refine va_put (D := G.1) (ci := 8) (v := .int x_15) (ty := .int) (C := RX8) (T := TX8) (N := 45) hx hb hts hin8 tyX8 tyX8_ok nmX8 hown hG.1 hw.1 hw.2.1 hw.2.2 0 rfl rfl 6 (by decide) (hts (.fieldLink RX8 131 "DutyDeskModel" "end" "I") (List.mem_of_getElem? (i := 1) rfl)) (fun _ h9 => h9) rfl (by decide +kernel) rfl rfl (Nat.le_of_ble_eq_true rfl) dX8_scan_220 (fun H locs hP hD hS => ?_)
              obtain ⟨S_24, eS_24⟩ : ∃ z : St, z = sI S_23 5 x_15 := ⟨_, rfl⟩
              replace hf := bnd_of eS_24 hf
              have hw : Wd G A s H locs (mw G.2.1 a R S_24) := wd_eq (by rw [eS_24]; exact mw_upI5 _) hP hD hS
              have e_25 := Option.some.inj hf
              have e_26 := hz2_0_5 _ e_25.symm
              subst e_26
              exact wd_vret hx hb hr hlocks hw dX8_scan_223
            · replace hf := if_t c_22 hf
              refine lv_iconst (v := 3) hx hb dX8_scan_210 (by decide) ?_
              refine lv_goto (tgt := 215) hx hb dX8_scan_211 (by decide) ?_
              refine va_put (D := G.1) (ci := 8) (v := .int 3) (ty := .int) (C := RX8) (T := TX8) (N := 45) hx hb hts hin8 tyX8 tyX8_ok nmX8 hown hG.1 hw.1 hw.2.1 hw.2.2 0 rfl rfl 3 (by decide) (hts (.fieldLink RX8 137 "DutyDeskModel" "sort" "I") (List.mem_of_getElem? (i := 3) rfl)) (fun _ h9 => h9) rfl (by decide +kernel) rfl rfl (Nat.le_of_ble_eq_true rfl) dX8_scan_215 (fun H locs hP hD hS => ?_)
              obtain ⟨S_27, eS_27⟩ : ∃ z : St, z = sI S_11 2 3 := ⟨_, rfl⟩
              replace hf := bnd_of eS_27 hf
              have hw : Wd G A s H locs (mw G.2.1 a R S_27) := wd_eq (by rw [eS_27]; exact mw_upI2 _) hP hD hS
              refine lv_aload_n hx hb dX8_scan_218 rfl (lv_at hl 2 rfl) ?_
              refine lv_iload_n hx hb dX8_scan_219 rfl (lv_at hl 0 rfl) ?_
              refine va_put (D := G.1) (ci := 8) (v := .int x_15) (ty := .int) (C := RX8) (T := TX8) (N := 45) hx hb hts hin8 tyX8 tyX8_ok nmX8 hown hG.1 hw.1 hw.2.1 hw.2.2 0 rfl rfl 6 (by decide) (hts (.fieldLink RX8 131 "DutyDeskModel" "end" "I") (List.mem_of_getElem? (i := 1) rfl)) (fun _ h9 => h9) rfl (by decide +kernel) rfl rfl (Nat.le_of_ble_eq_true rfl) dX8_scan_220 (fun H locs hP hD hS => ?_)
              obtain ⟨S_28, eS_28⟩ : ∃ z : St, z = sI S_27 5 x_15 := ⟨_, rfl⟩
              replace hf := bnd_of eS_28 hf
              have hw : Wd G A s H locs (mw G.2.1 a R S_28) := wd_eq (by rw [eS_28]; exact mw_upI5 _) hP hD hS
              have e_29 := Option.some.inj hf
              have e_30 := hz2_0_5 _ e_29.symm
              subst e_30
              exact wd_vret hx hb hr hlocks hw dX8_scan_223
          · replace hf := if_f c_21 hf
            refine lv_aload_n hx hb dX8_scan_125 rfl (lv_at hl 2 rfl) ?_
            refine lv_iload_n hx hb dX8_scan_126 rfl (lv_at hl 1 rfl) ?_
            refine lv_bipush (v := 48) hx hb dX8_scan_127 (by decide) ?_
            refine lv_isub hx hb dX8_scan_129 ?_
            refine va_put (D := G.1) (ci := 8) (v := .int (r_13 - 48)) (ty := .int) (C := RX8) (T := TX8) (N := 45) hx hb hts hin8 tyX8 tyX8_ok nmX8 hown hG.1 hw.1 hw.2.1 hw.2.2 0 rfl rfl 7 (by decide) (hts (.fieldLink RX8 154 "DutyDeskModel" "worth" "I") (List.mem_of_getElem? (i := 5) rfl)) (fun _ h9 => h9) rfl (by decide +kernel) rfl rfl (Nat.le_of_ble_eq_true rfl) dX8_scan_130 (fun H locs hP hD hS => ?_)
            obtain ⟨S_31, eS_31⟩ : ∃ z : St, z = sI S_11 6 (r_13 - 48) := ⟨_, rfl⟩
            replace hf := bnd_of eS_31 hf
            have hw : Wd G A s H locs (mw G.2.1 a R S_31) := wd_eq (by rw [eS_31]; exact mw_upI6 _) hP hD hS
            refine loopF_ind (body := f_X8_scan_L133 v_2) (fun (q : Int32 × St) => match q with | (v_32, S_33) => ∀ (H : Heap) (locs : List Loc) (ls : Array Slot), Wd G A s H locs (mw G.2.1 a R S_33) → lv_has ls 4 [(0, .ref (a 0)), (1, .int v_2), (3, .int v_32)] → WQ p l e rm_X8_scan s m [.ref (a 0)] below meth c G A (mw G.2.1 a R S9) none 0 0 H locs 0 0 (F0 m 133 ls [])) ?_ FU (x_15, S_31) hf _ _ _ hw (lv_sub hl [2, 3, 0] rfl)
            clear hf hw hl
            intro ⟨v_32, S_33⟩ t1_133 hf hz1_1_133 hz2_1_133 H locs ls hw hl
            rw [f_X8_scan_L133] at hf
            refine lv_aload_n hx hb dX8_scan_133 rfl (lv_at hl 0 rfl) ?_
            refine lv_iload_n hx hb dX8_scan_134 rfl (lv_at hl 2 rfl) ?_
            obtain ⟨r_35, h_34, hf⟩ := bind_of hf
            refine cV (As := [.int v_32]) (rest := []) ⟨hx, hb, hml, hown, hts⟩ hG hA hw (c_X8_see G l a R S_33 v_32 r_35 h_34) (cwV 1 hts gX8_scan_X8_see rfl rfl rfl (by decide +kernel) ⟨Nat.le_of_ble_eq_true rfl, Nat.le_of_ble_eq_true rfl⟩) (va_recv hG.1 hw.1 (ci := 8) (q0 := 0) rfl rfl) rfl hl.1 rfl (Nat.le_of_ble_eq_true rfl) dX8_scan_135 ⟨Nat.zero_le _, Nat.zero_le _⟩ (fun H locs hw => ?_)
            obtain ⟨r_37, h_36, hf⟩ := bind_of hf
            refine cS (As := [.int r_35]) (rest := []) ⟨hx, hb, hml, hown, hts⟩ hG hA hw (c_X8_isDigit G l _ r_35 r_37 h_36) (va_cwS 1 hts gX8_scan_X8_isDigit rfl rfl rfl (by decide +kernel) ⟨Nat.le_of_ble_eq_true rfl, Nat.le_of_ble_eq_true rfl⟩) rfl hl.1 rfl (Nat.le_of_ble_eq_true rfl) dX8_scan_138 ⟨Nat.zero_le _, Nat.zero_le _⟩ (fun H locs hw => ?_)
            refine lv_if_eq (tgt := 184) hx hb dX8_scan_141 (by decide) (fun c_38 => ?_) (fun c_38 => ?_)
            · replace hf := if_t c_38 hf
              refine lv_aload_n hx hb dX8_scan_184 rfl (lv_at hl 0 rfl) ?_
              refine lv_iload_n hx hb dX8_scan_185 rfl (lv_at hl 2 rfl) ?_
              refine lv_iload_n hx hb dX8_scan_186 rfl (lv_at hl 1 rfl) ?_
              refine lv_isub hx hb dX8_scan_187 ?_
              refine lv_iconst (v := 4) hx hb dX8_scan_188 (by decide) ?_
              refine lv_icmp_le (tgt := 196) hx hb dX8_scan_189 (by decide) (fun c_39 => ?_) (fun c_39 => ?_)
              · replace hf := if_t c_39 hf
                refine lv_iconst (v := 2) hx hb dX8_scan_196 (by decide) ?_
                refine va_put (D := G.1) (ci := 8) (v := .int 2) (ty := .int) (C := RX8) (T := TX8) (N := 45) hx hb hts hin8 tyX8 tyX8_ok nmX8 hown hG.1 hw.1 hw.2.1 hw.2.2 0 rfl rfl 3 (by decide) (hts (.fieldLink RX8 137 "DutyDeskModel" "sort" "I") (List.mem_of_getElem? (i := 3) rfl)) (fun _ h9 => h9) rfl (by decide +kernel) rfl rfl (Nat.le_of_ble_eq_true rfl) dX8_scan_197 (fun H locs hP hD hS => ?_)
                obtain ⟨S_40, eS_40⟩ : ∃ z : St, z = sI S_33 2 2 := ⟨_, rfl⟩
                replace hf := bnd_of eS_40 hf
                have hw : Wd G A s H locs (mw G.2.1 a R S_40) := wd_eq (by rw [eS_40]; exact mw_upI2 _) hP hD hS
                refine lv_goto (tgt := 218) hx hb dX8_scan_200 (by decide) ?_
                refine lv_aload_n hx hb dX8_scan_218 rfl (lv_at hl 0 rfl) ?_
                refine lv_iload_n hx hb dX8_scan_219 rfl (lv_at hl 2 rfl) ?_
                refine va_put (D := G.1) (ci := 8) (v := .int v_32) (ty := .int) (C := RX8) (T := TX8) (N := 45) hx hb hts hin8 tyX8 tyX8_ok nmX8 hown hG.1 hw.1 hw.2.1 hw.2.2 0 rfl rfl 6 (by decide) (hts (.fieldLink RX8 131 "DutyDeskModel" "end" "I") (List.mem_of_getElem? (i := 1) rfl)) (fun _ h9 => h9) rfl (by decide +kernel) rfl rfl (Nat.le_of_ble_eq_true rfl) dX8_scan_220 (fun H locs hP hD hS => ?_)
                obtain ⟨S_41, eS_41⟩ : ∃ z : St, z = sI S_40 5 v_32 := ⟨_, rfl⟩
                replace hf := bnd_of eS_41 hf
                have hw : Wd G A s H locs (mw G.2.1 a R S_41) := wd_eq (by rw [eS_41]; exact mw_upI5 _) hP hD hS
                have e_42 := Option.some.inj hf
                have e_43 := hz2_1_133 _ e_42.symm
                have e_44 := hz2_0_5 _ e_43.symm
                subst e_44
                exact wd_vret hx hb hr hlocks hw dX8_scan_223
              · replace hf := if_f c_39 hf
                refine lv_iconst (v := 0) hx hb dX8_scan_192 (by decide) ?_
                refine lv_goto (tgt := 197) hx hb dX8_scan_193 (by decide) ?_
                refine va_put (D := G.1) (ci := 8) (v := .int 0) (ty := .int) (C := RX8) (T := TX8) (N := 45) hx hb hts hin8 tyX8 tyX8_ok nmX8 hown hG.1 hw.1 hw.2.1 hw.2.2 0 rfl rfl 3 (by decide) (hts (.fieldLink RX8 137 "DutyDeskModel" "sort" "I") (List.mem_of_getElem? (i := 3) rfl)) (fun _ h9 => h9) rfl (by decide +kernel) rfl rfl (Nat.le_of_ble_eq_true rfl) dX8_scan_197 (fun H locs hP hD hS => ?_)
                obtain ⟨S_45, eS_45⟩ : ∃ z : St, z = sI S_33 2 0 := ⟨_, rfl⟩
                replace hf := bnd_of eS_45 hf
                have hw : Wd G A s H locs (mw G.2.1 a R S_45) := wd_eq (by rw [eS_45]; exact mw_upI2 _) hP hD hS
                refine lv_goto (tgt := 218) hx hb dX8_scan_200 (by decide) ?_
                refine lv_aload_n hx hb dX8_scan_218 rfl (lv_at hl 0 rfl) ?_
                refine lv_iload_n hx hb dX8_scan_219 rfl (lv_at hl 2 rfl) ?_
                refine va_put (D := G.1) (ci := 8) (v := .int v_32) (ty := .int) (C := RX8) (T := TX8) (N := 45) hx hb hts hin8 tyX8 tyX8_ok nmX8 hown hG.1 hw.1 hw.2.1 hw.2.2 0 rfl rfl 6 (by decide) (hts (.fieldLink RX8 131 "DutyDeskModel" "end" "I") (List.mem_of_getElem? (i := 1) rfl)) (fun _ h9 => h9) rfl (by decide +kernel) rfl rfl (Nat.le_of_ble_eq_true rfl) dX8_scan_220 (fun H locs hP hD hS => ?_)
                obtain ⟨S_46, eS_46⟩ : ∃ z : St, z = sI S_45 5 v_32 := ⟨_, rfl⟩
                replace hf := bnd_of eS_46 hf
                have hw : Wd G A s H locs (mw G.2.1 a R S_46) := wd_eq (by rw [eS_46]; exact mw_upI5 _) hP hD hS
                have e_47 := Option.some.inj hf
                have e_48 := hz2_1_133 _ e_47.symm
                have e_49 := hz2_0_5 _ e_48.symm
                subst e_49
                exact wd_vret hx hb hr hlocks hw dX8_scan_223
            · replace hf := if_f c_38 hf
              refine lv_aload_n hx hb dX8_scan_144 rfl (lv_at hl 0 rfl) ?_
              refine lv_iload_n hx hb dX8_scan_145 rfl (lv_at hl 2 rfl) ?_
              refine lv_iload_n hx hb dX8_scan_146 rfl (lv_at hl 1 rfl) ?_
              refine lv_isub hx hb dX8_scan_147 ?_
              refine lv_iconst (v := 4) hx hb dX8_scan_148 (by decide) ?_
              refine lv_icmp_ge (tgt := 171) hx hb dX8_scan_149 (by decide) (fun c_50 => ?_) (fun c_50 => ?_)
              · replace hf := if_t c_50 hf
                refine lv_aload_n hx hb dX8_scan_171 rfl (lv_at hl 0 rfl) ?_
                refine va_get (D := G.1) (ci := 8) (v := .int (gI S_33 6)) (C := RX8) (T := TX8) (N := 45) hx hb hts hin8 hown hG.1 hw.1 0 rfl rfl 7 (by decide) (hts (.fieldLink RX8 154 "DutyDeskModel" "worth" "I") (List.mem_of_getElem? (i := 5) rfl)) (fun _ h9 => h9) rfl dX8_scan_172 ?_
                refine va_put (D := G.1) (ci := 8) (v := .int (gI S_33 6)) (ty := .int) (C := RX8) (T := TX8) (N := 45) hx hb hts hin8 tyX8 tyX8_ok nmX8 hown hG.1 hw.1 hw.2.1 hw.2.2 0 rfl rfl 7 (by decide) (hts (.fieldLink RX8 154 "DutyDeskModel" "worth" "I") (List.mem_of_getElem? (i := 5) rfl)) (fun _ h9 => h9) rfl (by decide +kernel) rfl rfl (Nat.le_of_ble_eq_true rfl) dX8_scan_175 (fun H locs hP hD hS => ?_)
                obtain ⟨S_51, eS_51⟩ : ∃ z : St, z = sI S_33 6 (gI S_33 6) := ⟨_, rfl⟩
                replace hf := bnd_of eS_51 hf
                have hw : Wd G A s H locs (mw G.2.1 a R S_51) := wd_eq (by rw [eS_51]; exact mw_upI6 _) hP hD hS
                obtain ⟨x_52, ex_52⟩ : ∃ z : Int32, z = v_32 + 1 := ⟨_, rfl⟩
                replace hf := bnd_of ex_52 hf
                refine lv_iinc (v := x_52) (lv' := [(3, .int x_52), (0, .ref (a 0)), (1, .int v_2)]) hx hb dX8_scan_178 hl (k := 2) rfl (by rw [ex_52]; rfl) (by decide) rfl (fun ls hl => ?_)
                refine lv_goto (tgt := 133) hx hb dX8_scan_181 (by decide) ?_
                have e_53 := Option.some.inj hf
                exact hz1_1_133 _ e_53.symm _ _ _ hw (lv_sub hl [1, 2, 0] rfl)
              · replace hf := if_f c_50 hf
                refine lv_bipush (v := 10) hx hb dX8_scan_152 (by decide) ?_
                refine lv_aload_n hx hb dX8_scan_154 rfl (lv_at hl 0 rfl) ?_
                refine va_get (D := G.1) (ci := 8) (v := .int (gI S_33 6)) (C := RX8) (T := TX8) (N := 45) hx hb hts hin8 hown hG.1 hw.1 0 rfl rfl 7 (by decide) (hts (.fieldLink RX8 154 "DutyDeskModel" "worth" "I") (List.mem_of_getElem? (i := 5) rfl)) (fun _ h9 => h9) rfl dX8_scan_155 ?_
                refine lv_imul hx hb dX8_scan_158 ?_
                refine lv_aload_n hx hb dX8_scan_159 rfl (lv_at hl 0 rfl) ?_
                refine lv_iload_n hx hb dX8_scan_160 rfl (lv_at hl 2 rfl) ?_
                obtain ⟨r_55, h_54, hf⟩ := bind_of hf
                refine cV (As := [.int v_32]) (rest := [.int (10 * (gI S_33 6)), .ref (a 0)]) ⟨hx, hb, hml, hown, hts⟩ hG hA hw (c_X8_see G l a R S_33 v_32 r_55 h_54) (cwV 1 hts gX8_scan_X8_see rfl rfl rfl (by decide +kernel) ⟨Nat.le_of_ble_eq_true rfl, Nat.le_of_ble_eq_true rfl⟩) (va_recv hG.1 hw.1 (ci := 8) (q0 := 0) rfl rfl) rfl hl.1 rfl (Nat.le_of_ble_eq_true rfl) dX8_scan_161 ⟨Nat.zero_le _, Nat.zero_le _⟩ (fun H locs hw => ?_)
                refine lv_iadd hx hb dX8_scan_164 ?_
                refine lv_bipush (v := 48) hx hb dX8_scan_165 (by decide) ?_
                refine lv_isub hx hb dX8_scan_167 ?_
                refine lv_goto (tgt := 175) hx hb dX8_scan_168 (by decide) ?_
                refine va_put (D := G.1) (ci := 8) (v := .int (((10 * (gI S_33 6)) + r_55) - 48)) (ty := .int) (C := RX8) (T := TX8) (N := 45) hx hb hts hin8 tyX8 tyX8_ok nmX8 hown hG.1 hw.1 hw.2.1 hw.2.2 0 rfl rfl 7 (by decide) (hts (.fieldLink RX8 154 "DutyDeskModel" "worth" "I") (List.mem_of_getElem? (i := 5) rfl)) (fun _ h9 => h9) rfl (by decide +kernel) rfl rfl (Nat.le_of_ble_eq_true rfl) dX8_scan_175 (fun H locs hP hD hS => ?_)
                obtain ⟨S_56, eS_56⟩ : ∃ z : St, z = sI S_33 6 (((10 * (gI S_33 6)) + r_55) - 48) := ⟨_, rfl⟩
                replace hf := bnd_of eS_56 hf
                have hw : Wd G A s H locs (mw G.2.1 a R S_56) := wd_eq (by rw [eS_56]; exact mw_upI6 _) hP hD hS
                obtain ⟨x_57, ex_57⟩ : ∃ z : Int32, z = v_32 + 1 := ⟨_, rfl⟩
                replace hf := bnd_of ex_57 hf
                refine lv_iinc (v := x_57) (lv' := [(3, .int x_57), (0, .ref (a 0)), (1, .int v_2)]) hx hb dX8_scan_178 hl (k := 2) rfl (by rw [ex_57]; rfl) (by decide) rfl (fun ls hl => ?_)
                refine lv_goto (tgt := 133) hx hb dX8_scan_181 (by decide) ?_
                have e_58 := Option.some.inj hf
                exact hz1_1_133 _ e_58.symm _ _ _ hw (lv_sub hl [1, 2, 0] rfl)
        · replace hf := if_f c_18 hf
          refine loopF_ind (body := f_X8_scan_L69 v_2 S_11) (fun (v_59 : Int32) => ∀ (H : Heap) (locs : List Loc) (ls : Array Slot), Wd G A s H locs (mw G.2.1 a R S_11) → lv_has ls 4 [(0, .ref (a 0)), (1, .int v_2), (3, .int v_59)] → WQ p l e rm_X8_scan s m [.ref (a 0)] below meth c G A (mw G.2.1 a R S9) none 0 0 H locs 0 0 (F0 m 69 ls [])) ?_ FU x_15 hf _ _ _ hw (lv_sub hl [2, 3, 0] rfl)
          clear hf hw hl
          intro v_59 t1_69 hf hz1_1_69 hz2_1_69 H locs ls hw hl
          rw [f_X8_scan_L69] at hf
          refine lv_aload_n hx hb dX8_scan_69 rfl (lv_at hl 0 rfl) ?_
          refine lv_iload_n hx hb dX8_scan_70 rfl (lv_at hl 2 rfl) ?_
          obtain ⟨r_61, h_60, hf⟩ := bind_of hf
          refine cV (As := [.int v_59]) (rest := []) ⟨hx, hb, hml, hown, hts⟩ hG hA hw (c_X8_see G l a R S_11 v_59 r_61 h_60) (cwV 1 hts gX8_scan_X8_see rfl rfl rfl (by decide +kernel) ⟨Nat.le_of_ble_eq_true rfl, Nat.le_of_ble_eq_true rfl⟩) (va_recv hG.1 hw.1 (ci := 8) (q0 := 0) rfl rfl) rfl hl.1 rfl (Nat.le_of_ble_eq_true rfl) dX8_scan_71 ⟨Nat.zero_le _, Nat.zero_le _⟩ (fun H locs hw => ?_)
          obtain ⟨r_63, h_62, hf⟩ := bind_of hf
          refine cS (As := [.int r_61]) (rest := []) ⟨hx, hb, hml, hown, hts⟩ hG hA hw (c_X8_isSmall G l _ r_61 r_63 h_62) (va_cwS 1 hts gX8_scan_X8_isSmall rfl rfl rfl (by decide +kernel) ⟨Nat.le_of_ble_eq_true rfl, Nat.le_of_ble_eq_true rfl⟩) rfl hl.1 rfl (Nat.le_of_ble_eq_true rfl) dX8_scan_74 ⟨Nat.zero_le _, Nat.zero_le _⟩ (fun H locs hw => ?_)
          refine lv_if_eq (tgt := 86) hx hb dX8_scan_77 (by decide) (fun c_64 => ?_) (fun c_64 => ?_)
          · replace hf := if_t c_64 hf
            refine lv_aload_n hx hb dX8_scan_86 rfl (lv_at hl 0 rfl) ?_
            refine lv_aload_n hx hb dX8_scan_87 rfl (lv_at hl 0 rfl) ?_
            refine lv_iload_n hx hb dX8_scan_88 rfl (lv_at hl 1 rfl) ?_
            refine lv_iload_n hx hb dX8_scan_89 rfl (lv_at hl 2 rfl) ?_
            refine lv_iload_n hx hb dX8_scan_90 rfl (lv_at hl 1 rfl) ?_
            refine lv_isub hx hb dX8_scan_91 ?_
            obtain ⟨r_66, h_65, hf⟩ := bind_of hf
            refine cV (As := [.int v_2, .int (v_59 - v_2)]) (rest := [.ref (a 0)]) ⟨hx, hb, hml, hown, hts⟩ hG hA hw (c_X8_keyAt G l a R S_11 v_2 (v_59 - v_2) r_66 h_65) (cwV 2 hts gX8_scan_X8_keyAt rfl rfl rfl (by decide +kernel) ⟨Nat.le_of_ble_eq_true rfl, Nat.le_of_ble_eq_true rfl⟩) (va_recv hG.1 hw.1 (ci := 8) (q0 := 0) rfl rfl) rfl hl.1 rfl (Nat.le_of_ble_eq_true rfl) dX8_scan_92 ⟨Nat.zero_le _, Nat.zero_le _⟩ (fun H locs hw => ?_)
            refine va_put (D := G.1) (ci := 8) (v := .int r_66) (ty := .int) (C := RX8) (T := TX8) (N := 45) hx hb hts hin8 tyX8 tyX8_ok nmX8 hown hG.1 hw.1 hw.2.1 hw.2.2 0 rfl rfl 4 (by decide) (hts (.fieldLink RX8 148 "DutyDeskModel" "what" "I") (List.mem_of_getElem? (i := 4) rfl)) (fun _ h9 => h9) rfl (by decide +kernel) rfl rfl (Nat.le_of_ble_eq_true rfl) dX8_scan_95 (fun H locs hP hD hS => ?_)
            obtain ⟨S_67, eS_67⟩ : ∃ z : St, z = sI S_11 3 r_66 := ⟨_, rfl⟩
            replace hf := bnd_of eS_67 hf
            have hw : Wd G A s H locs (mw G.2.1 a R S_67) := wd_eq (by rw [eS_67]; exact mw_upI3 _) hP hD hS
            refine lv_aload_n hx hb dX8_scan_98 rfl (lv_at hl 0 rfl) ?_
            refine lv_aload_n hx hb dX8_scan_99 rfl (lv_at hl 0 rfl) ?_
            refine va_get (D := G.1) (ci := 8) (v := .int (gI S_67 3)) (C := RX8) (T := TX8) (N := 45) hx hb hts hin8 hown hG.1 hw.1 0 rfl rfl 4 (by decide) (hts (.fieldLink RX8 148 "DutyDeskModel" "what" "I") (List.mem_of_getElem? (i := 4) rfl)) (fun _ h9 => h9) rfl dX8_scan_100 ?_
            refine lv_iconst (v := (-1)) hx hb dX8_scan_103 (by decide) ?_
            refine lv_icmp_ne (tgt := 111) hx hb dX8_scan_104 (by decide) (fun c_68 => ?_) (fun c_68 => ?_)
            · replace hf := if_f c_68 hf
              refine lv_iconst (v := 1) hx hb dX8_scan_111 (by decide) ?_
              refine va_put (D := G.1) (ci := 8) (v := .int 1) (ty := .int) (C := RX8) (T := TX8) (N := 45) hx hb hts hin8 tyX8 tyX8_ok nmX8 hown hG.1 hw.1 hw.2.1 hw.2.2 0 rfl rfl 3 (by decide) (hts (.fieldLink RX8 137 "DutyDeskModel" "sort" "I") (List.mem_of_getElem? (i := 3) rfl)) (fun _ h9 => h9) rfl (by decide +kernel) rfl rfl (Nat.le_of_ble_eq_true rfl) dX8_scan_112 (fun H locs hP hD hS => ?_)
              obtain ⟨S_69, eS_69⟩ : ∃ z : St, z = sI S_67 2 1 := ⟨_, rfl⟩
              replace hf := bnd_of eS_69 hf
              have hw : Wd G A s H locs (mw G.2.1 a R S_69) := wd_eq (by rw [eS_69]; exact mw_upI2 _) hP hD hS
              refine lv_goto (tgt := 218) hx hb dX8_scan_115 (by decide) ?_
              refine lv_aload_n hx hb dX8_scan_218 rfl (lv_at hl 0 rfl) ?_
              refine lv_iload_n hx hb dX8_scan_219 rfl (lv_at hl 2 rfl) ?_
              refine va_put (D := G.1) (ci := 8) (v := .int v_59) (ty := .int) (C := RX8) (T := TX8) (N := 45) hx hb hts hin8 tyX8 tyX8_ok nmX8 hown hG.1 hw.1 hw.2.1 hw.2.2 0 rfl rfl 6 (by decide) (hts (.fieldLink RX8 131 "DutyDeskModel" "end" "I") (List.mem_of_getElem? (i := 1) rfl)) (fun _ h9 => h9) rfl (by decide +kernel) rfl rfl (Nat.le_of_ble_eq_true rfl) dX8_scan_220 (fun H locs hP hD hS => ?_)
              obtain ⟨S_70, eS_70⟩ : ∃ z : St, z = sI S_69 5 v_59 := ⟨_, rfl⟩
              replace hf := bnd_of eS_70 hf
              have hw : Wd G A s H locs (mw G.2.1 a R S_70) := wd_eq (by rw [eS_70]; exact mw_upI5 _) hP hD hS
              have e_71 := Option.some.inj hf
              have e_72 := hz2_1_69 _ e_71.symm
              have e_73 := hz2_0_5 _ e_72.symm
              subst e_73
              exact wd_vret hx hb hr hlocks hw dX8_scan_223
            · replace hf := if_t c_68 hf
              refine lv_iconst (v := 0) hx hb dX8_scan_107 (by decide) ?_
              refine lv_goto (tgt := 112) hx hb dX8_scan_108 (by decide) ?_
              refine va_put (D := G.1) (ci := 8) (v := .int 0) (ty := .int) (C := RX8) (T := TX8) (N := 45) hx hb hts hin8 tyX8 tyX8_ok nmX8 hown hG.1 hw.1 hw.2.1 hw.2.2 0 rfl rfl 3 (by decide) (hts (.fieldLink RX8 137 "DutyDeskModel" "sort" "I") (List.mem_of_getElem? (i := 3) rfl)) (fun _ h9 => h9) rfl (by decide +kernel) rfl rfl (Nat.le_of_ble_eq_true rfl) dX8_scan_112 (fun H locs hP hD hS => ?_)
              obtain ⟨S_74, eS_74⟩ : ∃ z : St, z = sI S_67 2 0 := ⟨_, rfl⟩
              replace hf := bnd_of eS_74 hf
              have hw : Wd G A s H locs (mw G.2.1 a R S_74) := wd_eq (by rw [eS_74]; exact mw_upI2 _) hP hD hS
              refine lv_goto (tgt := 218) hx hb dX8_scan_115 (by decide) ?_
              refine lv_aload_n hx hb dX8_scan_218 rfl (lv_at hl 0 rfl) ?_
              refine lv_iload_n hx hb dX8_scan_219 rfl (lv_at hl 2 rfl) ?_
              refine va_put (D := G.1) (ci := 8) (v := .int v_59) (ty := .int) (C := RX8) (T := TX8) (N := 45) hx hb hts hin8 tyX8 tyX8_ok nmX8 hown hG.1 hw.1 hw.2.1 hw.2.2 0 rfl rfl 6 (by decide) (hts (.fieldLink RX8 131 "DutyDeskModel" "end" "I") (List.mem_of_getElem? (i := 1) rfl)) (fun _ h9 => h9) rfl (by decide +kernel) rfl rfl (Nat.le_of_ble_eq_true rfl) dX8_scan_220 (fun H locs hP hD hS => ?_)
              obtain ⟨S_75, eS_75⟩ : ∃ z : St, z = sI S_74 5 v_59 := ⟨_, rfl⟩
              replace hf := bnd_of eS_75 hf
              have hw : Wd G A s H locs (mw G.2.1 a R S_75) := wd_eq (by rw [eS_75]; exact mw_upI5 _) hP hD hS
              have e_76 := Option.some.inj hf
              have e_77 := hz2_1_69 _ e_76.symm
              have e_78 := hz2_0_5 _ e_77.symm
              subst e_78
              exact wd_vret hx hb hr hlocks hw dX8_scan_223
          · replace hf := if_f c_64 hf
            obtain ⟨x_79, ex_79⟩ : ∃ z : Int32, z = v_59 + 1 := ⟨_, rfl⟩
            replace hf := bnd_of ex_79 hf
            refine lv_iinc (v := x_79) (lv' := [(3, .int x_79), (0, .ref (a 0)), (1, .int v_2)]) hx hb dX8_scan_80 hl (k := 2) rfl (by rw [ex_79]; rfl) (by decide) rfl (fun ls hl => ?_)
            refine lv_goto (tgt := 69) hx hb dX8_scan_83 (by decide) ?_
            have e_80 := Option.some.inj hf
            exact hz1_1_69 _ e_80.symm _ _ _ hw (lv_sub hl [1, 2, 0] rfl)
      · replace hf := if_t c_14 hf
        refine lv_aload_n hx hb dX8_scan_47 rfl (lv_at hl 1 rfl) ?_
        refine lv_iconst (v := 4) hx hb dX8_scan_48 (by decide) ?_
        refine va_put (D := G.1) (ci := 8) (v := .int 4) (ty := .int) (C := RX8) (T := TX8) (N := 45) hx hb hts hin8 tyX8 tyX8_ok nmX8 hown hG.1 hw.1 hw.2.1 hw.2.2 0 rfl rfl 3 (by decide) (hts (.fieldLink RX8 137 "DutyDeskModel" "sort" "I") (List.mem_of_getElem? (i := 3) rfl)) (fun _ h9 => h9) rfl (by decide +kernel) rfl rfl (Nat.le_of_ble_eq_true rfl) dX8_scan_49 (fun H locs hP hD hS => ?_)
        obtain ⟨S_81, eS_81⟩ : ∃ z : St, z = sI S_11 2 4 := ⟨_, rfl⟩
        replace hf := bnd_of eS_81 hf
        have hw : Wd G A s H locs (mw G.2.1 a R S_81) := wd_eq (by rw [eS_81]; exact mw_upI2 _) hP hD hS
        refine lv_aload_n hx hb dX8_scan_52 rfl (lv_at hl 1 rfl) ?_
        refine lv_iload_n hx hb dX8_scan_53 rfl (lv_at hl 2 rfl) ?_
        refine va_put (D := G.1) (ci := 8) (v := .int v_2) (ty := .int) (C := RX8) (T := TX8) (N := 45) hx hb hts hin8 tyX8 tyX8_ok nmX8 hown hG.1 hw.1 hw.2.1 hw.2.2 0 rfl rfl 6 (by decide) (hts (.fieldLink RX8 131 "DutyDeskModel" "end" "I") (List.mem_of_getElem? (i := 1) rfl)) (fun _ h9 => h9) rfl (by decide +kernel) rfl rfl (Nat.le_of_ble_eq_true rfl) dX8_scan_54 (fun H locs hP hD hS => ?_)
        obtain ⟨S_82, eS_82⟩ : ∃ z : St, z = sI S_81 5 v_2 := ⟨_, rfl⟩
        replace hf := bnd_of eS_82 hf
        have hw : Wd G A s H locs (mw G.2.1 a R S_82) := wd_eq (by rw [eS_82]; exact mw_upI5 _) hP hD hS
        have e_83 := Option.some.inj hf
        have e_84 := hz2_0_5 _ e_83.symm
        subst e_84
        exact wd_vret hx hb hr hlocks hw dX8_scan_57
    · replace hf := if_t c_10 hf
      obtain ⟨x_85, ex_85⟩ : ∃ z : Int32, z = v_2 + 1 := ⟨_, rfl⟩
      replace hf := bnd_of ex_85 hf
      refine lv_iinc (v := x_85) (lv' := [(1, .int x_85), (0, .ref (a 0))]) hx hb dX8_scan_25 hl (k := 1) rfl (by rw [ex_85]; rfl) (by decide) rfl (fun ls hl => ?_)
      refine lv_goto (tgt := 5) hx hb dX8_scan_28 (by decide) ?_
      have e_86 := Option.some.inj hf
      exact hz1_0_5 _ e_86.symm _ _ _ hw (lv_sub hl [1, 0] rfl)
/-! DutyDeskModel.wrong(I)Z -/
def rm_X8_wrong : Room := { frames := 0, cells := 0, slots := 0, locals := 0 }
def f_X8_wrong (S : St) (p1 : Int32) : Option (Int32 × St) :=
  bnd (sI S 7 p1) fun S_1 => bnd (sI S_1 8 (gI S_1 4)) fun S_2 => some ((0, S_2))
set_option maxHeartbeats 4000000 in
set_option maxRecDepth 100000 in
theorem c_X8_wrong (G : GP) (l : Launch) (a : Nat → Nat) (R : va_W) (S : St) (p1 : Int32) (r0 : Int32) (S9 : St) (hf : f_X8_wrong S p1 = some (r0, S9)) : MC G l yX8_wrong wsX8_wrong rm_X8_wrong [.ref (a 0), .int p1] (mw G.2.1 a R S) (mw G.2.1 a R S9) (some (.int r0)) 0 0 := by
  refine MC.mk (cc := cX8_wrong) (maxL := 2) (ret := (some .boolean)) (by decide) rfl (Nat.le_of_ble_eq_true rfl) ?_
  intro p e s m below meth c A ls ⟨hx, hb, hr, hml, hown, hlocks, _, hts⟩ hw hG hA hl
  have hl : lv_has ls 2 [(0, .ref (a 0)), (1, .int p1)] := hl
  have hin8 : ∀ w ∈ u_ws RX8 TX8 45, w ∈ wsX8_wrong := by decide +kernel
  rw [f_X8_wrong] at hf
  refine lv_aload_n hx hb dX8_wrong_0 rfl (lv_at hl 0 rfl) ?_
  refine lv_iload_n hx hb dX8_wrong_1 rfl (lv_at hl 1 rfl) ?_
  refine va_put (D := G.1) (ci := 8) (v := .int p1) (ty := .int) (C := RX8) (T := TX8) (N := 45) hx hb hts hin8 tyX8 tyX8_ok nmX8 hown hG.1 hw.1 hw.2.1 hw.2.2 0 rfl rfl 8 (by decide) (hts (.fieldLink RX8 157 "DutyDeskModel" "faultKind" "I") (List.mem_of_getElem? (i := 1) rfl)) (fun _ h9 => h9) rfl (by decide +kernel) rfl rfl (Nat.le_of_ble_eq_true rfl) dX8_wrong_2 (fun H locs hP hD hS => ?_)
  obtain ⟨S_1, eS_1⟩ : ∃ z : St, z = sI S 7 p1 := ⟨_, rfl⟩
  replace hf := bnd_of eS_1 hf
  have hw : Wd G A s H locs (mw G.2.1 a R S_1) := wd_eq (by rw [eS_1]; exact mw_upI7 _) hP hD hS
  refine lv_aload_n hx hb dX8_wrong_5 rfl (lv_at hl 0 rfl) ?_
  refine lv_aload_n hx hb dX8_wrong_6 rfl (lv_at hl 0 rfl) ?_
  refine va_get (D := G.1) (ci := 8) (v := .int (gI S_1 4)) (C := RX8) (T := TX8) (N := 45) hx hb hts hin8 hown hG.1 hw.1 0 rfl rfl 5 (by decide) (hts (.fieldLink RX8 134 "DutyDeskModel" "at" "I") (List.mem_of_getElem? (i := 2) rfl)) (fun _ h9 => h9) rfl dX8_wrong_7 ?_
  refine va_put (D := G.1) (ci := 8) (v := .int (gI S_1 4)) (ty := .int) (C := RX8) (T := TX8) (N := 45) hx hb hts hin8 tyX8 tyX8_ok nmX8 hown hG.1 hw.1 hw.2.1 hw.2.2 0 rfl rfl 9 (by decide) (hts (.fieldLink RX8 13 "DutyDeskModel" "faultPlace" "I") (List.mem_of_getElem? (i := 3) rfl)) (fun _ h9 => h9) rfl (by decide +kernel) rfl rfl (Nat.le_of_ble_eq_true rfl) dX8_wrong_10 (fun H locs hP hD hS => ?_)
  obtain ⟨S_2, eS_2⟩ : ∃ z : St, z = sI S_1 8 (gI S_1 4) := ⟨_, rfl⟩
  replace hf := bnd_of eS_2 hf
  have hw : Wd G A s H locs (mw G.2.1 a R S_2) := wd_eq (by rw [eS_2]; exact mw_upI8 _) hP hD hS
  refine lv_iconst (v := 0) hx hb dX8_wrong_13 (by decide) ?_
  have e_3 := Option.some.inj hf
  obtain ⟨rfl, rfl⟩ := Prod.mk.inj e_3
  exact wd_zret hx hb hr rfl hlocks hw dX8_wrong_14
/-! DutyDeskModel.plain(I)I -/
def rm_X8_plain : Room := { frames := 0, cells := 0, slots := 0, locals := 0 }
def f_X8_plain (p1 : Int32) : Option (Int32) :=
  (if p1 = 0 then
    some (45)
  else
    (if p1 = 1 then
    some (10)
  else
    (if p1 = 2 then
    some (1)
  else
    (if p1 = 3 then
    some (8)
  else
    (if p1 = 4 then
    some (100)
  else
    (if p1 = 5 then
    some (60)
  else
    (if p1 = 6 then
    some (1)
  else
    (if p1 = 7 then
    some (20)
  else
    (if p1 = 8 then
    some (400)
  else
    some (0))))))))))
set_option maxHeartbeats 4000000 in
set_option maxRecDepth 100000 in
theorem c_X8_plain (G : GP) (l : Launch) (W0 : va_W) (p1 : Int32) (r0 : Int32) (hf : f_X8_plain p1 = some r0) : MC G l yX8_plain wsX8_plain rm_X8_plain [.int p1] (W0) (W0) (some (.int r0)) 0 0 := by
  refine MC.mk (cc := cX8_plain) (maxL := 1) (ret := (some .int)) (by decide) rfl (Nat.le_of_ble_eq_true rfl) ?_
  intro p e s m below meth c A ls ⟨hx, hb, hr, hml, hown, hlocks, _, hts⟩ hw hG hA hl
  have hl : lv_has ls 1 [(0, .int p1)] := hl
  rw [f_X8_plain] at hf
  refine lv_iload_n hx hb dX8_plain_0 rfl (lv_at hl 0 rfl) ?_
  refine lv_if_ne (tgt := 9) hx hb dX8_plain_1 (by decide) (fun c_1 => ?_) (fun c_1 => ?_)
  · replace hf := if_f c_1 hf
    refine lv_iload_n hx hb dX8_plain_9 rfl (lv_at hl 0 rfl) ?_
    refine lv_iconst (v := 1) hx hb dX8_plain_10 (by decide) ?_
    refine lv_icmp_ne (tgt := 19) hx hb dX8_plain_11 (by decide) (fun c_2 => ?_) (fun c_2 => ?_)
    · replace hf := if_f c_2 hf
      refine lv_iload_n hx hb dX8_plain_19 rfl (lv_at hl 0 rfl) ?_
      refine lv_iconst (v := 2) hx hb dX8_plain_20 (by decide) ?_
      refine lv_icmp_ne (tgt := 28) hx hb dX8_plain_21 (by decide) (fun c_3 => ?_) (fun c_3 => ?_)
      · replace hf := if_f c_3 hf
        refine lv_iload_n hx hb dX8_plain_28 rfl (lv_at hl 0 rfl) ?_
        refine lv_iconst (v := 3) hx hb dX8_plain_29 (by decide) ?_
        refine lv_icmp_ne (tgt := 38) hx hb dX8_plain_30 (by decide) (fun c_4 => ?_) (fun c_4 => ?_)
        · replace hf := if_f c_4 hf
          refine lv_iload_n hx hb dX8_plain_38 rfl (lv_at hl 0 rfl) ?_
          refine lv_iconst (v := 4) hx hb dX8_plain_39 (by decide) ?_
          refine lv_icmp_ne (tgt := 48) hx hb dX8_plain_40 (by decide) (fun c_5 => ?_) (fun c_5 => ?_)
          · replace hf := if_f c_5 hf
            refine lv_iload_n hx hb dX8_plain_48 rfl (lv_at hl 0 rfl) ?_
            refine lv_iconst (v := 5) hx hb dX8_plain_49 (by decide) ?_
            refine lv_icmp_ne (tgt := 58) hx hb dX8_plain_50 (by decide) (fun c_6 => ?_) (fun c_6 => ?_)
            · replace hf := if_f c_6 hf
              refine lv_iload_n hx hb dX8_plain_58 rfl (lv_at hl 0 rfl) ?_
              refine lv_bipush (v := 6) hx hb dX8_plain_59 (by decide) ?_
              refine lv_icmp_ne (tgt := 68) hx hb dX8_plain_61 (by decide) (fun c_7 => ?_) (fun c_7 => ?_)
              · replace hf := if_f c_7 hf
                refine lv_iload_n hx hb dX8_plain_68 rfl (lv_at hl 0 rfl) ?_
                refine lv_bipush (v := 7) hx hb dX8_plain_69 (by decide) ?_
                refine lv_icmp_ne (tgt := 79) hx hb dX8_plain_71 (by decide) (fun c_8 => ?_) (fun c_8 => ?_)
                · replace hf := if_f c_8 hf
                  refine lv_iload_n hx hb dX8_plain_79 rfl (lv_at hl 0 rfl) ?_
                  refine lv_bipush (v := 8) hx hb dX8_plain_80 (by decide) ?_
                  refine lv_icmp_ne (tgt := 91) hx hb dX8_plain_82 (by decide) (fun c_9 => ?_) (fun c_9 => ?_)
                  · replace hf := if_f c_9 hf
                    refine lv_iconst (v := 0) hx hb dX8_plain_91 (by decide) ?_
                    have e_10 := Option.some.inj hf
                    subst e_10
                    exact wd_iret hx hb hr hlocks hw dX8_plain_92
                  · replace hf := if_t c_9 hf
                    refine lv_sipush (v := 400) hx hb dX8_plain_85 (by decide) ?_
                    refine lv_goto (tgt := 92) hx hb dX8_plain_88 (by decide) ?_
                    have e_11 := Option.some.inj hf
                    subst e_11
                    exact wd_iret hx hb hr hlocks hw dX8_plain_92
                · replace hf := if_t c_8 hf
                  refine lv_bipush (v := 20) hx hb dX8_plain_74 (by decide) ?_
                  refine lv_goto (tgt := 92) hx hb dX8_plain_76 (by decide) ?_
                  have e_12 := Option.some.inj hf
                  subst e_12
                  exact wd_iret hx hb hr hlocks hw dX8_plain_92
              · replace hf := if_t c_7 hf
                refine lv_iconst (v := 1) hx hb dX8_plain_64 (by decide) ?_
                refine lv_goto (tgt := 92) hx hb dX8_plain_65 (by decide) ?_
                have e_13 := Option.some.inj hf
                subst e_13
                exact wd_iret hx hb hr hlocks hw dX8_plain_92
            · replace hf := if_t c_6 hf
              refine lv_bipush (v := 60) hx hb dX8_plain_53 (by decide) ?_
              refine lv_goto (tgt := 92) hx hb dX8_plain_55 (by decide) ?_
              have e_14 := Option.some.inj hf
              subst e_14
              exact wd_iret hx hb hr hlocks hw dX8_plain_92
          · replace hf := if_t c_5 hf
            refine lv_bipush (v := 100) hx hb dX8_plain_43 (by decide) ?_
            refine lv_goto (tgt := 92) hx hb dX8_plain_45 (by decide) ?_
            have e_15 := Option.some.inj hf
            subst e_15
            exact wd_iret hx hb hr hlocks hw dX8_plain_92
        · replace hf := if_t c_4 hf
          refine lv_bipush (v := 8) hx hb dX8_plain_33 (by decide) ?_
          refine lv_goto (tgt := 92) hx hb dX8_plain_35 (by decide) ?_
          have e_16 := Option.some.inj hf
          subst e_16
          exact wd_iret hx hb hr hlocks hw dX8_plain_92
      · replace hf := if_t c_3 hf
        refine lv_iconst (v := 1) hx hb dX8_plain_24 (by decide) ?_
        refine lv_goto (tgt := 92) hx hb dX8_plain_25 (by decide) ?_
        have e_17 := Option.some.inj hf
        subst e_17
        exact wd_iret hx hb hr hlocks hw dX8_plain_92
    · replace hf := if_t c_2 hf
      refine lv_bipush (v := 10) hx hb dX8_plain_14 (by decide) ?_
      refine lv_goto (tgt := 92) hx hb dX8_plain_16 (by decide) ?_
      have e_18 := Option.some.inj hf
      subst e_18
      exact wd_iret hx hb hr hlocks hw dX8_plain_92
  · replace hf := if_t c_1 hf
    refine lv_bipush (v := 45) hx hb dX8_plain_4 (by decide) ?_
    refine lv_goto (tgt := 92) hx hb dX8_plain_6 (by decide) ?_
    have e_19 := Option.some.inj hf
    subst e_19
    exact wd_iret hx hb hr hlocks hw dX8_plain_92
/-! DutyDeskModel.readLine([Z)Z -/
def rm_X8_readLine : Room := { frames := 6, cells := 0, slots := 0, locals := 135 }
def f_X8_readLine_J245 (S_1 : St) : Option (Int32 × St) :=
  (f_X8_scan S_1).bind (fun S_3 => (if (gI S_3 2) = 3 then
    (f_X8_scan S_3).bind (fun S_6 => some ((1, S_6)))
  else
    (f_X8_wrong S_3 1).bind (fun (r_9, S_10) => gz r_9 (some ((r_9, S_10))))))
def f_X8_readLine_J112 (y_13 : Int32) (S_14 : St) : Option (Int32 × St) :=
  gd (220 + y_13) 242 (bnd (sM S_14 2 ((220 + y_13).toNatClampNeg) (gI S_14 6)) fun S_16 => f_X8_readLine_J245 S_16)
def f_X8_readLine_J88 (y_17 : Int32) (S_18 : St) : Option (Int32 × St) :=
  (if y_17 = 3 then
    (f_X8_in (gI S_18 6) 1 30).bind (fun r_21 => (if r_21 = 0 then
    (f_X8_wrong S_18 2).bind (fun (r_24, S_25) => gz r_24 (some ((r_24, S_25))))
  else
    f_X8_readLine_J112 y_17 S_18))
  else
    f_X8_readLine_J112 y_17 S_18)
def f_X8_readLine_J46 (y_28 : Int32) (S_29 : St) : Option (Int32 × St) :=
  gd y_28 11 (bnd (sM S_29 4 (y_28.toNatClampNeg) (vp_nar .boolean 1)) fun S_31 => (f_X8_scan S_31).bind (fun S_33 => (if 9 ≤ y_28 then
    (if y_28 = 9 then
    (if (gI S_33 2) = 1 then
    (f_X8_in (gI S_33 3) 11 13).bind (fun r_66 => (if r_66 = 0 then
    (f_X8_wrong S_33 1).bind (fun (r_71, S_72) => gz r_71 (some ((r_71, S_72))))
  else
    gd 229 242 (bnd (sM S_33 2 ((229 : Int32).toNatClampNeg) ((gI S_33 3) - 11)) fun S_69 => f_X8_readLine_J245 S_69)))
  else
    (f_X8_wrong S_33 1).bind (fun (r_61, S_62) => gz r_61 (some ((r_61, S_62)))))
  else
    (if (gI S_33 2) = 1 then
    (if 14 ≤ (gI S_33 3) then
    bnd ((1 : Int32) <<< (((gI S_33 3) - 14) &&& 31)) fun x_43 => gd 230 242 ((if ((gM S_33 2 (230 : Int32).toNatClampNeg) &&& x_43) = 0 then
    gd 230 242 (gd 230 242 (bnd (sM S_33 2 ((230 : Int32).toNatClampNeg) ((gM S_33 2 (230 : Int32).toNatClampNeg) ||| x_43)) fun S_48 => f_X8_readLine_J245 S_48))
  else
    (f_X8_wrong S_33 3).bind (fun (r_50, S_51) => gz r_50 (some ((r_50, S_51))))))
  else
    (f_X8_wrong S_33 1).bind (fun (r_55, S_56) => gz r_55 (some ((r_55, S_56)))))
  else
    (f_X8_wrong S_33 1).bind (fun (r_38, S_39) => gz r_38 (some ((r_38, S_39))))))
  else
    (if (gI S_33 2) = 2 then
    (if y_28 = 2 then
    (if 9 < (gI S_33 6) then
    (f_X8_wrong S_33 2).bind (fun (r_79, S_80) => gz r_79 (some ((r_79, S_80))))
  else
    f_X8_readLine_J88 y_28 S_33)
  else
    f_X8_readLine_J88 y_28 S_33)
  else
    (f_X8_wrong S_33 1).bind (fun (r_84, S_85) => gz r_84 (some ((r_84, S_85))))))))
def f_X8_readLine (S : St) : Option (Int32 × St) :=
  (if (gI S 2) = 1 then
    (if (gI S 3) ≤ 10 then
    bnd (gI S 3) fun x_95 => (if x_95 = 10 then
    f_X8_readLine_J46 x_95 S
  else
    gd x_95 11 ((if (gM S 4 x_95.toNatClampNeg) = 0 then
    f_X8_readLine_J46 x_95 S
  else
    (f_X8_wrong S 3).bind (fun (r_100, S_101) => gz r_100 (some ((r_100, S_101)))))))
  else
    (f_X8_wrong S 1).bind (fun (r_105, S_106) => gz r_105 (some ((r_105, S_106)))))
  else
    (f_X8_wrong S 1).bind (fun (r_90, S_91) => gz r_90 (some ((r_90, S_91)))))
set_option maxHeartbeats 4000000 in
set_option maxRecDepth 100000 in
theorem c_X8_readLine (G : GP) (l : Launch) (a : Nat → Nat) (R : va_W) (S : St) (r0 : Int32) (S9 : St) (hf : f_X8_readLine S = some (r0, S9)) : MC G l yX8_readLine wsX8_readLine rm_X8_readLine [.ref (a 0), .ref (a 4)] (mw G.2.1 a R S) (mw G.2.1 a R S9) (some (.int r0)) 0 0 := by
  refine MC.mk (cc := cX8_readLine) (maxL := 4) (ret := (some .boolean)) (by decide) rfl (Nat.le_of_ble_eq_true rfl) ?_
  intro p e s m below meth c A ls ⟨hx, hb, hr, hml, hown, hlocks, _, hts⟩ hw hG hA hl
  have hl : lv_has ls 4 [(0, .ref (a 0)), (1, .ref (a 4))] := hl
  have hin8 : ∀ w ∈ u_ws RX8 TX8 45, w ∈ wsX8_readLine := by decide +kernel
  rw [f_X8_readLine] at hf
  have j245 : ∀ (S_1 : St) (H : Heap) (locs : List Loc) (ls : Array Slot), f_X8_readLine_J245 S_1 = some (r0, S9) → Wd G A s H locs (mw G.2.1 a R S_1) → lv_has ls 4 [(0, .ref (a 0))] → WQ p l e rm_X8_readLine s m [.ref (a 0), .ref (a 4)] below meth c G A (mw G.2.1 a R S9) (some (.int r0)) 0 0 H locs 0 0 (F0 m 245 ls []) := by
    intro S_1 H locs ls hf hw hl
    rw [f_X8_readLine_J245] at hf
    refine lv_aload_n hx hb dX8_readLine_245 rfl (lv_at hl 0 rfl) ?_
    obtain ⟨S_3, h_2, hf⟩ := bind_of hf
    refine cV (As := []) (rest := []) ⟨hx, hb, hml, hown, hts⟩ hG hA hw (c_X8_scan G l a R S_1 S_3 h_2) (cwV 0 hts gX8_readLine_X8_scan rfl rfl rfl (by decide +kernel) ⟨Nat.le_of_ble_eq_true rfl, Nat.le_of_ble_eq_true rfl⟩) (va_recv hG.1 hw.1 (ci := 8) (q0 := 0) rfl rfl) rfl hl.1 rfl (Nat.le_of_ble_eq_true rfl) dX8_readLine_246 ⟨Nat.zero_le _, Nat.zero_le _⟩ (fun H locs hw => ?_)
    refine lv_aload_n hx hb dX8_readLine_249 rfl (lv_at hl 0 rfl) ?_
    refine va_get (D := G.1) (ci := 8) (v := .int (gI S_3 2)) (C := RX8) (T := TX8) (N := 45) hx hb hts hin8 hown hG.1 hw.1 0 rfl rfl 3 (by decide) (hts (.fieldLink RX8 137 "DutyDeskModel" "sort" "I") (List.mem_of_getElem? (i := 1) rfl)) (fun _ h9 => h9) rfl dX8_readLine_250 ?_
    refine lv_iconst (v := 3) hx hb dX8_readLine_253 (by decide) ?_
    refine lv_icmp_eq (tgt := 263) hx hb dX8_readLine_254 (by decide) (fun c_4 => ?_) (fun c_4 => ?_)
    · replace hf := if_t c_4 hf
      refine lv_aload_n hx hb dX8_readLine_263 rfl (lv_at hl 0 rfl) ?_
      obtain ⟨S_6, h_5, hf⟩ := bind_of hf
      refine cV (As := []) (rest := []) ⟨hx, hb, hml, hown, hts⟩ hG hA hw (c_X8_scan G l a R S_3 S_6 h_5) (cwV 0 hts gX8_readLine_X8_scan rfl rfl rfl (by decide +kernel) ⟨Nat.le_of_ble_eq_true rfl, Nat.le_of_ble_eq_true rfl⟩) (va_recv hG.1 hw.1 (ci := 8) (q0 := 0) rfl rfl) rfl hl.1 rfl (Nat.le_of_ble_eq_true rfl) dX8_readLine_264 ⟨Nat.zero_le _, Nat.zero_le _⟩ (fun H locs hw => ?_)
      refine lv_iconst (v := 1) hx hb dX8_readLine_267 (by decide) ?_
      have e_7 := Option.some.inj hf
      obtain ⟨rfl, rfl⟩ := Prod.mk.inj e_7
      exact wd_zret hx hb hr rfl hlocks hw dX8_readLine_268
    · replace hf := if_f c_4 hf
      refine lv_aload_n hx hb dX8_readLine_257 rfl (lv_at hl 0 rfl) ?_
      refine lv_iconst (v := 1) hx hb dX8_readLine_258 (by decide) ?_
      obtain ⟨⟨r_9, S_10⟩, h_8, hf⟩ := bind_of hf
      replace hf : _ = some _ := hf
      refine cV (As := [.int 1]) (rest := []) ⟨hx, hb, hml, hown, hts⟩ hG hA hw (c_X8_wrong G l a R S_3 1 r_9 S_10 h_8) (cwV 1 hts gX8_readLine_X8_wrong rfl rfl rfl (by decide +kernel) ⟨Nat.le_of_ble_eq_true rfl, Nat.le_of_ble_eq_true rfl⟩) (va_recv hG.1 hw.1 (ci := 8) (q0 := 0) rfl rfl) rfl hl.1 rfl (Nat.le_of_ble_eq_true rfl) dX8_readLine_259 ⟨Nat.zero_le _, Nat.zero_le _⟩ (fun H locs hw => ?_)
      obtain ⟨h_11, hf⟩ := gz_of hf
      have e_12 := Option.some.inj hf
      obtain ⟨rfl, rfl⟩ := Prod.mk.inj e_12
      exact wd_zret hx hb hr h_11 hlocks hw dX8_readLine_262
  have j112 : ∀ (y_13 : Int32) (S_14 : St) (H : Heap) (locs : List Loc) (ls : Array Slot), f_X8_readLine_J112 y_13 S_14 = some (r0, S9) → Wd G A s H locs (mw G.2.1 a R S_14) → lv_has ls 4 [(0, .ref (a 0)), (2, .int y_13)] → WQ p l e rm_X8_readLine s m [.ref (a 0), .ref (a 4)] below meth c G A (mw G.2.1 a R S9) (some (.int r0)) 0 0 H locs 0 0 (F0 m 112 ls []) := by
    intro y_13 S_14 H locs ls hf hw hl
    rw [f_X8_readLine_J112] at hf
    refine lv_aload_n hx hb dX8_readLine_112 rfl (lv_at hl 0 rfl) ?_
    refine va_get (D := G.1) (ci := 8) (v := .ref (a 2)) (C := RX8) (T := TX8) (N := 45) hx hb hts hin8 hown hG.1 hw.1 0 rfl rfl 10 (by decide) (hts (.fieldLink RX8 17 "DutyDeskModel" "rules" "[I") (List.mem_of_getElem? (i := 4) rfl)) (fun _ h9 => h9) rfl dX8_readLine_113 ?_
    refine lv_sipush (v := 220) hx hb dX8_readLine_116 (by decide) ?_
    refine lv_iload_n hx hb dX8_readLine_119 rfl (lv_at hl 1 rfl) ?_
    refine lv_iadd hx hb dX8_readLine_120 ?_
    refine lv_aload_n hx hb dX8_readLine_121 rfl (lv_at hl 0 rfl) ?_
    refine va_get (D := G.1) (ci := 8) (v := .int (gI S_14 6)) (C := RX8) (T := TX8) (N := 45) hx hb hts hin8 hown hG.1 hw.1 0 rfl rfl 7 (by decide) (hts (.fieldLink RX8 154 "DutyDeskModel" "worth" "I") (List.mem_of_getElem? (i := 3) rfl)) (fun _ h9 => h9) rfl dX8_readLine_122 ?_
    obtain ⟨h_15, hf⟩ := gd_of hf
    refine va_iast hx hb hG.1 hw.1 hw.2.1 hw.2.2 2 1 (mw_atI (k := 2) rfl) rfl h_15 dX8_readLine_125 (fun H locs hP hD hS => ?_)
    obtain ⟨S_16, eS_16⟩ : ∃ z : St, z = sM S_14 2 ((220 + y_13).toNatClampNeg) (gI S_14 6) := ⟨_, rfl⟩
    replace hf := bnd_of eS_16 hf
    have hw : Wd G A s H locs (mw G.2.1 a R S_16) := wd_eq (by rw [eS_16]; exact mw_upI (k := 2) rfl _) hP hD hS
    refine lv_goto (tgt := 245) hx hb dX8_readLine_126 (by decide) ?_
    exact j245 S_16 _ _ _ hf hw (lv_sub hl [0] rfl)
  have j88 : ∀ (y_17 : Int32) (S_18 : St) (H : Heap) (locs : List Loc) (ls : Array Slot), f_X8_readLine_J88 y_17 S_18 = some (r0, S9) → Wd G A s H locs (mw G.2.1 a R S_18) → lv_has ls 4 [(0, .ref (a 0)), (2, .int y_17)] → WQ p l e rm_X8_readLine s m [.ref (a 0), .ref (a 4)] below meth c G A (mw G.2.1 a R S9) (some (.int r0)) 0 0 H locs 0 0 (F0 m 88 ls []) := by
    intro y_17 S_18 H locs ls hf hw hl
    rw [f_X8_readLine_J88] at hf
    refine lv_iload_n hx hb dX8_readLine_88 rfl (lv_at hl 1 rfl) ?_
    refine lv_iconst (v := 3) hx hb dX8_readLine_89 (by decide) ?_
    refine lv_icmp_ne (tgt := 112) hx hb dX8_readLine_90 (by decide) (fun c_19 => ?_) (fun c_19 => ?_)
    · replace hf := if_f c_19 hf
      exact j112 y_17 S_18 _ _ _ hf hw (lv_sub hl [0, 1] rfl)
    · replace hf := if_t c_19 hf
      refine lv_aload_n hx hb dX8_readLine_93 rfl (lv_at hl 0 rfl) ?_
      refine va_get (D := G.1) (ci := 8) (v := .int (gI S_18 6)) (C := RX8) (T := TX8) (N := 45) hx hb hts hin8 hown hG.1 hw.1 0 rfl rfl 7 (by decide) (hts (.fieldLink RX8 154 "DutyDeskModel" "worth" "I") (List.mem_of_getElem? (i := 3) rfl)) (fun _ h9 => h9) rfl dX8_readLine_94 ?_
      refine lv_iconst (v := 1) hx hb dX8_readLine_97 (by decide) ?_
      refine lv_bipush (v := 30) hx hb dX8_readLine_98 (by decide) ?_
      obtain ⟨r_21, h_20, hf⟩ := bind_of hf
      refine cS (As := [.int (gI S_18 6), .int 1, .int 30]) (rest := []) ⟨hx, hb, hml, hown, hts⟩ hG hA hw (c_X8_in G l _ (gI S_18 6) 1 30 r_21 h_20) (va_cwS 3 hts gX8_readLine_X8_in rfl rfl rfl (by decide +kernel) ⟨Nat.le_of_ble_eq_true rfl, Nat.le_of_ble_eq_true rfl⟩) rfl hl.1 rfl (Nat.le_of_ble_eq_true rfl) dX8_readLine_100 ⟨Nat.zero_le _, Nat.zero_le _⟩ (fun H locs hw => ?_)
      refine lv_if_ne (tgt := 112) hx hb dX8_readLine_103 (by decide) (fun c_22 => ?_) (fun c_22 => ?_)
      · replace hf := if_f c_22 hf
        exact j112 y_17 S_18 _ _ _ hf hw (lv_sub hl [0, 1] rfl)
      · replace hf := if_t c_22 hf
        refine lv_aload_n hx hb dX8_readLine_106 rfl (lv_at hl 0 rfl) ?_
        refine lv_iconst (v := 2) hx hb dX8_readLine_107 (by decide) ?_
        obtain ⟨⟨r_24, S_25⟩, h_23, hf⟩ := bind_of hf
        replace hf : _ = some _ := hf
        refine cV (As := [.int 2]) (rest := []) ⟨hx, hb, hml, hown, hts⟩ hG hA hw (c_X8_wrong G l a R S_18 2 r_24 S_25 h_23) (cwV 1 hts gX8_readLine_X8_wrong rfl rfl rfl (by decide +kernel) ⟨Nat.le_of_ble_eq_true rfl, Nat.le_of_ble_eq_true rfl⟩) (va_recv hG.1 hw.1 (ci := 8) (q0 := 0) rfl rfl) rfl hl.1 rfl (Nat.le_of_ble_eq_true rfl) dX8_readLine_108 ⟨Nat.zero_le _, Nat.zero_le _⟩ (fun H locs hw => ?_)
        obtain ⟨h_26, hf⟩ := gz_of hf
        have e_27 := Option.some.inj hf
        obtain ⟨rfl, rfl⟩ := Prod.mk.inj e_27
        exact wd_zret hx hb hr h_26 hlocks hw dX8_readLine_111
  have j46 : ∀ (y_28 : Int32) (S_29 : St) (H : Heap) (locs : List Loc) (ls : Array Slot), f_X8_readLine_J46 y_28 S_29 = some (r0, S9) → Wd G A s H locs (mw G.2.1 a R S_29) → lv_has ls 4 [(0, .ref (a 0)), (1, .ref (a 4)), (2, .int y_28)] → WQ p l e rm_X8_readLine s m [.ref (a 0), .ref (a 4)] below meth c G A (mw G.2.1 a R S9) (some (.int r0)) 0 0 H locs 0 0 (F0 m 46 ls []) := by
    intro y_28 S_29 H locs ls hf hw hl
    rw [f_X8_readLine_J46] at hf
    refine lv_aload_n hx hb dX8_readLine_46 rfl (lv_at hl 1 rfl) ?_
    refine lv_iload_n hx hb dX8_readLine_47 rfl (lv_at hl 2 rfl) ?_
    refine lv_iconst (v := 1) hx hb dX8_readLine_48 (by decide) ?_
    obtain ⟨h_30, hf⟩ := gd_of hf
    refine va_zast hx hb hG.1 hw.1 hw.2.1 hw.2.2 4 3 (mw_atZ (k := 4) rfl) rfl h_30 dX8_readLine_49 (fun H locs hP hD hS => ?_)
    obtain ⟨S_31, eS_31⟩ : ∃ z : St, z = sM S_29 4 (y_28.toNatClampNeg) (vp_nar .boolean 1) := ⟨_, rfl⟩
    replace hf := bnd_of eS_31 hf
    have hw : Wd G A s H locs (mw G.2.1 a R S_31) := wd_eq (by rw [eS_31]; exact mw_upZ (k := 4) rfl _) hP hD hS
    refine lv_aload_n hx hb dX8_readLine_50 rfl (lv_at hl 0 rfl) ?_
    obtain ⟨S_33, h_32, hf⟩ := bind_of hf
    refine cV (As := []) (rest := []) ⟨hx, hb, hml, hown, hts⟩ hG hA hw (c_X8_scan G l a R S_31 S_33 h_32) (cwV 0 hts gX8_readLine_X8_scan rfl rfl rfl (by decide +kernel) ⟨Nat.le_of_ble_eq_true rfl, Nat.le_of_ble_eq_true rfl⟩) (va_recv hG.1 hw.1 (ci := 8) (q0 := 0) rfl rfl) rfl hl.1 rfl (Nat.le_of_ble_eq_true rfl) dX8_readLine_51 ⟨Nat.zero_le _, Nat.zero_le _⟩ (fun H locs hw => ?_)
    refine lv_iload_n hx hb dX8_readLine_54 rfl (lv_at hl 2 rfl) ?_
    refine lv_bipush (v := 9) hx hb dX8_readLine_55 (by decide) ?_
    refine lv_icmp_ge (tgt := 129) hx hb dX8_readLine_57 (by decide) (fun c_34 => ?_) (fun c_34 => ?_)
    · replace hf := if_t c_34 hf
      refine lv_iload_n hx hb dX8_readLine_129 rfl (lv_at hl 2 rfl) ?_
      refine lv_bipush (v := 9) hx hb dX8_readLine_130 (by decide) ?_
      refine lv_icmp_ne (tgt := 181) hx hb dX8_readLine_132 (by decide) (fun c_35 => ?_) (fun c_35 => ?_)
      · replace hf := if_f c_35 hf
        refine lv_aload_n hx hb dX8_readLine_181 rfl (lv_at hl 0 rfl) ?_
        refine va_get (D := G.1) (ci := 8) (v := .int (gI S_33 2)) (C := RX8) (T := TX8) (N := 45) hx hb hts hin8 hown hG.1 hw.1 0 rfl rfl 3 (by decide) (hts (.fieldLink RX8 137 "DutyDeskModel" "sort" "I") (List.mem_of_getElem? (i := 1) rfl)) (fun _ h9 => h9) rfl dX8_readLine_182 ?_
        refine lv_iconst (v := 1) hx hb dX8_readLine_185 (by decide) ?_
        refine lv_icmp_ne (tgt := 198) hx hb dX8_readLine_186 (by decide) (fun c_36 => ?_) (fun c_36 => ?_)
        · replace hf := if_f c_36 hf
          refine lv_aload_n hx hb dX8_readLine_198 rfl (lv_at hl 0 rfl) ?_
          refine lv_iconst (v := 1) hx hb dX8_readLine_199 (by decide) ?_
          obtain ⟨⟨r_38, S_39⟩, h_37, hf⟩ := bind_of hf
          replace hf : _ = some _ := hf
          refine cV (As := [.int 1]) (rest := []) ⟨hx, hb, hml, hown, hts⟩ hG hA hw (c_X8_wrong G l a R S_33 1 r_38 S_39 h_37) (cwV 1 hts gX8_readLine_X8_wrong rfl rfl rfl (by decide +kernel) ⟨Nat.le_of_ble_eq_true rfl, Nat.le_of_ble_eq_true rfl⟩) (va_recv hG.1 hw.1 (ci := 8) (q0 := 0) rfl rfl) rfl hl.1 rfl (Nat.le_of_ble_eq_true rfl) dX8_readLine_200 ⟨Nat.zero_le _, Nat.zero_le _⟩ (fun H locs hw => ?_)
          obtain ⟨h_40, hf⟩ := gz_of hf
          have e_41 := Option.some.inj hf
          obtain ⟨rfl, rfl⟩ := Prod.mk.inj e_41
          exact wd_zret hx hb hr h_40 hlocks hw dX8_readLine_203
        · replace hf := if_t c_36 hf
          refine lv_aload_n hx hb dX8_readLine_189 rfl (lv_at hl 0 rfl) ?_
          refine va_get (D := G.1) (ci := 8) (v := .int (gI S_33 3)) (C := RX8) (T := TX8) (N := 45) hx hb hts hin8 hown hG.1 hw.1 0 rfl rfl 4 (by decide) (hts (.fieldLink RX8 148 "DutyDeskModel" "what" "I") (List.mem_of_getElem? (i := 2) rfl)) (fun _ h9 => h9) rfl dX8_readLine_190 ?_
          refine lv_bipush (v := 14) hx hb dX8_readLine_193 (by decide) ?_
          refine lv_icmp_ge (tgt := 204) hx hb dX8_readLine_195 (by decide) (fun c_42 => ?_) (fun c_42 => ?_)
          · replace hf := if_t c_42 hf
            refine lv_iconst (v := 1) hx hb dX8_readLine_204 (by decide) ?_
            refine lv_aload_n hx hb dX8_readLine_205 rfl (lv_at hl 0 rfl) ?_
            refine va_get (D := G.1) (ci := 8) (v := .int (gI S_33 3)) (C := RX8) (T := TX8) (N := 45) hx hb hts hin8 hown hG.1 hw.1 0 rfl rfl 4 (by decide) (hts (.fieldLink RX8 148 "DutyDeskModel" "what" "I") (List.mem_of_getElem? (i := 2) rfl)) (fun _ h9 => h9) rfl dX8_readLine_206 ?_
            refine lv_bipush (v := 14) hx hb dX8_readLine_209 (by decide) ?_
            refine lv_isub hx hb dX8_readLine_211 ?_
            refine lv_ishl hx hb dX8_readLine_212 ?_
            refine lv_topi (fun x_43 ex_43 => ?_)
            replace hf := bnd_of ex_43 hf
            refine lv_istore_n (lv' := [(3, .int x_43), (0, .ref (a 0)), (1, .ref (a 4)), (2, .int y_28)]) hx hb dX8_readLine_213 rfl hl (by decide) rfl (fun ls hl => ?_)
            refine lv_aload_n hx hb dX8_readLine_214 rfl (lv_at hl 1 rfl) ?_
            refine va_get (D := G.1) (ci := 8) (v := .ref (a 2)) (C := RX8) (T := TX8) (N := 45) hx hb hts hin8 hown hG.1 hw.1 0 rfl rfl 10 (by decide) (hts (.fieldLink RX8 17 "DutyDeskModel" "rules" "[I") (List.mem_of_getElem? (i := 4) rfl)) (fun _ h9 => h9) rfl dX8_readLine_215 ?_
            refine lv_sipush (v := 230) hx hb dX8_readLine_218 (by decide) ?_
            obtain ⟨h_44, hf⟩ := gd_of hf
            refine va_iald hx hb hG.1 hw.1 2 1 (mw_atI (k := 2) rfl) rfl h_44 dX8_readLine_221 ?_
            refine lv_iload_n hx hb dX8_readLine_222 rfl (lv_at hl 0 rfl) ?_
            refine lv_iand hx hb dX8_readLine_223 ?_
            refine lv_if_eq (tgt := 233) hx hb dX8_readLine_224 (by decide) (fun c_45 => ?_) (fun c_45 => ?_)
            · replace hf := if_t c_45 hf
              refine lv_aload_n hx hb dX8_readLine_233 rfl (lv_at hl 1 rfl) ?_
              refine va_get (D := G.1) (ci := 8) (v := .ref (a 2)) (C := RX8) (T := TX8) (N := 45) hx hb hts hin8 hown hG.1 hw.1 0 rfl rfl 10 (by decide) (hts (.fieldLink RX8 17 "DutyDeskModel" "rules" "[I") (List.mem_of_getElem? (i := 4) rfl)) (fun _ h9 => h9) rfl dX8_readLine_234 ?_
              refine lv_sipush (v := 230) hx hb dX8_readLine_237 (by decide) ?_
              refine lv_dup2_11 hx hb dX8_readLine_240 rfl rfl ?_
              obtain ⟨h_46, hf⟩ := gd_of hf
              refine va_iald hx hb hG.1 hw.1 2 1 (mw_atI (k := 2) rfl) rfl h_46 dX8_readLine_241 ?_
              refine lv_iload_n hx hb dX8_readLine_242 rfl (lv_at hl 0 rfl) ?_
              refine lv_ior hx hb dX8_readLine_243 ?_
              obtain ⟨h_47, hf⟩ := gd_of hf
              refine va_iast hx hb hG.1 hw.1 hw.2.1 hw.2.2 2 1 (mw_atI (k := 2) rfl) rfl h_47 dX8_readLine_244 (fun H locs hP hD hS => ?_)
              obtain ⟨S_48, eS_48⟩ : ∃ z : St, z = sM S_33 2 ((230 : Int32).toNatClampNeg) ((gM S_33 2 (230 : Int32).toNatClampNeg) ||| x_43) := ⟨_, rfl⟩
              replace hf := bnd_of eS_48 hf
              have hw : Wd G A s H locs (mw G.2.1 a R S_48) := wd_eq (by rw [eS_48]; exact mw_upI (k := 2) rfl _) hP hD hS
              exact j245 S_48 _ _ _ hf hw (lv_sub hl [1] rfl)
            · replace hf := if_f c_45 hf
              refine lv_aload_n hx hb dX8_readLine_227 rfl (lv_at hl 1 rfl) ?_
              refine lv_iconst (v := 3) hx hb dX8_readLine_228 (by decide) ?_
              obtain ⟨⟨r_50, S_51⟩, h_49, hf⟩ := bind_of hf
              replace hf : _ = some _ := hf
              refine cV (As := [.int 3]) (rest := []) ⟨hx, hb, hml, hown, hts⟩ hG hA hw (c_X8_wrong G l a R S_33 3 r_50 S_51 h_49) (cwV 1 hts gX8_readLine_X8_wrong rfl rfl rfl (by decide +kernel) ⟨Nat.le_of_ble_eq_true rfl, Nat.le_of_ble_eq_true rfl⟩) (va_recv hG.1 hw.1 (ci := 8) (q0 := 0) rfl rfl) rfl hl.1 rfl (Nat.le_of_ble_eq_true rfl) dX8_readLine_229 ⟨Nat.zero_le _, Nat.zero_le _⟩ (fun H locs hw => ?_)
              obtain ⟨h_52, hf⟩ := gz_of hf
              have e_53 := Option.some.inj hf
              obtain ⟨rfl, rfl⟩ := Prod.mk.inj e_53
              exact wd_zret hx hb hr h_52 hlocks hw dX8_readLine_232
          · replace hf := if_f c_42 hf
            refine lv_aload_n hx hb dX8_readLine_198 rfl (lv_at hl 0 rfl) ?_
            refine lv_iconst (v := 1) hx hb dX8_readLine_199 (by decide) ?_
            obtain ⟨⟨r_55, S_56⟩, h_54, hf⟩ := bind_of hf
            replace hf : _ = some _ := hf
            refine cV (As := [.int 1]) (rest := []) ⟨hx, hb, hml, hown, hts⟩ hG hA hw (c_X8_wrong G l a R S_33 1 r_55 S_56 h_54) (cwV 1 hts gX8_readLine_X8_wrong rfl rfl rfl (by decide +kernel) ⟨Nat.le_of_ble_eq_true rfl, Nat.le_of_ble_eq_true rfl⟩) (va_recv hG.1 hw.1 (ci := 8) (q0 := 0) rfl rfl) rfl hl.1 rfl (Nat.le_of_ble_eq_true rfl) dX8_readLine_200 ⟨Nat.zero_le _, Nat.zero_le _⟩ (fun H locs hw => ?_)
            obtain ⟨h_57, hf⟩ := gz_of hf
            have e_58 := Option.some.inj hf
            obtain ⟨rfl, rfl⟩ := Prod.mk.inj e_58
            exact wd_zret hx hb hr h_57 hlocks hw dX8_readLine_203
      · replace hf := if_t c_35 hf
        refine lv_aload_n hx hb dX8_readLine_135 rfl (lv_at hl 0 rfl) ?_
        refine va_get (D := G.1) (ci := 8) (v := .int (gI S_33 2)) (C := RX8) (T := TX8) (N := 45) hx hb hts hin8 hown hG.1 hw.1 0 rfl rfl 3 (by decide) (hts (.fieldLink RX8 137 "DutyDeskModel" "sort" "I") (List.mem_of_getElem? (i := 1) rfl)) (fun _ h9 => h9) rfl dX8_readLine_136 ?_
        refine lv_iconst (v := 1) hx hb dX8_readLine_139 (by decide) ?_
        refine lv_icmp_ne (tgt := 157) hx hb dX8_readLine_140 (by decide) (fun c_59 => ?_) (fun c_59 => ?_)
        · replace hf := if_f c_59 hf
          refine lv_aload_n hx hb dX8_readLine_157 rfl (lv_at hl 0 rfl) ?_
          refine lv_iconst (v := 1) hx hb dX8_readLine_158 (by decide) ?_
          obtain ⟨⟨r_61, S_62⟩, h_60, hf⟩ := bind_of hf
          replace hf : _ = some _ := hf
          refine cV (As := [.int 1]) (rest := []) ⟨hx, hb, hml, hown, hts⟩ hG hA hw (c_X8_wrong G l a R S_33 1 r_61 S_62 h_60) (cwV 1 hts gX8_readLine_X8_wrong rfl rfl rfl (by decide +kernel) ⟨Nat.le_of_ble_eq_true rfl, Nat.le_of_ble_eq_true rfl⟩) (va_recv hG.1 hw.1 (ci := 8) (q0 := 0) rfl rfl) rfl hl.1 rfl (Nat.le_of_ble_eq_true rfl) dX8_readLine_159 ⟨Nat.zero_le _, Nat.zero_le _⟩ (fun H locs hw => ?_)
          obtain ⟨h_63, hf⟩ := gz_of hf
          have e_64 := Option.some.inj hf
          obtain ⟨rfl, rfl⟩ := Prod.mk.inj e_64
          exact wd_zret hx hb hr h_63 hlocks hw dX8_readLine_162
        · replace hf := if_t c_59 hf
          refine lv_aload_n hx hb dX8_readLine_143 rfl (lv_at hl 0 rfl) ?_
          refine va_get (D := G.1) (ci := 8) (v := .int (gI S_33 3)) (C := RX8) (T := TX8) (N := 45) hx hb hts hin8 hown hG.1 hw.1 0 rfl rfl 4 (by decide) (hts (.fieldLink RX8 148 "DutyDeskModel" "what" "I") (List.mem_of_getElem? (i := 2) rfl)) (fun _ h9 => h9) rfl dX8_readLine_144 ?_
          refine lv_bipush (v := 11) hx hb dX8_readLine_147 (by decide) ?_
          refine lv_bipush (v := 13) hx hb dX8_readLine_149 (by decide) ?_
          obtain ⟨r_66, h_65, hf⟩ := bind_of hf
          refine cS (As := [.int (gI S_33 3), .int 11, .int 13]) (rest := []) ⟨hx, hb, hml, hown, hts⟩ hG hA hw (c_X8_in G l _ (gI S_33 3) 11 13 r_66 h_65) (va_cwS 3 hts gX8_readLine_X8_in rfl rfl rfl (by decide +kernel) ⟨Nat.le_of_ble_eq_true rfl, Nat.le_of_ble_eq_true rfl⟩) rfl hl.1 rfl (Nat.le_of_ble_eq_true rfl) dX8_readLine_151 ⟨Nat.zero_le _, Nat.zero_le _⟩ (fun H locs hw => ?_)
          refine lv_if_ne (tgt := 163) hx hb dX8_readLine_154 (by decide) (fun c_67 => ?_) (fun c_67 => ?_)
          · replace hf := if_f c_67 hf
            refine lv_aload_n hx hb dX8_readLine_163 rfl (lv_at hl 0 rfl) ?_
            refine va_get (D := G.1) (ci := 8) (v := .ref (a 2)) (C := RX8) (T := TX8) (N := 45) hx hb hts hin8 hown hG.1 hw.1 0 rfl rfl 10 (by decide) (hts (.fieldLink RX8 17 "DutyDeskModel" "rules" "[I") (List.mem_of_getElem? (i := 4) rfl)) (fun _ h9 => h9) rfl dX8_readLine_164 ?_
            refine lv_sipush (v := 229) hx hb dX8_readLine_167 (by decide) ?_
            refine lv_aload_n hx hb dX8_readLine_170 rfl (lv_at hl 0 rfl) ?_
            refine va_get (D := G.1) (ci := 8) (v := .int (gI S_33 3)) (C := RX8) (T := TX8) (N := 45) hx hb hts hin8 hown hG.1 hw.1 0 rfl rfl 4 (by decide) (hts (.fieldLink RX8 148 "DutyDeskModel" "what" "I") (List.mem_of_getElem? (i := 2) rfl)) (fun _ h9 => h9) rfl dX8_readLine_171 ?_
            refine lv_bipush (v := 11) hx hb dX8_readLine_174 (by decide) ?_
            refine lv_isub hx hb dX8_readLine_176 ?_
            obtain ⟨h_68, hf⟩ := gd_of hf
            refine va_iast hx hb hG.1 hw.1 hw.2.1 hw.2.2 2 1 (mw_atI (k := 2) rfl) rfl h_68 dX8_readLine_177 (fun H locs hP hD hS => ?_)
            obtain ⟨S_69, eS_69⟩ : ∃ z : St, z = sM S_33 2 ((229 : Int32).toNatClampNeg) ((gI S_33 3) - 11) := ⟨_, rfl⟩
            replace hf := bnd_of eS_69 hf
            have hw : Wd G A s H locs (mw G.2.1 a R S_69) := wd_eq (by rw [eS_69]; exact mw_upI (k := 2) rfl _) hP hD hS
            refine lv_goto (tgt := 245) hx hb dX8_readLine_178 (by decide) ?_
            exact j245 S_69 _ _ _ hf hw (lv_sub hl [0] rfl)
          · replace hf := if_t c_67 hf
            refine lv_aload_n hx hb dX8_readLine_157 rfl (lv_at hl 0 rfl) ?_
            refine lv_iconst (v := 1) hx hb dX8_readLine_158 (by decide) ?_
            obtain ⟨⟨r_71, S_72⟩, h_70, hf⟩ := bind_of hf
            replace hf : _ = some _ := hf
            refine cV (As := [.int 1]) (rest := []) ⟨hx, hb, hml, hown, hts⟩ hG hA hw (c_X8_wrong G l a R S_33 1 r_71 S_72 h_70) (cwV 1 hts gX8_readLine_X8_wrong rfl rfl rfl (by decide +kernel) ⟨Nat.le_of_ble_eq_true rfl, Nat.le_of_ble_eq_true rfl⟩) (va_recv hG.1 hw.1 (ci := 8) (q0 := 0) rfl rfl) rfl hl.1 rfl (Nat.le_of_ble_eq_true rfl) dX8_readLine_159 ⟨Nat.zero_le _, Nat.zero_le _⟩ (fun H locs hw => ?_)
            obtain ⟨h_73, hf⟩ := gz_of hf
            have e_74 := Option.some.inj hf
            obtain ⟨rfl, rfl⟩ := Prod.mk.inj e_74
            exact wd_zret hx hb hr h_73 hlocks hw dX8_readLine_162
    · replace hf := if_f c_34 hf
      refine lv_aload_n hx hb dX8_readLine_60 rfl (lv_at hl 0 rfl) ?_
      refine va_get (D := G.1) (ci := 8) (v := .int (gI S_33 2)) (C := RX8) (T := TX8) (N := 45) hx hb hts hin8 hown hG.1 hw.1 0 rfl rfl 3 (by decide) (hts (.fieldLink RX8 137 "DutyDeskModel" "sort" "I") (List.mem_of_getElem? (i := 1) rfl)) (fun _ h9 => h9) rfl dX8_readLine_61 ?_
      refine lv_iconst (v := 2) hx hb dX8_readLine_64 (by decide) ?_
      refine lv_icmp_eq (tgt := 74) hx hb dX8_readLine_65 (by decide) (fun c_75 => ?_) (fun c_75 => ?_)
      · replace hf := if_t c_75 hf
        refine lv_iload_n hx hb dX8_readLine_74 rfl (lv_at hl 2 rfl) ?_
        refine lv_iconst (v := 2) hx hb dX8_readLine_75 (by decide) ?_
        refine lv_icmp_ne (tgt := 88) hx hb dX8_readLine_76 (by decide) (fun c_76 => ?_) (fun c_76 => ?_)
        · replace hf := if_f c_76 hf
          exact j88 y_28 S_33 _ _ _ hf hw (lv_sub hl [0, 2] rfl)
        · replace hf := if_t c_76 hf
          refine lv_aload_n hx hb dX8_readLine_79 rfl (lv_at hl 0 rfl) ?_
          refine va_get (D := G.1) (ci := 8) (v := .int (gI S_33 6)) (C := RX8) (T := TX8) (N := 45) hx hb hts hin8 hown hG.1 hw.1 0 rfl rfl 7 (by decide) (hts (.fieldLink RX8 154 "DutyDeskModel" "worth" "I") (List.mem_of_getElem? (i := 3) rfl)) (fun _ h9 => h9) rfl dX8_readLine_80 ?_
          refine lv_bipush (v := 9) hx hb dX8_readLine_83 (by decide) ?_
          refine lv_icmp_gt (tgt := 106) hx hb dX8_readLine_85 (by decide) (fun c_77 => ?_) (fun c_77 => ?_)
          · replace hf := if_t c_77 hf
            refine lv_aload_n hx hb dX8_readLine_106 rfl (lv_at hl 0 rfl) ?_
            refine lv_iconst (v := 2) hx hb dX8_readLine_107 (by decide) ?_
            obtain ⟨⟨r_79, S_80⟩, h_78, hf⟩ := bind_of hf
            replace hf : _ = some _ := hf
            refine cV (As := [.int 2]) (rest := []) ⟨hx, hb, hml, hown, hts⟩ hG hA hw (c_X8_wrong G l a R S_33 2 r_79 S_80 h_78) (cwV 1 hts gX8_readLine_X8_wrong rfl rfl rfl (by decide +kernel) ⟨Nat.le_of_ble_eq_true rfl, Nat.le_of_ble_eq_true rfl⟩) (va_recv hG.1 hw.1 (ci := 8) (q0 := 0) rfl rfl) rfl hl.1 rfl (Nat.le_of_ble_eq_true rfl) dX8_readLine_108 ⟨Nat.zero_le _, Nat.zero_le _⟩ (fun H locs hw => ?_)
            obtain ⟨h_81, hf⟩ := gz_of hf
            have e_82 := Option.some.inj hf
            obtain ⟨rfl, rfl⟩ := Prod.mk.inj e_82
            exact wd_zret hx hb hr h_81 hlocks hw dX8_readLine_111
          · replace hf := if_f c_77 hf
            exact j88 y_28 S_33 _ _ _ hf hw (lv_sub hl [0, 2] rfl)
      · replace hf := if_f c_75 hf
        refine lv_aload_n hx hb dX8_readLine_68 rfl (lv_at hl 0 rfl) ?_
        refine lv_iconst (v := 1) hx hb dX8_readLine_69 (by decide) ?_
        obtain ⟨⟨r_84, S_85⟩, h_83, hf⟩ := bind_of hf
        replace hf : _ = some _ := hf
        refine cV (As := [.int 1]) (rest := []) ⟨hx, hb, hml, hown, hts⟩ hG hA hw (c_X8_wrong G l a R S_33 1 r_84 S_85 h_83) (cwV 1 hts gX8_readLine_X8_wrong rfl rfl rfl (by decide +kernel) ⟨Nat.le_of_ble_eq_true rfl, Nat.le_of_ble_eq_true rfl⟩) (va_recv hG.1 hw.1 (ci := 8) (q0 := 0) rfl rfl) rfl hl.1 rfl (Nat.le_of_ble_eq_true rfl) dX8_readLine_70 ⟨Nat.zero_le _, Nat.zero_le _⟩ (fun H locs hw => ?_)
        obtain ⟨h_86, hf⟩ := gz_of hf
        have e_87 := Option.some.inj hf
        obtain ⟨rfl, rfl⟩ := Prod.mk.inj e_87
        exact wd_zret hx hb hr h_86 hlocks hw dX8_readLine_73
  refine lv_aload_n hx hb dX8_readLine_0 rfl (lv_at hl 0 rfl) ?_
  refine va_get (D := G.1) (ci := 8) (v := .int (gI S 2)) (C := RX8) (T := TX8) (N := 45) hx hb hts hin8 hown hG.1 hw.1 0 rfl rfl 3 (by decide) (hts (.fieldLink RX8 137 "DutyDeskModel" "sort" "I") (List.mem_of_getElem? (i := 1) rfl)) (fun _ h9 => h9) rfl dX8_readLine_1 ?_
  refine lv_iconst (v := 1) hx hb dX8_readLine_4 (by decide) ?_
  refine lv_icmp_ne (tgt := 17) hx hb dX8_readLine_5 (by decide) (fun c_88 => ?_) (fun c_88 => ?_)
  · replace hf := if_f c_88 hf
    refine lv_aload_n hx hb dX8_readLine_17 rfl (lv_at hl 0 rfl) ?_
    refine lv_iconst (v := 1) hx hb dX8_readLine_18 (by decide) ?_
    obtain ⟨⟨r_90, S_91⟩, h_89, hf⟩ := bind_of hf
    replace hf : _ = some _ := hf
    refine cV (As := [.int 1]) (rest := []) ⟨hx, hb, hml, hown, hts⟩ hG hA hw (c_X8_wrong G l a R S 1 r_90 S_91 h_89) (cwV 1 hts gX8_readLine_X8_wrong rfl rfl rfl (by decide +kernel) ⟨Nat.le_of_ble_eq_true rfl, Nat.le_of_ble_eq_true rfl⟩) (va_recv hG.1 hw.1 (ci := 8) (q0 := 0) rfl rfl) rfl hl.1 rfl (Nat.le_of_ble_eq_true rfl) dX8_readLine_19 ⟨Nat.zero_le _, Nat.zero_le _⟩ (fun H locs hw => ?_)
    obtain ⟨h_92, hf⟩ := gz_of hf
    have e_93 := Option.some.inj hf
    obtain ⟨rfl, rfl⟩ := Prod.mk.inj e_93
    exact wd_zret hx hb hr h_92 hlocks hw dX8_readLine_22
  · replace hf := if_t c_88 hf
    refine lv_aload_n hx hb dX8_readLine_8 rfl (lv_at hl 0 rfl) ?_
    refine va_get (D := G.1) (ci := 8) (v := .int (gI S 3)) (C := RX8) (T := TX8) (N := 45) hx hb hts hin8 hown hG.1 hw.1 0 rfl rfl 4 (by decide) (hts (.fieldLink RX8 148 "DutyDeskModel" "what" "I") (List.mem_of_getElem? (i := 2) rfl)) (fun _ h9 => h9) rfl dX8_readLine_9 ?_
    refine lv_bipush (v := 10) hx hb dX8_readLine_12 (by decide) ?_
    refine lv_icmp_le (tgt := 23) hx hb dX8_readLine_14 (by decide) (fun c_94 => ?_) (fun c_94 => ?_)
    · replace hf := if_t c_94 hf
      refine lv_aload_n hx hb dX8_readLine_23 rfl (lv_at hl 0 rfl) ?_
      refine va_get (D := G.1) (ci := 8) (v := .int (gI S 3)) (C := RX8) (T := TX8) (N := 45) hx hb hts hin8 hown hG.1 hw.1 0 rfl rfl 4 (by decide) (hts (.fieldLink RX8 148 "DutyDeskModel" "what" "I") (List.mem_of_getElem? (i := 2) rfl)) (fun _ h9 => h9) rfl dX8_readLine_24 ?_
      refine lv_topi (fun x_95 ex_95 => ?_)
      replace hf := bnd_of ex_95 hf
      refine lv_istore_n (lv' := [(2, .int x_95), (0, .ref (a 0)), (1, .ref (a 4))]) hx hb dX8_readLine_27 rfl hl (by decide) rfl (fun ls hl => ?_)
      refine lv_iload_n hx hb dX8_readLine_28 rfl (lv_at hl 0 rfl) ?_
      refine lv_bipush (v := 10) hx hb dX8_readLine_29 (by decide) ?_
      refine lv_icmp_eq (tgt := 46) hx hb dX8_readLine_31 (by decide) (fun c_96 => ?_) (fun c_96 => ?_)
      · replace hf := if_t c_96 hf
        exact j46 x_95 S _ _ _ hf hw (lv_sub hl [1, 2, 0] rfl)
      · replace hf := if_f c_96 hf
        refine lv_aload_n hx hb dX8_readLine_34 rfl (lv_at hl 2 rfl) ?_
        refine lv_iload_n hx hb dX8_readLine_35 rfl (lv_at hl 0 rfl) ?_
        obtain ⟨h_97, hf⟩ := gd_of hf
        refine va_zald hx hb hG.1 hw.1 4 3 (mw_atZ (k := 4) rfl) rfl h_97 dX8_readLine_36 ?_
        refine lv_if_eq (tgt := 46) hx hb dX8_readLine_37 (by decide) (fun c_98 => ?_) (fun c_98 => ?_)
        · replace hf := if_t c_98 hf
          exact j46 x_95 S _ _ _ hf hw (lv_sub hl [1, 2, 0] rfl)
        · replace hf := if_f c_98 hf
          refine lv_aload_n hx hb dX8_readLine_40 rfl (lv_at hl 1 rfl) ?_
          refine lv_iconst (v := 3) hx hb dX8_readLine_41 (by decide) ?_
          obtain ⟨⟨r_100, S_101⟩, h_99, hf⟩ := bind_of hf
          replace hf : _ = some _ := hf
          refine cV (As := [.int 3]) (rest := []) ⟨hx, hb, hml, hown, hts⟩ hG hA hw (c_X8_wrong G l a R S 3 r_100 S_101 h_99) (cwV 1 hts gX8_readLine_X8_wrong rfl rfl rfl (by decide +kernel) ⟨Nat.le_of_ble_eq_true rfl, Nat.le_of_ble_eq_true rfl⟩) (va_recv hG.1 hw.1 (ci := 8) (q0 := 0) rfl rfl) rfl hl.1 rfl (Nat.le_of_ble_eq_true rfl) dX8_readLine_42 ⟨Nat.zero_le _, Nat.zero_le _⟩ (fun H locs hw => ?_)
          obtain ⟨h_102, hf⟩ := gz_of hf
          have e_103 := Option.some.inj hf
          obtain ⟨rfl, rfl⟩ := Prod.mk.inj e_103
          exact wd_zret hx hb hr h_102 hlocks hw dX8_readLine_45
    · replace hf := if_f c_94 hf
      refine lv_aload_n hx hb dX8_readLine_17 rfl (lv_at hl 0 rfl) ?_
      refine lv_iconst (v := 1) hx hb dX8_readLine_18 (by decide) ?_
      obtain ⟨⟨r_105, S_106⟩, h_104, hf⟩ := bind_of hf
      replace hf : _ = some _ := hf
      refine cV (As := [.int 1]) (rest := []) ⟨hx, hb, hml, hown, hts⟩ hG hA hw (c_X8_wrong G l a R S 1 r_105 S_106 h_104) (cwV 1 hts gX8_readLine_X8_wrong rfl rfl rfl (by decide +kernel) ⟨Nat.le_of_ble_eq_true rfl, Nat.le_of_ble_eq_true rfl⟩) (va_recv hG.1 hw.1 (ci := 8) (q0 := 0) rfl rfl) rfl hl.1 rfl (Nat.le_of_ble_eq_true rfl) dX8_readLine_19 ⟨Nat.zero_le _, Nat.zero_le _⟩ (fun H locs hw => ?_)
      obtain ⟨h_107, hf⟩ := gz_of hf
      have e_108 := Option.some.inj hf
      obtain ⟨rfl, rfl⟩ := Prod.mk.inj e_108
      exact wd_zret hx hb hr h_107 hlocks hw dX8_readLine_22
/-! DutyDeskModel.isDay(I)Z -/
def rm_X8_isDay : Room := { frames := 1, cells := 0, slots := 0, locals := 22 }
def f_X8_isDay (p1 : Int32) : Option (Int32) :=
  (f_X8_in p1 0 999).bind (fun r_2 => gz r_2 (some (r_2)))
set_option maxHeartbeats 4000000 in
set_option maxRecDepth 100000 in
theorem c_X8_isDay (G : GP) (l : Launch) (W0 : va_W) (p1 : Int32) (r0 : Int32) (hf : f_X8_isDay p1 = some r0) : MC G l yX8_isDay wsX8_isDay rm_X8_isDay [.int p1] (W0) (W0) (some (.int r0)) 0 0 := by
  refine MC.mk (cc := cX8_isDay) (maxL := 1) (ret := (some .boolean)) (by decide) rfl (Nat.le_of_ble_eq_true rfl) ?_
  intro p e s m below meth c A ls ⟨hx, hb, hr, hml, hown, hlocks, _, hts⟩ hw hG hA hl
  have hl : lv_has ls 1 [(0, .int p1)] := hl
  rw [f_X8_isDay] at hf
  refine lv_iload_n hx hb dX8_isDay_0 rfl (lv_at hl 0 rfl) ?_
  refine lv_iconst (v := 0) hx hb dX8_isDay_1 (by decide) ?_
  refine lv_sipush (v := 999) hx hb dX8_isDay_2 (by decide) ?_
  obtain ⟨r_2, h_1, hf⟩ := bind_of hf
  refine cS (As := [.int p1, .int 0, .int 999]) (rest := []) ⟨hx, hb, hml, hown, hts⟩ hG hA hw (c_X8_in G l _ p1 0 999 r_2 h_1) (va_cwS 3 hts gX8_isDay_X8_in rfl rfl rfl (by decide +kernel) ⟨Nat.le_of_ble_eq_true rfl, Nat.le_of_ble_eq_true rfl⟩) rfl hl.1 rfl (Nat.le_of_ble_eq_true rfl) dX8_isDay_5 ⟨Nat.zero_le _, Nat.zero_le _⟩ (fun H locs hw => ?_)
  obtain ⟨h_3, hf⟩ := gz_of hf
  have e_4 := Option.some.inj hf
  subst e_4
  exact wd_zret hx hb hr h_3 hlocks hw dX8_isDay_8
/-! DutyDeskModel.edition(I)I -/
def rm_X8_edition : Room := { frames := 7, cells := 0, slots := 0, locals := 158 }
def f_X8_edition_L112 (p1 : Int32) : (Int32 × St) → Option ((Int32 × St) ⊕ ((St) ⊕ ((Int32 × St) ⊕ (Int32 × St))))
  | (v_17, S_18) =>
  (if 11 ≤ v_17 then
    gd (gI S_18 9) 21 (bnd (sM S_18 3 ((gI S_18 9).toNatClampNeg) p1) fun S_21 => bnd (sI S_21 9 ((gI S_21 9) + 1)) fun S_22 => some (.inr (.inr (.inr (((gI S_22 9) - 1, S_22))))))
  else
    gd (220 + v_17) 242 (gd ((11 * (gI S_18 9)) + v_17) 242 (bnd (sM S_18 2 (((11 * (gI S_18 9)) + v_17).toNatClampNeg) (gM S_18 2 (220 + v_17).toNatClampNeg)) fun S_29 => bnd (v_17 + 1) fun x_30 => some (.inl (x_30, S_29)))))
def f_X8_edition_L77 (p1 : Int32) : St → Option ((St) ⊕ ((Int32 × St) ⊕ (Int32 × St)))
  | S_14 =>
  (if (gI S_14 2) = 4 then
    (if (gI S_14 9) = 20 then
    some (.inr (.inr (((-3), S_14))))
  else
    loopF (f_X8_edition_L112 p1) FU (0, S_14))
  else
    (f_X8_readLine S_14).bind (fun (r_36, S_37) => (if r_36 = 0 then
    some (.inr (.inr (((-1), S_37))))
  else
    some (.inl S_37))))
def f_X8_edition_L40 (p1 : Int32) : (Int32 × St) → Option ((Int32 × St) ⊕ (Int32 × St))
  | (v_9, S_10) =>
  (if 11 ≤ v_9 then
    (f_X8_scan S_10).bind (fun S_13 => loopF (f_X8_edition_L77 p1) FU S_13)
  else
    (f_X8_plain v_9).bind (fun r_44 => gd (220 + v_9) 242 (bnd (sM S_10 2 ((220 + v_9).toNatClampNeg) r_44) fun S_46 => gd v_9 11 (bnd (sM S_46 4 (v_9.toNatClampNeg) (vp_nar .boolean 0)) fun S_48 => bnd (v_9 + 1) fun x_49 => some (.inl (x_49, S_48))))))
def f_X8_edition (S : St) (p1 : Int32) : Option (Int32 × St) :=
  bnd (sI S 1 (gI S 0)) fun S_1 => bnd (sI S_1 0 0) fun S_2 => (f_X8_isDay p1).bind (fun r_4 => (if r_4 = 0 then
    some (((-2), S_2))
  else
    bnd (sI S_2 7 0) fun S_6 => bnd (sI S_6 8 (-1)) fun S_7 => bnd (sI S_7 5 0) fun S_8 => loopF (f_X8_edition_L40 p1) FU (0, S_8)))
set_option maxHeartbeats 4000000 in
set_option maxRecDepth 100000 in
theorem c_X8_edition (G : GP) (l : Launch) (a : Nat → Nat) (R : va_W) (S : St) (p1 : Int32) (r0 : Int32) (S9 : St) (hf : f_X8_edition S p1 = some (r0, S9)) : MC G l yX8_edition wsX8_edition rm_X8_edition [.ref (a 0), .int p1] (mw G.2.1 a R S) (mw G.2.1 a R S9) (some (.int r0)) 0 0 := by
  refine MC.mk (cc := cX8_edition) (maxL := 3) (ret := (some .int)) (by decide) rfl (Nat.le_of_ble_eq_true rfl) ?_
  intro p e s m below meth c A ls ⟨hx, hb, hr, hml, hown, hlocks, _, hts⟩ hw hG hA hl
  have hl : lv_has ls 3 [(0, .ref (a 0)), (1, .int p1)] := hl
  have hin8 : ∀ w ∈ u_ws RX8 TX8 45, w ∈ wsX8_edition := by decide +kernel
  rw [f_X8_edition] at hf
  refine lv_aload_n hx hb dX8_edition_0 rfl (lv_at hl 0 rfl) ?_
  refine lv_aload_n hx hb dX8_edition_1 rfl (lv_at hl 0 rfl) ?_
  refine va_get (D := G.1) (ci := 8) (v := .int (gI S 0)) (C := RX8) (T := TX8) (N := 45) hx hb hts hin8 hown hG.1 hw.1 0 rfl rfl 1 (by decide) (hts (.fieldLink RX8 109 "DutyDeskModel" "taped" "I") (List.mem_of_getElem? (i := 1) rfl)) (fun _ h9 => h9) rfl dX8_edition_2 ?_
  refine va_put (D := G.1) (ci := 8) (v := .int (gI S 0)) (ty := .int) (C := RX8) (T := TX8) (N := 45) hx hb hts hin8 tyX8 tyX8_ok nmX8 hown hG.1 hw.1 hw.2.1 hw.2.2 0 rfl rfl 2 (by decide) (hts (.fieldLink RX8 112 "DutyDeskModel" "size" "I") (List.mem_of_getElem? (i := 2) rfl)) (fun _ h9 => h9) rfl (by decide +kernel) rfl rfl (Nat.le_of_ble_eq_true rfl) dX8_edition_5 (fun H locs hP hD hS => ?_)
  obtain ⟨S_1, eS_1⟩ : ∃ z : St, z = sI S 1 (gI S 0) := ⟨_, rfl⟩
  replace hf := bnd_of eS_1 hf
  have hw : Wd G A s H locs (mw G.2.1 a R S_1) := wd_eq (by rw [eS_1]; exact mw_upI1 _) hP hD hS
  refine lv_aload_n hx hb dX8_edition_8 rfl (lv_at hl 0 rfl) ?_
  refine lv_iconst (v := 0) hx hb dX8_edition_9 (by decide) ?_
  refine va_put (D := G.1) (ci := 8) (v := .int 0) (ty := .int) (C := RX8) (T := TX8) (N := 45) hx hb hts hin8 tyX8 tyX8_ok nmX8 hown hG.1 hw.1 hw.2.1 hw.2.2 0 rfl rfl 1 (by decide) (hts (.fieldLink RX8 109 "DutyDeskModel" "taped" "I") (List.mem_of_getElem? (i := 1) rfl)) (fun _ h9 => h9) rfl (by decide +kernel) rfl rfl (Nat.le_of_ble_eq_true rfl) dX8_edition_10 (fun H locs hP hD hS => ?_)
  obtain ⟨S_2, eS_2⟩ : ∃ z : St, z = sI S_1 0 0 := ⟨_, rfl⟩
  replace hf := bnd_of eS_2 hf
  have hw : Wd G A s H locs (mw G.2.1 a R S_2) := wd_eq (by rw [eS_2]; exact mw_upI0 _) hP hD hS
  refine lv_iload_n hx hb dX8_edition_13 rfl (lv_at hl 1 rfl) ?_
  obtain ⟨r_4, h_3, hf⟩ := bind_of hf
  refine cS (As := [.int p1]) (rest := []) ⟨hx, hb, hml, hown, hts⟩ hG hA hw (c_X8_isDay G l _ p1 r_4 h_3) (va_cwS 1 hts gX8_edition_X8_isDay rfl rfl rfl (by decide +kernel) ⟨Nat.le_of_ble_eq_true rfl, Nat.le_of_ble_eq_true rfl⟩) rfl hl.1 rfl (Nat.le_of_ble_eq_true rfl) dX8_edition_14 ⟨Nat.zero_le _, Nat.zero_le _⟩ (fun H locs hw => ?_)
  refine lv_if_ne (tgt := 23) hx hb dX8_edition_17 (by decide) (fun c_5 => ?_) (fun c_5 => ?_)
  · replace hf := if_f c_5 hf
    refine lv_aload_n hx hb dX8_edition_23 rfl (lv_at hl 0 rfl) ?_
    refine lv_iconst (v := 0) hx hb dX8_edition_24 (by decide) ?_
    refine va_put (D := G.1) (ci := 8) (v := .int 0) (ty := .int) (C := RX8) (T := TX8) (N := 45) hx hb hts hin8 tyX8 tyX8_ok nmX8 hown hG.1 hw.1 hw.2.1 hw.2.2 0 rfl rfl 8 (by decide) (hts (.fieldLink RX8 157 "DutyDeskModel" "faultKind" "I") (List.mem_of_getElem? (i := 3) rfl)) (fun _ h9 => h9) rfl (by decide +kernel) rfl rfl (Nat.le_of_ble_eq_true rfl) dX8_edition_25 (fun H locs hP hD hS => ?_)
    obtain ⟨S_6, eS_6⟩ : ∃ z : St, z = sI S_2 7 0 := ⟨_, rfl⟩
    replace hf := bnd_of eS_6 hf
    have hw : Wd G A s H locs (mw G.2.1 a R S_6) := wd_eq (by rw [eS_6]; exact mw_upI7 _) hP hD hS
    refine lv_aload_n hx hb dX8_edition_28 rfl (lv_at hl 0 rfl) ?_
    refine lv_iconst (v := (-1)) hx hb dX8_edition_29 (by decide) ?_
    refine va_put (D := G.1) (ci := 8) (v := .int (-1)) (ty := .int) (C := RX8) (T := TX8) (N := 45) hx hb hts hin8 tyX8 tyX8_ok nmX8 hown hG.1 hw.1 hw.2.1 hw.2.2 0 rfl rfl 9 (by decide) (hts (.fieldLink RX8 13 "DutyDeskModel" "faultPlace" "I") (List.mem_of_getElem? (i := 4) rfl)) (fun _ h9 => h9) rfl (by decide +kernel) rfl rfl (Nat.le_of_ble_eq_true rfl) dX8_edition_30 (fun H locs hP hD hS => ?_)
    obtain ⟨S_7, eS_7⟩ : ∃ z : St, z = sI S_6 8 (-1) := ⟨_, rfl⟩
    replace hf := bnd_of eS_7 hf
    have hw : Wd G A s H locs (mw G.2.1 a R S_7) := wd_eq (by rw [eS_7]; exact mw_upI8 _) hP hD hS
    refine lv_aload_n hx hb dX8_edition_33 rfl (lv_at hl 0 rfl) ?_
    refine lv_iconst (v := 0) hx hb dX8_edition_34 (by decide) ?_
    refine va_put (D := G.1) (ci := 8) (v := .int 0) (ty := .int) (C := RX8) (T := TX8) (N := 45) hx hb hts hin8 tyX8 tyX8_ok nmX8 hown hG.1 hw.1 hw.2.1 hw.2.2 0 rfl rfl 6 (by decide) (hts (.fieldLink RX8 131 "DutyDeskModel" "end" "I") (List.mem_of_getElem? (i := 5) rfl)) (fun _ h9 => h9) rfl (by decide +kernel) rfl rfl (Nat.le_of_ble_eq_true rfl) dX8_edition_35 (fun H locs hP hD hS => ?_)
    obtain ⟨S_8, eS_8⟩ : ∃ z : St, z = sI S_7 5 0 := ⟨_, rfl⟩
    replace hf := bnd_of eS_8 hf
    have hw : Wd G A s H locs (mw G.2.1 a R S_8) := wd_eq (by rw [eS_8]; exact mw_upI5 _) hP hD hS
    refine lv_iconst (v := 0) hx hb dX8_edition_38 (by decide) ?_
    refine lv_istore_n (lv' := [(2, .int 0), (0, .ref (a 0)), (1, .int p1)]) hx hb dX8_edition_39 rfl hl (by decide) rfl (fun ls hl => ?_)
    refine loopF_ind (body := f_X8_edition_L40 p1) (fun (q : Int32 × St) => match q with | (v_9, S_10) => ∀ (H : Heap) (locs : List Loc) (ls : Array Slot), Wd G A s H locs (mw G.2.1 a R S_10) → lv_has ls 3 [(0, .ref (a 0)), (1, .int p1), (2, .int v_9)] → WQ p l e rm_X8_edition s m [.ref (a 0), .int p1] below meth c G A (mw G.2.1 a R S9) (some (.int r0)) 0 0 H locs 0 0 (F0 m 40 ls [])) ?_ FU (0, S_8) hf _ _ _ hw (lv_sub hl [1, 2, 0] rfl)
    clear hf hw hl
    intro ⟨v_9, S_10⟩ t0_40 hf hz1_0_40 hz2_0_40 H locs ls hw hl
    rw [f_X8_edition_L40] at hf
    refine lv_iload_n hx hb dX8_edition_40 rfl (lv_at hl 2 rfl) ?_
    refine lv_bipush (v := 11) hx hb dX8_edition_41 (by decide) ?_
    refine lv_icmp_ge (tgt := 73) hx hb dX8_edition_43 (by decide) (fun c_11 => ?_) (fun c_11 => ?_)
    · replace hf := if_t c_11 hf
      refine lv_aload_n hx hb dX8_edition_73 rfl (lv_at hl 0 rfl) ?_
      obtain ⟨S_13, h_12, hf⟩ := bind_of hf
      refine cV (As := []) (rest := []) ⟨hx, hb, hml, hown, hts⟩ hG hA hw (c_X8_scan G l a R S_10 S_13 h_12) (cwV 0 hts gX8_edition_X8_scan rfl rfl rfl (by decide +kernel) ⟨Nat.le_of_ble_eq_true rfl, Nat.le_of_ble_eq_true rfl⟩) (va_recv hG.1 hw.1 (ci := 8) (q0 := 0) rfl rfl) rfl hl.1 rfl (Nat.le_of_ble_eq_true rfl) dX8_edition_74 ⟨Nat.zero_le _, Nat.zero_le _⟩ (fun H locs hw => ?_)
      refine loopF_ind (body := f_X8_edition_L77 p1) (fun (S_14 : St) => ∀ (H : Heap) (locs : List Loc) (ls : Array Slot), Wd G A s H locs (mw G.2.1 a R S_14) → lv_has ls 3 [(0, .ref (a 0)), (1, .int p1)] → WQ p l e rm_X8_edition s m [.ref (a 0), .int p1] below meth c G A (mw G.2.1 a R S9) (some (.int r0)) 0 0 H locs 0 0 (F0 m 77 ls [])) ?_ FU S_13 hf _ _ _ hw (lv_sub hl [0, 1] rfl)
      clear hf hw hl
      intro S_14 t1_77 hf hz1_1_77 hz2_1_77 H locs ls hw hl
      rw [f_X8_edition_L77] at hf
      refine lv_aload_n hx hb dX8_edition_77 rfl (lv_at hl 0 rfl) ?_
      refine va_get (D := G.1) (ci := 8) (v := .int (gI S_14 2)) (C := RX8) (T := TX8) (N := 45) hx hb hts hin8 hown hG.1 hw.1 0 rfl rfl 3 (by decide) (hts (.fieldLink RX8 137 "DutyDeskModel" "sort" "I") (List.mem_of_getElem? (i := 8) rfl)) (fun _ h9 => h9) rfl dX8_edition_78 ?_
      refine lv_iconst (v := 4) hx hb dX8_edition_81 (by decide) ?_
      refine lv_icmp_eq (tgt := 98) hx hb dX8_edition_82 (by decide) (fun c_15 => ?_) (fun c_15 => ?_)
      · replace hf := if_t c_15 hf
        refine lv_aload_n hx hb dX8_edition_98 rfl (lv_at hl 0 rfl) ?_
        refine va_get (D := G.1) (ci := 8) (v := .int (gI S_14 9)) (C := RX8) (T := TX8) (N := 45) hx hb hts hin8 hown hG.1 hw.1 0 rfl rfl 12 (by decide) (hts (.fieldLink RX8 180 "DutyDeskModel" "editions" "I") (List.mem_of_getElem? (i := 9) rfl)) (fun _ h9 => h9) rfl dX8_edition_99 ?_
        refine lv_bipush (v := 20) hx hb dX8_edition_102 (by decide) ?_
        refine lv_icmp_ne (tgt := 110) hx hb dX8_edition_104 (by decide) (fun c_16 => ?_) (fun c_16 => ?_)
        · replace hf := if_f c_16 hf
          refine lv_iconst (v := 0) hx hb dX8_edition_110 (by decide) ?_
          refine lv_istore_n (lv' := [(2, .int 0), (0, .ref (a 0)), (1, .int p1)]) hx hb dX8_edition_111 rfl hl (by decide) rfl (fun ls hl => ?_)
          refine loopF_ind (body := f_X8_edition_L112 p1) (fun (q : Int32 × St) => match q with | (v_17, S_18) => ∀ (H : Heap) (locs : List Loc) (ls : Array Slot), Wd G A s H locs (mw G.2.1 a R S_18) → lv_has ls 3 [(0, .ref (a 0)), (1, .int p1), (2, .int v_17)] → WQ p l e rm_X8_edition s m [.ref (a 0), .int p1] below meth c G A (mw G.2.1 a R S9) (some (.int r0)) 0 0 H locs 0 0 (F0 m 112 ls [])) ?_ FU (0, S_14) hf _ _ _ hw (lv_sub hl [1, 2, 0] rfl)
          clear hf hw hl
          intro ⟨v_17, S_18⟩ t2_112 hf hz1_2_112 hz2_2_112 H locs ls hw hl
          rw [f_X8_edition_L112] at hf
          refine lv_iload_n hx hb dX8_edition_112 rfl (lv_at hl 2 rfl) ?_
          refine lv_bipush (v := 11) hx hb dX8_edition_113 (by decide) ?_
          refine lv_icmp_ge (tgt := 148) hx hb dX8_edition_115 (by decide) (fun c_19 => ?_) (fun c_19 => ?_)
          · replace hf := if_t c_19 hf
            refine lv_aload_n hx hb dX8_edition_148 rfl (lv_at hl 0 rfl) ?_
            refine va_get (D := G.1) (ci := 8) (v := .ref (a 3)) (C := RX8) (T := TX8) (N := 45) hx hb hts hin8 hown hG.1 hw.1 0 rfl rfl 11 (by decide) (hts (.fieldLink RX8 21 "DutyDeskModel" "firstDay" "[I") (List.mem_of_getElem? (i := 10) rfl)) (fun _ h9 => h9) rfl dX8_edition_149 ?_
            refine lv_aload_n hx hb dX8_edition_152 rfl (lv_at hl 0 rfl) ?_
            refine va_get (D := G.1) (ci := 8) (v := .int (gI S_18 9)) (C := RX8) (T := TX8) (N := 45) hx hb hts hin8 hown hG.1 hw.1 0 rfl rfl 12 (by decide) (hts (.fieldLink RX8 180 "DutyDeskModel" "editions" "I") (List.mem_of_getElem? (i := 9) rfl)) (fun _ h9 => h9) rfl dX8_edition_153 ?_
            refine lv_iload_n hx hb dX8_edition_156 rfl (lv_at hl 1 rfl) ?_
            obtain ⟨h_20, hf⟩ := gd_of hf
            refine va_iast hx hb hG.1 hw.1 hw.2.1 hw.2.2 3 1 (mw_atI (k := 3) rfl) rfl h_20 dX8_edition_157 (fun H locs hP hD hS => ?_)
            obtain ⟨S_21, eS_21⟩ : ∃ z : St, z = sM S_18 3 ((gI S_18 9).toNatClampNeg) p1 := ⟨_, rfl⟩
            replace hf := bnd_of eS_21 hf
            have hw : Wd G A s H locs (mw G.2.1 a R S_21) := wd_eq (by rw [eS_21]; exact mw_upI (k := 3) rfl _) hP hD hS
            refine lv_aload_n hx hb dX8_edition_158 rfl (lv_at hl 0 rfl) ?_
            refine lv_dup hx hb dX8_edition_159 rfl ?_
            refine va_get (D := G.1) (ci := 8) (v := .int (gI S_21 9)) (C := RX8) (T := TX8) (N := 45) hx hb hts hin8 hown hG.1 hw.1 0 rfl rfl 12 (by decide) (hts (.fieldLink RX8 180 "DutyDeskModel" "editions" "I") (List.mem_of_getElem? (i := 9) rfl)) (fun _ h9 => h9) rfl dX8_edition_160 ?_
            refine lv_iconst (v := 1) hx hb dX8_edition_163 (by decide) ?_
            refine lv_iadd hx hb dX8_edition_164 ?_
            refine va_put (D := G.1) (ci := 8) (v := .int ((gI S_21 9) + 1)) (ty := .int) (C := RX8) (T := TX8) (N := 45) hx hb hts hin8 tyX8 tyX8_ok nmX8 hown hG.1 hw.1 hw.2.1 hw.2.2 0 rfl rfl 12 (by decide) (hts (.fieldLink RX8 180 "DutyDeskModel" "editions" "I") (List.mem_of_getElem? (i := 9) rfl)) (fun _ h9 => h9) rfl (by decide +kernel) rfl rfl (Nat.le_of_ble_eq_true rfl) dX8_edition_165 (fun H locs hP hD hS => ?_)
            obtain ⟨S_22, eS_22⟩ : ∃ z : St, z = sI S_21 9 ((gI S_21 9) + 1) := ⟨_, rfl⟩
            replace hf := bnd_of eS_22 hf
            have hw : Wd G A s H locs (mw G.2.1 a R S_22) := wd_eq (by rw [eS_22]; exact mw_upI9 _) hP hD hS
            refine lv_aload_n hx hb dX8_edition_168 rfl (lv_at hl 0 rfl) ?_
            refine va_get (D := G.1) (ci := 8) (v := .int (gI S_22 9)) (C := RX8) (T := TX8) (N := 45) hx hb hts hin8 hown hG.1 hw.1 0 rfl rfl 12 (by decide) (hts (.fieldLink RX8 180 "DutyDeskModel" "editions" "I") (List.mem_of_getElem? (i := 9) rfl)) (fun _ h9 => h9) rfl dX8_edition_169 ?_
            refine lv_iconst (v := 1) hx hb dX8_edition_172 (by decide) ?_
            refine lv_isub hx hb dX8_edition_173 ?_
            have e_23 := Option.some.inj hf
            have e_24 := hz2_2_112 _ e_23.symm
            have e_25 := hz2_1_77 _ e_24.symm
            have e_26 := hz2_0_40 _ e_25.symm
            obtain ⟨rfl, rfl⟩ := Prod.mk.inj e_26
            exact wd_iret hx hb hr hlocks hw dX8_edition_174
          · replace hf := if_f c_19 hf
            refine lv_aload_n hx hb dX8_edition_118 rfl (lv_at hl 0 rfl) ?_
            refine va_get (D := G.1) (ci := 8) (v := .ref (a 2)) (C := RX8) (T := TX8) (N := 45) hx hb hts hin8 hown hG.1 hw.1 0 rfl rfl 10 (by decide) (hts (.fieldLink RX8 17 "DutyDeskModel" "rules" "[I") (List.mem_of_getElem? (i := 6) rfl)) (fun _ h9 => h9) rfl dX8_edition_119 ?_
            refine lv_bipush (v := 11) hx hb dX8_edition_122 (by decide) ?_
            refine lv_aload_n hx hb dX8_edition_124 rfl (lv_at hl 0 rfl) ?_
            refine va_get (D := G.1) (ci := 8) (v := .int (gI S_18 9)) (C := RX8) (T := TX8) (N := 45) hx hb hts hin8 hown hG.1 hw.1 0 rfl rfl 12 (by decide) (hts (.fieldLink RX8 180 "DutyDeskModel" "editions" "I") (List.mem_of_getElem? (i := 9) rfl)) (fun _ h9 => h9) rfl dX8_edition_125 ?_
            refine lv_imul hx hb dX8_edition_128 ?_
            refine lv_iload_n hx hb dX8_edition_129 rfl (lv_at hl 2 rfl) ?_
            refine lv_iadd hx hb dX8_edition_130 ?_
            refine lv_aload_n hx hb dX8_edition_131 rfl (lv_at hl 0 rfl) ?_
            refine va_get (D := G.1) (ci := 8) (v := .ref (a 2)) (C := RX8) (T := TX8) (N := 45) hx hb hts hin8 hown hG.1 hw.1 0 rfl rfl 10 (by decide) (hts (.fieldLink RX8 17 "DutyDeskModel" "rules" "[I") (List.mem_of_getElem? (i := 6) rfl)) (fun _ h9 => h9) rfl dX8_edition_132 ?_
            refine lv_sipush (v := 220) hx hb dX8_edition_135 (by decide) ?_
            refine lv_iload_n hx hb dX8_edition_138 rfl (lv_at hl 2 rfl) ?_
            refine lv_iadd hx hb dX8_edition_139 ?_
            obtain ⟨h_27, hf⟩ := gd_of hf
            refine va_iald hx hb hG.1 hw.1 2 1 (mw_atI (k := 2) rfl) rfl h_27 dX8_edition_140 ?_
            obtain ⟨h_28, hf⟩ := gd_of hf
            refine va_iast hx hb hG.1 hw.1 hw.2.1 hw.2.2 2 1 (mw_atI (k := 2) rfl) rfl h_28 dX8_edition_141 (fun H locs hP hD hS => ?_)
            obtain ⟨S_29, eS_29⟩ : ∃ z : St, z = sM S_18 2 (((11 * (gI S_18 9)) + v_17).toNatClampNeg) (gM S_18 2 (220 + v_17).toNatClampNeg) := ⟨_, rfl⟩
            replace hf := bnd_of eS_29 hf
            have hw : Wd G A s H locs (mw G.2.1 a R S_29) := wd_eq (by rw [eS_29]; exact mw_upI (k := 2) rfl _) hP hD hS
            obtain ⟨x_30, ex_30⟩ : ∃ z : Int32, z = v_17 + 1 := ⟨_, rfl⟩
            replace hf := bnd_of ex_30 hf
            refine lv_iinc (v := x_30) (lv' := [(2, .int x_30), (0, .ref (a 0)), (1, .int p1)]) hx hb dX8_edition_142 hl (k := 2) rfl (by rw [ex_30]; rfl) (by decide) rfl (fun ls hl => ?_)
            refine lv_goto (tgt := 112) hx hb dX8_edition_145 (by decide) ?_
            have e_31 := Option.some.inj hf
            exact hz1_2_112 _ e_31.symm _ _ _ hw (lv_sub hl [1, 2, 0] rfl)
        · replace hf := if_t c_16 hf
          refine lv_bipush (v := (-3)) hx hb dX8_edition_107 (by decide) ?_
          have e_32 := Option.some.inj hf
          have e_33 := hz2_1_77 _ e_32.symm
          have e_34 := hz2_0_40 _ e_33.symm
          obtain ⟨rfl, rfl⟩ := Prod.mk.inj e_34
          exact wd_iret hx hb hr hlocks hw dX8_edition_109
      · replace hf := if_f c_15 hf
        refine lv_aload_n hx hb dX8_edition_85 rfl (lv_at hl 0 rfl) ?_
        refine lv_aload_n hx hb dX8_edition_86 rfl (lv_at hl 0 rfl) ?_
        refine va_get (D := G.1) (ci := 8) (v := .ref (a 4)) (C := RX8) (T := TX8) (N := 45) hx hb hts hin8 hown hG.1 hw.1 0 rfl rfl 13 (by decide) (hts (.fieldLink RX8 24 "DutyDeskModel" "told" "[Z") (List.mem_of_getElem? (i := 7) rfl)) (fun _ h9 => h9) rfl dX8_edition_87 ?_
        obtain ⟨⟨r_36, S_37⟩, h_35, hf⟩ := bind_of hf
        replace hf : _ = some _ := hf
        refine cV (As := [.ref (a 4)]) (rest := []) ⟨hx, hb, hml, hown, hts⟩ hG hA hw (c_X8_readLine G l a R S_14 r_36 S_37 h_35) (cwV 1 hts gX8_edition_X8_readLine rfl rfl rfl (by decide +kernel) ⟨Nat.le_of_ble_eq_true rfl, Nat.le_of_ble_eq_true rfl⟩) (va_recv hG.1 hw.1 (ci := 8) (q0 := 0) rfl rfl) rfl hl.1 rfl (Nat.le_of_ble_eq_true rfl) dX8_edition_90 ⟨Nat.zero_le _, Nat.zero_le _⟩ (fun H locs hw => ?_)
        refine lv_if_ne (tgt := 77) hx hb dX8_edition_93 (by decide) (fun c_38 => ?_) (fun c_38 => ?_)
        · replace hf := if_f c_38 hf
          have e_39 := Option.some.inj hf
          exact hz1_1_77 _ e_39.symm _ _ _ hw (lv_sub hl [0, 1] rfl)
        · replace hf := if_t c_38 hf
          refine lv_iconst (v := (-1)) hx hb dX8_edition_96 (by decide) ?_
          have e_40 := Option.some.inj hf
          have e_41 := hz2_1_77 _ e_40.symm
          have e_42 := hz2_0_40 _ e_41.symm
          obtain ⟨rfl, rfl⟩ := Prod.mk.inj e_42
          exact wd_iret hx hb hr hlocks hw dX8_edition_97
    · replace hf := if_f c_11 hf
      refine lv_aload_n hx hb dX8_edition_46 rfl (lv_at hl 0 rfl) ?_
      refine va_get (D := G.1) (ci := 8) (v := .ref (a 2)) (C := RX8) (T := TX8) (N := 45) hx hb hts hin8 hown hG.1 hw.1 0 rfl rfl 10 (by decide) (hts (.fieldLink RX8 17 "DutyDeskModel" "rules" "[I") (List.mem_of_getElem? (i := 6) rfl)) (fun _ h9 => h9) rfl dX8_edition_47 ?_
      refine lv_sipush (v := 220) hx hb dX8_edition_50 (by decide) ?_
      refine lv_iload_n hx hb dX8_edition_53 rfl (lv_at hl 2 rfl) ?_
      refine lv_iadd hx hb dX8_edition_54 ?_
      refine lv_iload_n hx hb dX8_edition_55 rfl (lv_at hl 2 rfl) ?_
      obtain ⟨r_44, h_43, hf⟩ := bind_of hf
      refine cS (As := [.int v_9]) (rest := [.int (220 + v_9), .ref (a 2)]) ⟨hx, hb, hml, hown, hts⟩ hG hA hw (c_X8_plain G l _ v_9 r_44 h_43) (va_cwS 1 hts gX8_edition_X8_plain rfl rfl rfl (by decide +kernel) ⟨Nat.le_of_ble_eq_true rfl, Nat.le_of_ble_eq_true rfl⟩) rfl hl.1 rfl (Nat.le_of_ble_eq_true rfl) dX8_edition_56 ⟨Nat.zero_le _, Nat.zero_le _⟩ (fun H locs hw => ?_)
      obtain ⟨h_45, hf⟩ := gd_of hf
      refine va_iast hx hb hG.1 hw.1 hw.2.1 hw.2.2 2 1 (mw_atI (k := 2) rfl) rfl h_45 dX8_edition_59 (fun H locs hP hD hS => ?_)
      obtain ⟨S_46, eS_46⟩ : ∃ z : St, z = sM S_10 2 ((220 + v_9).toNatClampNeg) r_44 := ⟨_, rfl⟩
      replace hf := bnd_of eS_46 hf
      have hw : Wd G A s H locs (mw G.2.1 a R S_46) := wd_eq (by rw [eS_46]; exact mw_upI (k := 2) rfl _) hP hD hS
      refine lv_aload_n hx hb dX8_edition_60 rfl (lv_at hl 0 rfl) ?_
      refine va_get (D := G.1) (ci := 8) (v := .ref (a 4)) (C := RX8) (T := TX8) (N := 45) hx hb hts hin8 hown hG.1 hw.1 0 rfl rfl 13 (by decide) (hts (.fieldLink RX8 24 "DutyDeskModel" "told" "[Z") (List.mem_of_getElem? (i := 7) rfl)) (fun _ h9 => h9) rfl dX8_edition_61 ?_
      refine lv_iload_n hx hb dX8_edition_64 rfl (lv_at hl 2 rfl) ?_
      refine lv_iconst (v := 0) hx hb dX8_edition_65 (by decide) ?_
      obtain ⟨h_47, hf⟩ := gd_of hf
      refine va_zast hx hb hG.1 hw.1 hw.2.1 hw.2.2 4 3 (mw_atZ (k := 4) rfl) rfl h_47 dX8_edition_66 (fun H locs hP hD hS => ?_)
      obtain ⟨S_48, eS_48⟩ : ∃ z : St, z = sM S_46 4 (v_9.toNatClampNeg) (vp_nar .boolean 0) := ⟨_, rfl⟩
      replace hf := bnd_of eS_48 hf
      have hw : Wd G A s H locs (mw G.2.1 a R S_48) := wd_eq (by rw [eS_48]; exact mw_upZ (k := 4) rfl _) hP hD hS
      obtain ⟨x_49, ex_49⟩ : ∃ z : Int32, z = v_9 + 1 := ⟨_, rfl⟩
      replace hf := bnd_of ex_49 hf
      refine lv_iinc (v := x_49) (lv' := [(2, .int x_49), (0, .ref (a 0)), (1, .int p1)]) hx hb dX8_edition_67 hl (k := 2) rfl (by rw [ex_49]; rfl) (by decide) rfl (fun ls hl => ?_)
      refine lv_goto (tgt := 40) hx hb dX8_edition_70 (by decide) ?_
      have e_50 := Option.some.inj hf
      exact hz1_0_40 _ e_50.symm _ _ _ hw (lv_sub hl [1, 2, 0] rfl)
  · replace hf := if_t c_5 hf
    refine lv_bipush (v := (-2)) hx hb dX8_edition_20 (by decide) ?_
    have e_51 := Option.some.inj hf
    obtain ⟨rfl, rfl⟩ := Prod.mk.inj e_51
    exact wd_iret hx hb hr hlocks hw dX8_edition_22
/-! DutyDeskModel.fault(I)I -/
def rm_X8_fault : Room := { frames := 0, cells := 0, slots := 0, locals := 0 }
def f_X8_fault (S : St) (p1 : Int32) : Option (Int32) :=
  (if p1 = 0 then
    some ((gI S 7))
  else
    (if p1 = 1 then
    some ((gI S 8))
  else
    some ((-1))))
set_option maxHeartbeats 4000000 in
set_option maxRecDepth 100000 in
theorem c_X8_fault (G : GP) (l : Launch) (a : Nat → Nat) (R : va_W) (S : St) (p1 : Int32) (r0 : Int32) (hf : f_X8_fault S p1 = some r0) : MC G l yX8_fault wsX8_fault rm_X8_fault [.ref (a 0), .int p1] (mw G.2.1 a R S) (mw G.2.1 a R S) (some (.int r0)) 0 0 := by
  refine MC.mk (cc := cX8_fault) (maxL := 2) (ret := (some .int)) (by decide) rfl (Nat.le_of_ble_eq_true rfl) ?_
  intro p e s m below meth c A ls ⟨hx, hb, hr, hml, hown, hlocks, _, hts⟩ hw hG hA hl
  have hl : lv_has ls 2 [(0, .ref (a 0)), (1, .int p1)] := hl
  have hin8 : ∀ w ∈ u_ws RX8 TX8 45, w ∈ wsX8_fault := by decide +kernel
  rw [f_X8_fault] at hf
  refine lv_iload_n hx hb dX8_fault_0 rfl (lv_at hl 1 rfl) ?_
  refine lv_if_ne (tgt := 11) hx hb dX8_fault_1 (by decide) (fun c_1 => ?_) (fun c_1 => ?_)
  · replace hf := if_f c_1 hf
    refine lv_iload_n hx hb dX8_fault_11 rfl (lv_at hl 1 rfl) ?_
    refine lv_iconst (v := 1) hx hb dX8_fault_12 (by decide) ?_
    refine lv_icmp_ne (tgt := 23) hx hb dX8_fault_13 (by decide) (fun c_2 => ?_) (fun c_2 => ?_)
    · replace hf := if_f c_2 hf
      refine lv_iconst (v := (-1)) hx hb dX8_fault_23 (by decide) ?_
      have e_3 := Option.some.inj hf
      subst e_3
      exact wd_iret hx hb hr hlocks hw dX8_fault_24
    · replace hf := if_t c_2 hf
      refine lv_aload_n hx hb dX8_fault_16 rfl (lv_at hl 0 rfl) ?_
      refine va_get (D := G.1) (ci := 8) (v := .int (gI S 8)) (C := RX8) (T := TX8) (N := 45) hx hb hts hin8 hown hG.1 hw.1 0 rfl rfl 9 (by decide) (hts (.fieldLink RX8 13 "DutyDeskModel" "faultPlace" "I") (List.mem_of_getElem? (i := 2) rfl)) (fun _ h9 => h9) rfl dX8_fault_17 ?_
      refine lv_goto (tgt := 24) hx hb dX8_fault_20 (by decide) ?_
      have e_4 := Option.some.inj hf
      subst e_4
      exact wd_iret hx hb hr hlocks hw dX8_fault_24
  · replace hf := if_t c_1 hf
    refine lv_aload_n hx hb dX8_fault_4 rfl (lv_at hl 0 rfl) ?_
    refine va_get (D := G.1) (ci := 8) (v := .int (gI S 7)) (C := RX8) (T := TX8) (N := 45) hx hb hts hin8 hown hG.1 hw.1 0 rfl rfl 8 (by decide) (hts (.fieldLink RX8 157 "DutyDeskModel" "faultKind" "I") (List.mem_of_getElem? (i := 1) rfl)) (fun _ h9 => h9) rfl dX8_fault_5 ?_
    refine lv_goto (tgt := 24) hx hb dX8_fault_8 (by decide) ?_
    have e_5 := Option.some.inj hf
    subst e_5
    exact wd_iret hx hb hr hlocks hw dX8_fault_24
/-! DutyDeskModel.forceOf(II)I -/
def rm_X8_forceOf : Room := { frames := 0, cells := 0, slots := 0, locals := 0 }
def f_X8_forceOf_L5 (S : St) (p1 : Int32) (p2 : Int32) : (Int32 × Int32) → Option ((Int32 × Int32) ⊕ (Int32))
  | (v_1, v_2) =>
  (if p2 ≤ v_2 then
    some (.inr (v_1))
  else
    gd v_2 21 ((if p1 < (gM S 3 v_2.toNatClampNeg) then
    bnd (v_2 + 1) fun x_8 => some (.inl (v_1, x_8))
  else
    (if v_1 = (-1) then
    bnd (v_2 + 1) fun x_11 => some (.inl (v_2, x_11))
  else
    gd v_2 21 (gd v_1 21 ((if (gM S 3 v_2.toNatClampNeg) < (gM S 3 v_1.toNatClampNeg) then
    bnd (v_2 + 1) fun x_16 => some (.inl (v_1, x_16))
  else
    bnd (v_2 + 1) fun x_18 => some (.inl (v_2, x_18)))))))))
def f_X8_forceOf (S : St) (p1 : Int32) (p2 : Int32) : Option (Int32) :=
  loopF (f_X8_forceOf_L5 S p1 p2) FU ((-1), 0)
set_option maxHeartbeats 4000000 in
set_option maxRecDepth 100000 in
theorem c_X8_forceOf (G : GP) (l : Launch) (a : Nat → Nat) (R : va_W) (S : St) (p1 : Int32) (p2 : Int32) (r0 : Int32) (hf : f_X8_forceOf S p1 p2 = some r0) : MC G l yX8_forceOf wsX8_forceOf rm_X8_forceOf [.ref (a 0), .int p1, .int p2] (mw G.2.1 a R S) (mw G.2.1 a R S) (some (.int r0)) 0 0 := by
  refine MC.mk (cc := cX8_forceOf) (maxL := 5) (ret := (some .int)) (by decide) rfl (Nat.le_of_ble_eq_true rfl) ?_
  intro p e s m below meth c A ls ⟨hx, hb, hr, hml, hown, hlocks, _, hts⟩ hw hG hA hl
  have hl : lv_has ls 5 [(0, .ref (a 0)), (1, .int p1), (2, .int p2)] := hl
  have hin8 : ∀ w ∈ u_ws RX8 TX8 45, w ∈ wsX8_forceOf := by decide +kernel
  rw [f_X8_forceOf] at hf
  refine lv_iconst (v := (-1)) hx hb dX8_forceOf_0 (by decide) ?_
  refine lv_istore_n (lv' := [(3, .int (-1)), (0, .ref (a 0)), (1, .int p1), (2, .int p2)]) hx hb dX8_forceOf_1 rfl hl (by decide) rfl (fun ls hl => ?_)
  refine lv_iconst (v := 0) hx hb dX8_forceOf_2 (by decide) ?_
  refine lv_istore (lv' := [(4, .int 0), (3, .int (-1)), (0, .ref (a 0)), (1, .int p1), (2, .int p2)]) hx hb dX8_forceOf_3 hl (by decide) rfl (fun ls hl => ?_)
  refine loopF_ind (body := f_X8_forceOf_L5 S p1 p2) (fun (q : Int32 × Int32) => match q with | (v_1, v_2) => ∀ (H : Heap) (locs : List Loc) (ls : Array Slot), Wd G A s H locs (mw G.2.1 a R S) → lv_has ls 5 [(0, .ref (a 0)), (1, .int p1), (2, .int p2), (3, .int v_1), (4, .int v_2)] → WQ p l e rm_X8_forceOf s m [.ref (a 0), .int p1, .int p2] below meth c G A (mw G.2.1 a R S) (some (.int r0)) 0 0 H locs 0 0 (F0 m 5 ls [])) ?_ FU ((-1), 0) hf _ _ _ hw (lv_sub hl [2, 3, 4, 1, 0] rfl)
  clear hf hw hl
  intro ⟨v_1, v_2⟩ t0_5 hf hz1_0_5 hz2_0_5 H locs ls hw hl
  rw [f_X8_forceOf_L5] at hf
  refine lv_iload hx hb dX8_forceOf_5 (lv_at hl 4 rfl) ?_
  refine lv_iload_n hx hb dX8_forceOf_7 rfl (lv_at hl 2 rfl) ?_
  refine lv_icmp_ge (tgt := 52) hx hb dX8_forceOf_8 (by decide) (fun c_3 => ?_) (fun c_3 => ?_)
  · replace hf := if_t c_3 hf
    refine lv_iload_n hx hb dX8_forceOf_52 rfl (lv_at hl 3 rfl) ?_
    have e_4 := Option.some.inj hf
    have e_5 := hz2_0_5 _ e_4.symm
    subst e_5
    exact wd_iret hx hb hr hlocks hw dX8_forceOf_53
  · replace hf := if_f c_3 hf
    refine lv_aload_n hx hb dX8_forceOf_11 rfl (lv_at hl 0 rfl) ?_
    refine va_get (D := G.1) (ci := 8) (v := .ref (a 3)) (C := RX8) (T := TX8) (N := 45) hx hb hts hin8 hown hG.1 hw.1 0 rfl rfl 11 (by decide) (hts (.fieldLink RX8 21 "DutyDeskModel" "firstDay" "[I") (List.mem_of_getElem? (i := 1) rfl)) (fun _ h9 => h9) rfl dX8_forceOf_12 ?_
    refine lv_iload hx hb dX8_forceOf_15 (lv_at hl 4 rfl) ?_
    obtain ⟨h_6, hf⟩ := gd_of hf
    refine va_iald hx hb hG.1 hw.1 3 1 (mw_atI (k := 3) rfl) rfl h_6 dX8_forceOf_17 ?_
    refine lv_iload_n hx hb dX8_forceOf_18 rfl (lv_at hl 1 rfl) ?_
    refine lv_icmp_gt (tgt := 46) hx hb dX8_forceOf_19 (by decide) (fun c_7 => ?_) (fun c_7 => ?_)
    · replace hf := if_t c_7 hf
      obtain ⟨x_8, ex_8⟩ : ∃ z : Int32, z = v_2 + 1 := ⟨_, rfl⟩
      replace hf := bnd_of ex_8 hf
      refine lv_iinc (v := x_8) (lv' := [(4, .int x_8), (0, .ref (a 0)), (1, .int p1), (2, .int p2), (3, .int v_1)]) hx hb dX8_forceOf_46 hl (k := 4) rfl (by rw [ex_8]; rfl) (by decide) rfl (fun ls hl => ?_)
      refine lv_goto (tgt := 5) hx hb dX8_forceOf_49 (by decide) ?_
      have e_9 := Option.some.inj hf
      exact hz1_0_5 _ e_9.symm _ _ _ hw (lv_sub hl [1, 2, 3, 4, 0] rfl)
    · replace hf := if_f c_7 hf
      refine lv_iload_n hx hb dX8_forceOf_22 rfl (lv_at hl 3 rfl) ?_
      refine lv_iconst (v := (-1)) hx hb dX8_forceOf_23 (by decide) ?_
      refine lv_icmp_eq (tgt := 43) hx hb dX8_forceOf_24 (by decide) (fun c_10 => ?_) (fun c_10 => ?_)
      · replace hf := if_t c_10 hf
        refine lv_iload hx hb dX8_forceOf_43 (lv_at hl 4 rfl) ?_
        refine lv_istore_n (lv' := [(3, .int v_2), (0, .ref (a 0)), (1, .int p1), (2, .int p2), (4, .int v_2)]) hx hb dX8_forceOf_45 rfl hl (by decide) rfl (fun ls hl => ?_)
        obtain ⟨x_11, ex_11⟩ : ∃ z : Int32, z = v_2 + 1 := ⟨_, rfl⟩
        replace hf := bnd_of ex_11 hf
        refine lv_iinc (v := x_11) (lv' := [(4, .int x_11), (3, .int v_2), (0, .ref (a 0)), (1, .int p1), (2, .int p2)]) hx hb dX8_forceOf_46 hl (k := 4) rfl (by rw [ex_11]; rfl) (by decide) rfl (fun ls hl => ?_)
        refine lv_goto (tgt := 5) hx hb dX8_forceOf_49 (by decide) ?_
        have e_12 := Option.some.inj hf
        exact hz1_0_5 _ e_12.symm _ _ _ hw (lv_sub hl [2, 3, 4, 1, 0] rfl)
      · replace hf := if_f c_10 hf
        refine lv_aload_n hx hb dX8_forceOf_27 rfl (lv_at hl 0 rfl) ?_
        refine va_get (D := G.1) (ci := 8) (v := .ref (a 3)) (C := RX8) (T := TX8) (N := 45) hx hb hts hin8 hown hG.1 hw.1 0 rfl rfl 11 (by decide) (hts (.fieldLink RX8 21 "DutyDeskModel" "firstDay" "[I") (List.mem_of_getElem? (i := 1) rfl)) (fun _ h9 => h9) rfl dX8_forceOf_28 ?_
        refine lv_iload hx hb dX8_forceOf_31 (lv_at hl 4 rfl) ?_
        obtain ⟨h_13, hf⟩ := gd_of hf
        refine va_iald hx hb hG.1 hw.1 3 1 (mw_atI (k := 3) rfl) rfl h_13 dX8_forceOf_33 ?_
        refine lv_aload_n hx hb dX8_forceOf_34 rfl (lv_at hl 0 rfl) ?_
        refine va_get (D := G.1) (ci := 8) (v := .ref (a 3)) (C := RX8) (T := TX8) (N := 45) hx hb hts hin8 hown hG.1 hw.1 0 rfl rfl 11 (by decide) (hts (.fieldLink RX8 21 "DutyDeskModel" "firstDay" "[I") (List.mem_of_getElem? (i := 1) rfl)) (fun _ h9 => h9) rfl dX8_forceOf_35 ?_
        refine lv_iload_n hx hb dX8_forceOf_38 rfl (lv_at hl 3 rfl) ?_
        obtain ⟨h_14, hf⟩ := gd_of hf
        refine va_iald hx hb hG.1 hw.1 3 1 (mw_atI (k := 3) rfl) rfl h_14 dX8_forceOf_39 ?_
        refine lv_icmp_lt (tgt := 46) hx hb dX8_forceOf_40 (by decide) (fun c_15 => ?_) (fun c_15 => ?_)
        · replace hf := if_t c_15 hf
          obtain ⟨x_16, ex_16⟩ : ∃ z : Int32, z = v_2 + 1 := ⟨_, rfl⟩
          replace hf := bnd_of ex_16 hf
          refine lv_iinc (v := x_16) (lv' := [(4, .int x_16), (0, .ref (a 0)), (1, .int p1), (2, .int p2), (3, .int v_1)]) hx hb dX8_forceOf_46 hl (k := 4) rfl (by rw [ex_16]; rfl) (by decide) rfl (fun ls hl => ?_)
          refine lv_goto (tgt := 5) hx hb dX8_forceOf_49 (by decide) ?_
          have e_17 := Option.some.inj hf
          exact hz1_0_5 _ e_17.symm _ _ _ hw (lv_sub hl [1, 2, 3, 4, 0] rfl)
        · replace hf := if_f c_15 hf
          refine lv_iload hx hb dX8_forceOf_43 (lv_at hl 4 rfl) ?_
          refine lv_istore_n (lv' := [(3, .int v_2), (0, .ref (a 0)), (1, .int p1), (2, .int p2), (4, .int v_2)]) hx hb dX8_forceOf_45 rfl hl (by decide) rfl (fun ls hl => ?_)
          obtain ⟨x_18, ex_18⟩ : ∃ z : Int32, z = v_2 + 1 := ⟨_, rfl⟩
          replace hf := bnd_of ex_18 hf
          refine lv_iinc (v := x_18) (lv' := [(4, .int x_18), (3, .int v_2), (0, .ref (a 0)), (1, .int p1), (2, .int p2)]) hx hb dX8_forceOf_46 hl (k := 4) rfl (by rw [ex_18]; rfl) (by decide) rfl (fun ls hl => ?_)
          refine lv_goto (tgt := 5) hx hb dX8_forceOf_49 (by decide) ?_
          have e_19 := Option.some.inj hf
          exact hz1_0_5 _ e_19.symm _ _ _ hw (lv_sub hl [2, 3, 4, 1, 0] rfl)
/-! DutyDeskModel.inForce(II)I -/
def rm_X8_inForce : Room := { frames := 2, cells := 0, slots := 0, locals := 42 }
def f_X8_inForce (S : St) (p1 : Int32) (p2 : Int32) : Option (Int32) :=
  (f_X8_isDay p1).bind (fun r_2 => (if r_2 = 0 then
    some ((-2))
  else
    (f_X8_in p2 0 (gI S 9)).bind (fun r_6 => (if r_6 = 0 then
    some ((-2))
  else
    (f_X8_forceOf S p1 p2).bind (fun r_10 => some (r_10))))))
set_option maxHeartbeats 4000000 in
set_option maxRecDepth 100000 in
theorem c_X8_inForce (G : GP) (l : Launch) (a : Nat → Nat) (R : va_W) (S : St) (p1 : Int32) (p2 : Int32) (r0 : Int32) (hf : f_X8_inForce S p1 p2 = some r0) : MC G l yX8_inForce wsX8_inForce rm_X8_inForce [.ref (a 0), .int p1, .int p2] (mw G.2.1 a R S) (mw G.2.1 a R S) (some (.int r0)) 0 0 := by
  refine MC.mk (cc := cX8_inForce) (maxL := 3) (ret := (some .int)) (by decide) rfl (Nat.le_of_ble_eq_true rfl) ?_
  intro p e s m below meth c A ls ⟨hx, hb, hr, hml, hown, hlocks, _, hts⟩ hw hG hA hl
  have hl : lv_has ls 3 [(0, .ref (a 0)), (1, .int p1), (2, .int p2)] := hl
  have hin8 : ∀ w ∈ u_ws RX8 TX8 45, w ∈ wsX8_inForce := by decide +kernel
  rw [f_X8_inForce] at hf
  refine lv_iload_n hx hb dX8_inForce_0 rfl (lv_at hl 1 rfl) ?_
  obtain ⟨r_2, h_1, hf⟩ := bind_of hf
  refine cS (As := [.int p1]) (rest := []) ⟨hx, hb, hml, hown, hts⟩ hG hA hw (c_X8_isDay G l _ p1 r_2 h_1) (va_cwS 1 hts gX8_inForce_X8_isDay rfl rfl rfl (by decide +kernel) ⟨Nat.le_of_ble_eq_true rfl, Nat.le_of_ble_eq_true rfl⟩) rfl hl.1 rfl (Nat.le_of_ble_eq_true rfl) dX8_inForce_1 ⟨Nat.zero_le _, Nat.zero_le _⟩ (fun H locs hw => ?_)
  refine lv_if_eq (tgt := 28) hx hb dX8_inForce_4 (by decide) (fun c_3 => ?_) (fun c_3 => ?_)
  · replace hf := if_t c_3 hf
    refine lv_bipush (v := (-2)) hx hb dX8_inForce_28 (by decide) ?_
    have e_4 := Option.some.inj hf
    subst e_4
    exact wd_iret hx hb hr hlocks hw dX8_inForce_30
  · replace hf := if_f c_3 hf
    refine lv_iload_n hx hb dX8_inForce_7 rfl (lv_at hl 2 rfl) ?_
    refine lv_iconst (v := 0) hx hb dX8_inForce_8 (by decide) ?_
    refine lv_aload_n hx hb dX8_inForce_9 rfl (lv_at hl 0 rfl) ?_
    refine va_get (D := G.1) (ci := 8) (v := .int (gI S 9)) (C := RX8) (T := TX8) (N := 45) hx hb hts hin8 hown hG.1 hw.1 0 rfl rfl 12 (by decide) (hts (.fieldLink RX8 180 "DutyDeskModel" "editions" "I") (List.mem_of_getElem? (i := 1) rfl)) (fun _ h9 => h9) rfl dX8_inForce_10 ?_
    obtain ⟨r_6, h_5, hf⟩ := bind_of hf
    refine cS (As := [.int p2, .int 0, .int (gI S 9)]) (rest := []) ⟨hx, hb, hml, hown, hts⟩ hG hA hw (c_X8_in G l _ p2 0 (gI S 9) r_6 h_5) (va_cwS 3 hts gX8_inForce_X8_in rfl rfl rfl (by decide +kernel) ⟨Nat.le_of_ble_eq_true rfl, Nat.le_of_ble_eq_true rfl⟩) rfl hl.1 rfl (Nat.le_of_ble_eq_true rfl) dX8_inForce_13 ⟨Nat.zero_le _, Nat.zero_le _⟩ (fun H locs hw => ?_)
    refine lv_if_eq (tgt := 28) hx hb dX8_inForce_16 (by decide) (fun c_7 => ?_) (fun c_7 => ?_)
    · replace hf := if_t c_7 hf
      refine lv_bipush (v := (-2)) hx hb dX8_inForce_28 (by decide) ?_
      have e_8 := Option.some.inj hf
      subst e_8
      exact wd_iret hx hb hr hlocks hw dX8_inForce_30
    · replace hf := if_f c_7 hf
      refine lv_aload_n hx hb dX8_inForce_19 rfl (lv_at hl 0 rfl) ?_
      refine lv_iload_n hx hb dX8_inForce_20 rfl (lv_at hl 1 rfl) ?_
      refine lv_iload_n hx hb dX8_inForce_21 rfl (lv_at hl 2 rfl) ?_
      obtain ⟨r_10, h_9, hf⟩ := bind_of hf
      refine cV (As := [.int p1, .int p2]) (rest := []) ⟨hx, hb, hml, hown, hts⟩ hG hA hw (c_X8_forceOf G l a R S p1 p2 r_10 h_9) (cwV 2 hts gX8_inForce_X8_forceOf rfl rfl rfl (by decide +kernel) ⟨Nat.le_of_ble_eq_true rfl, Nat.le_of_ble_eq_true rfl⟩) (va_recv hG.1 hw.1 (ci := 8) (q0 := 0) rfl rfl) rfl hl.1 rfl (Nat.le_of_ble_eq_true rfl) dX8_inForce_22 ⟨Nat.zero_le _, Nat.zero_le _⟩ (fun H locs hw => ?_)
      refine lv_goto (tgt := 30) hx hb dX8_inForce_25 (by decide) ?_
      have e_11 := Option.some.inj hf
      subst e_11
      exact wd_iret hx hb hr hlocks hw dX8_inForce_30
/-! DutyDeskModel.ruleOf(II)I -/
def rm_X8_ruleOf : Room := { frames := 1, cells := 0, slots := 0, locals := 20 }
def f_X8_ruleOf (S : St) (p1 : Int32) (p2 : Int32) : Option (Int32) :=
  (if p1 = (-1) then
    (f_X8_plain p2).bind (fun r_5 => some (r_5))
  else
    gd ((11 * p1) + p2) 242 (some ((gM S 2 ((11 * p1) + p2).toNatClampNeg))))
set_option maxHeartbeats 4000000 in
set_option maxRecDepth 100000 in
theorem c_X8_ruleOf (G : GP) (l : Launch) (a : Nat → Nat) (R : va_W) (S : St) (p1 : Int32) (p2 : Int32) (r0 : Int32) (hf : f_X8_ruleOf S p1 p2 = some r0) : MC G l yX8_ruleOf wsX8_ruleOf rm_X8_ruleOf [.ref (a 0), .int p1, .int p2] (mw G.2.1 a R S) (mw G.2.1 a R S) (some (.int r0)) 0 0 := by
  refine MC.mk (cc := cX8_ruleOf) (maxL := 3) (ret := (some .int)) (by decide) rfl (Nat.le_of_ble_eq_true rfl) ?_
  intro p e s m below meth c A ls ⟨hx, hb, hr, hml, hown, hlocks, _, hts⟩ hw hG hA hl
  have hl : lv_has ls 3 [(0, .ref (a 0)), (1, .int p1), (2, .int p2)] := hl
  have hin8 : ∀ w ∈ u_ws RX8 TX8 45, w ∈ wsX8_ruleOf := by decide +kernel
  rw [f_X8_ruleOf] at hf
  refine lv_iload_n hx hb dX8_ruleOf_0 rfl (lv_at hl 1 rfl) ?_
  refine lv_iconst (v := (-1)) hx hb dX8_ruleOf_1 (by decide) ?_
  refine lv_icmp_ne (tgt := 12) hx hb dX8_ruleOf_2 (by decide) (fun c_1 => ?_) (fun c_1 => ?_)
  · replace hf := if_f c_1 hf
    refine lv_aload_n hx hb dX8_ruleOf_12 rfl (lv_at hl 0 rfl) ?_
    refine va_get (D := G.1) (ci := 8) (v := .ref (a 2)) (C := RX8) (T := TX8) (N := 45) hx hb hts hin8 hown hG.1 hw.1 0 rfl rfl 10 (by decide) (hts (.fieldLink RX8 17 "DutyDeskModel" "rules" "[I") (List.mem_of_getElem? (i := 1) rfl)) (fun _ h9 => h9) rfl dX8_ruleOf_13 ?_
    refine lv_bipush (v := 11) hx hb dX8_ruleOf_16 (by decide) ?_
    refine lv_iload_n hx hb dX8_ruleOf_18 rfl (lv_at hl 1 rfl) ?_
    refine lv_imul hx hb dX8_ruleOf_19 ?_
    refine lv_iload_n hx hb dX8_ruleOf_20 rfl (lv_at hl 2 rfl) ?_
    refine lv_iadd hx hb dX8_ruleOf_21 ?_
    obtain ⟨h_2, hf⟩ := gd_of hf
    refine va_iald hx hb hG.1 hw.1 2 1 (mw_atI (k := 2) rfl) rfl h_2 dX8_ruleOf_22 ?_
    have e_3 := Option.some.inj hf
    subst e_3
    exact wd_iret hx hb hr hlocks hw dX8_ruleOf_23
  · replace hf := if_t c_1 hf
    refine lv_iload_n hx hb dX8_ruleOf_5 rfl (lv_at hl 2 rfl) ?_
    obtain ⟨r_5, h_4, hf⟩ := bind_of hf
    refine cS (As := [.int p2]) (rest := []) ⟨hx, hb, hml, hown, hts⟩ hG hA hw (c_X8_plain G l _ p2 r_5 h_4) (va_cwS 1 hts gX8_ruleOf_X8_plain rfl rfl rfl (by decide +kernel) ⟨Nat.le_of_ble_eq_true rfl, Nat.le_of_ble_eq_true rfl⟩) rfl hl.1 rfl (Nat.le_of_ble_eq_true rfl) dX8_ruleOf_6 ⟨Nat.zero_le _, Nat.zero_le _⟩ (fun H locs hw => ?_)
    refine lv_goto (tgt := 23) hx hb dX8_ruleOf_9 (by decide) ?_
    have e_6 := Option.some.inj hf
    subst e_6
    exact wd_iret hx hb hr hlocks hw dX8_ruleOf_23
/-! DutyDeskModel.rule(II)I -/
def rm_X8_rule : Room := { frames := 2, cells := 0, slots := 0, locals := 42 }
def f_X8_rule (S : St) (p1 : Int32) (p2 : Int32) : Option (Int32) :=
  (f_X8_in p1 (-1) ((gI S 9) - 1)).bind (fun r_2 => (if r_2 = 0 then
    some ((-9))
  else
    (f_X8_in p2 0 11).bind (fun r_6 => (if r_6 = 0 then
    some ((-9))
  else
    (if p2 = 11 then
    (if p1 = (-1) then
    some ((-1))
  else
    gd p1 21 (some ((gM S 3 p1.toNatClampNeg))))
  else
    (f_X8_ruleOf S p1 p2).bind (fun r_10 => some (r_10)))))))
set_option maxHeartbeats 4000000 in
set_option maxRecDepth 100000 in
theorem c_X8_rule (G : GP) (l : Launch) (a : Nat → Nat) (R : va_W) (S : St) (p1 : Int32) (p2 : Int32) (r0 : Int32) (hf : f_X8_rule S p1 p2 = some r0) : MC G l yX8_rule wsX8_rule rm_X8_rule [.ref (a 0), .int p1, .int p2] (mw G.2.1 a R S) (mw G.2.1 a R S) (some (.int r0)) 0 0 := by
  refine MC.mk (cc := cX8_rule) (maxL := 3) (ret := (some .int)) (by decide) rfl (Nat.le_of_ble_eq_true rfl) ?_
  intro p e s m below meth c A ls ⟨hx, hb, hr, hml, hown, hlocks, _, hts⟩ hw hG hA hl
  have hl : lv_has ls 3 [(0, .ref (a 0)), (1, .int p1), (2, .int p2)] := hl
  have hin8 : ∀ w ∈ u_ws RX8 TX8 45, w ∈ wsX8_rule := by decide +kernel
  rw [f_X8_rule] at hf
  refine lv_iload_n hx hb dX8_rule_0 rfl (lv_at hl 1 rfl) ?_
  refine lv_iconst (v := (-1)) hx hb dX8_rule_1 (by decide) ?_
  refine lv_aload_n hx hb dX8_rule_2 rfl (lv_at hl 0 rfl) ?_
  refine va_get (D := G.1) (ci := 8) (v := .int (gI S 9)) (C := RX8) (T := TX8) (N := 45) hx hb hts hin8 hown hG.1 hw.1 0 rfl rfl 12 (by decide) (hts (.fieldLink RX8 180 "DutyDeskModel" "editions" "I") (List.mem_of_getElem? (i := 1) rfl)) (fun _ h9 => h9) rfl dX8_rule_3 ?_
  refine lv_iconst (v := 1) hx hb dX8_rule_6 (by decide) ?_
  refine lv_isub hx hb dX8_rule_7 ?_
  obtain ⟨r_2, h_1, hf⟩ := bind_of hf
  refine cS (As := [.int p1, .int (-1), .int ((gI S 9) - 1)]) (rest := []) ⟨hx, hb, hml, hown, hts⟩ hG hA hw (c_X8_in G l _ p1 (-1) ((gI S 9) - 1) r_2 h_1) (va_cwS 3 hts gX8_rule_X8_in rfl rfl rfl (by decide +kernel) ⟨Nat.le_of_ble_eq_true rfl, Nat.le_of_ble_eq_true rfl⟩) rfl hl.1 rfl (Nat.le_of_ble_eq_true rfl) dX8_rule_8 ⟨Nat.zero_le _, Nat.zero_le _⟩ (fun H locs hw => ?_)
  refine lv_if_eq (tgt := 24) hx hb dX8_rule_11 (by decide) (fun c_3 => ?_) (fun c_3 => ?_)
  · replace hf := if_t c_3 hf
    refine lv_bipush (v := (-9)) hx hb dX8_rule_24 (by decide) ?_
    have e_4 := Option.some.inj hf
    subst e_4
    exact wd_iret hx hb hr hlocks hw dX8_rule_26
  · replace hf := if_f c_3 hf
    refine lv_iload_n hx hb dX8_rule_14 rfl (lv_at hl 2 rfl) ?_
    refine lv_iconst (v := 0) hx hb dX8_rule_15 (by decide) ?_
    refine lv_bipush (v := 11) hx hb dX8_rule_16 (by decide) ?_
    obtain ⟨r_6, h_5, hf⟩ := bind_of hf
    refine cS (As := [.int p2, .int 0, .int 11]) (rest := []) ⟨hx, hb, hml, hown, hts⟩ hG hA hw (c_X8_in G l _ p2 0 11 r_6 h_5) (va_cwS 3 hts gX8_rule_X8_in rfl rfl rfl (by decide +kernel) ⟨Nat.le_of_ble_eq_true rfl, Nat.le_of_ble_eq_true rfl⟩) rfl hl.1 rfl (Nat.le_of_ble_eq_true rfl) dX8_rule_18 ⟨Nat.zero_le _, Nat.zero_le _⟩ (fun H locs hw => ?_)
    refine lv_if_ne (tgt := 27) hx hb dX8_rule_21 (by decide) (fun c_7 => ?_) (fun c_7 => ?_)
    · replace hf := if_f c_7 hf
      refine lv_iload_n hx hb dX8_rule_27 rfl (lv_at hl 2 rfl) ?_
      refine lv_bipush (v := 11) hx hb dX8_rule_28 (by decide) ?_
      refine lv_icmp_ne (tgt := 49) hx hb dX8_rule_30 (by decide) (fun c_8 => ?_) (fun c_8 => ?_)
      · replace hf := if_f c_8 hf
        refine lv_aload_n hx hb dX8_rule_49 rfl (lv_at hl 0 rfl) ?_
        refine lv_iload_n hx hb dX8_rule_50 rfl (lv_at hl 1 rfl) ?_
        refine lv_iload_n hx hb dX8_rule_51 rfl (lv_at hl 2 rfl) ?_
        obtain ⟨r_10, h_9, hf⟩ := bind_of hf
        refine cV (As := [.int p1, .int p2]) (rest := []) ⟨hx, hb, hml, hown, hts⟩ hG hA hw (c_X8_ruleOf G l a R S p1 p2 r_10 h_9) (cwV 2 hts gX8_rule_X8_ruleOf rfl rfl rfl (by decide +kernel) ⟨Nat.le_of_ble_eq_true rfl, Nat.le_of_ble_eq_true rfl⟩) (va_recv hG.1 hw.1 (ci := 8) (q0 := 0) rfl rfl) rfl hl.1 rfl (Nat.le_of_ble_eq_true rfl) dX8_rule_52 ⟨Nat.zero_le _, Nat.zero_le _⟩ (fun H locs hw => ?_)
        have e_11 := Option.some.inj hf
        subst e_11
        exact wd_iret hx hb hr hlocks hw dX8_rule_55
      · replace hf := if_t c_8 hf
        refine lv_iload_n hx hb dX8_rule_33 rfl (lv_at hl 1 rfl) ?_
        refine lv_iconst (v := (-1)) hx hb dX8_rule_34 (by decide) ?_
        refine lv_icmp_ne (tgt := 42) hx hb dX8_rule_35 (by decide) (fun c_12 => ?_) (fun c_12 => ?_)
        · replace hf := if_f c_12 hf
          refine lv_aload_n hx hb dX8_rule_42 rfl (lv_at hl 0 rfl) ?_
          refine va_get (D := G.1) (ci := 8) (v := .ref (a 3)) (C := RX8) (T := TX8) (N := 45) hx hb hts hin8 hown hG.1 hw.1 0 rfl rfl 11 (by decide) (hts (.fieldLink RX8 21 "DutyDeskModel" "firstDay" "[I") (List.mem_of_getElem? (i := 2) rfl)) (fun _ h9 => h9) rfl dX8_rule_43 ?_
          refine lv_iload_n hx hb dX8_rule_46 rfl (lv_at hl 1 rfl) ?_
          obtain ⟨h_13, hf⟩ := gd_of hf
          refine va_iald hx hb hG.1 hw.1 3 1 (mw_atI (k := 3) rfl) rfl h_13 dX8_rule_47 ?_
          have e_14 := Option.some.inj hf
          subst e_14
          exact wd_iret hx hb hr hlocks hw dX8_rule_48
        · replace hf := if_t c_12 hf
          refine lv_iconst (v := (-1)) hx hb dX8_rule_38 (by decide) ?_
          refine lv_goto (tgt := 48) hx hb dX8_rule_39 (by decide) ?_
          have e_15 := Option.some.inj hf
          subst e_15
          exact wd_iret hx hb hr hlocks hw dX8_rule_48
    · replace hf := if_t c_7 hf
      refine lv_bipush (v := (-9)) hx hb dX8_rule_24 (by decide) ?_
      have e_16 := Option.some.inj hf
      subst e_16
      exact wd_iret hx hb hr hlocks hw dX8_rule_26
/-! DutyDeskModel.now(II)I -/
def rm_X8_now : Room := { frames := 2, cells := 0, slots := 0, locals := 42 }
def f_X8_now (S : St) (p1 : Int32) (p2 : Int32) : Option (Int32) :=
  (f_X8_forceOf S p1 (gI S 9)).bind (fun r_2 => (f_X8_ruleOf S r_2 p2).bind (fun r_4 => some (r_4)))
set_option maxHeartbeats 4000000 in
set_option maxRecDepth 100000 in
theorem c_X8_now (G : GP) (l : Launch) (a : Nat → Nat) (R : va_W) (S : St) (p1 : Int32) (p2 : Int32) (r0 : Int32) (hf : f_X8_now S p1 p2 = some r0) : MC G l yX8_now wsX8_now rm_X8_now [.ref (a 0), .int p1, .int p2] (mw G.2.1 a R S) (mw G.2.1 a R S) (some (.int r0)) 0 0 := by
  refine MC.mk (cc := cX8_now) (maxL := 3) (ret := (some .int)) (by decide) rfl (Nat.le_of_ble_eq_true rfl) ?_
  intro p e s m below meth c A ls ⟨hx, hb, hr, hml, hown, hlocks, _, hts⟩ hw hG hA hl
  have hl : lv_has ls 3 [(0, .ref (a 0)), (1, .int p1), (2, .int p2)] := hl
  have hin8 : ∀ w ∈ u_ws RX8 TX8 45, w ∈ wsX8_now := by decide +kernel
  rw [f_X8_now] at hf
  refine lv_aload_n hx hb dX8_now_0 rfl (lv_at hl 0 rfl) ?_
  refine lv_aload_n hx hb dX8_now_1 rfl (lv_at hl 0 rfl) ?_
  refine lv_iload_n hx hb dX8_now_2 rfl (lv_at hl 1 rfl) ?_
  refine lv_aload_n hx hb dX8_now_3 rfl (lv_at hl 0 rfl) ?_
  refine va_get (D := G.1) (ci := 8) (v := .int (gI S 9)) (C := RX8) (T := TX8) (N := 45) hx hb hts hin8 hown hG.1 hw.1 0 rfl rfl 12 (by decide) (hts (.fieldLink RX8 180 "DutyDeskModel" "editions" "I") (List.mem_of_getElem? (i := 1) rfl)) (fun _ h9 => h9) rfl dX8_now_4 ?_
  obtain ⟨r_2, h_1, hf⟩ := bind_of hf
  refine cV (As := [.int p1, .int (gI S 9)]) (rest := [.ref (a 0)]) ⟨hx, hb, hml, hown, hts⟩ hG hA hw (c_X8_forceOf G l a R S p1 (gI S 9) r_2 h_1) (cwV 2 hts gX8_now_X8_forceOf rfl rfl rfl (by decide +kernel) ⟨Nat.le_of_ble_eq_true rfl, Nat.le_of_ble_eq_true rfl⟩) (va_recv hG.1 hw.1 (ci := 8) (q0 := 0) rfl rfl) rfl hl.1 rfl (Nat.le_of_ble_eq_true rfl) dX8_now_7 ⟨Nat.zero_le _, Nat.zero_le _⟩ (fun H locs hw => ?_)
  refine lv_iload_n hx hb dX8_now_10 rfl (lv_at hl 2 rfl) ?_
  obtain ⟨r_4, h_3, hf⟩ := bind_of hf
  refine cV (As := [.int r_2, .int p2]) (rest := []) ⟨hx, hb, hml, hown, hts⟩ hG hA hw (c_X8_ruleOf G l a R S r_2 p2 r_4 h_3) (cwV 2 hts gX8_now_X8_ruleOf rfl rfl rfl (by decide +kernel) ⟨Nat.le_of_ble_eq_true rfl, Nat.le_of_ble_eq_true rfl⟩) (va_recv hG.1 hw.1 (ci := 8) (q0 := 0) rfl rfl) rfl hl.1 rfl (Nat.le_of_ble_eq_true rfl) dX8_now_11 ⟨Nat.zero_le _, Nat.zero_le _⟩ (fun H locs hw => ?_)
  have e_5 := Option.some.inj hf
  subst e_5
  exact wd_iret hx hb hr hlocks hw dX8_now_14
/-! DutyDeskModel.isLawyer(I)Z -/
def rm_X8_isLawyer : Room := { frames := 1, cells := 0, slots := 0, locals := 22 }
def f_X8_isLawyer (S : St) (p1 : Int32) : Option (Int32) :=
  (f_X8_in p1 0 ((gI S 10) - 1)).bind (fun r_2 => gz r_2 (some (r_2)))
set_option maxHeartbeats 4000000 in
set_option maxRecDepth 100000 in
theorem c_X8_isLawyer (G : GP) (l : Launch) (a : Nat → Nat) (R : va_W) (S : St) (p1 : Int32) (r0 : Int32) (hf : f_X8_isLawyer S p1 = some r0) : MC G l yX8_isLawyer wsX8_isLawyer rm_X8_isLawyer [.ref (a 0), .int p1] (mw G.2.1 a R S) (mw G.2.1 a R S) (some (.int r0)) 0 0 := by
  refine MC.mk (cc := cX8_isLawyer) (maxL := 2) (ret := (some .boolean)) (by decide) rfl (Nat.le_of_ble_eq_true rfl) ?_
  intro p e s m below meth c A ls ⟨hx, hb, hr, hml, hown, hlocks, _, hts⟩ hw hG hA hl
  have hl : lv_has ls 2 [(0, .ref (a 0)), (1, .int p1)] := hl
  have hin8 : ∀ w ∈ u_ws RX8 TX8 45, w ∈ wsX8_isLawyer := by decide +kernel
  rw [f_X8_isLawyer] at hf
  refine lv_iload_n hx hb dX8_isLawyer_0 rfl (lv_at hl 1 rfl) ?_
  refine lv_iconst (v := 0) hx hb dX8_isLawyer_1 (by decide) ?_
  refine lv_aload_n hx hb dX8_isLawyer_2 rfl (lv_at hl 0 rfl) ?_
  refine va_get (D := G.1) (ci := 8) (v := .int (gI S 10)) (C := RX8) (T := TX8) (N := 45) hx hb hts hin8 hown hG.1 hw.1 0 rfl rfl 14 (by decide) (hts (.fieldLink RX8 189 "DutyDeskModel" "lawyers" "I") (List.mem_of_getElem? (i := 1) rfl)) (fun _ h9 => h9) rfl dX8_isLawyer_3 ?_
  refine lv_iconst (v := 1) hx hb dX8_isLawyer_6 (by decide) ?_
  refine lv_isub hx hb dX8_isLawyer_7 ?_
  obtain ⟨r_2, h_1, hf⟩ := bind_of hf
  refine cS (As := [.int p1, .int 0, .int ((gI S 10) - 1)]) (rest := []) ⟨hx, hb, hml, hown, hts⟩ hG hA hw (c_X8_in G l _ p1 0 ((gI S 10) - 1) r_2 h_1) (va_cwS 3 hts gX8_isLawyer_X8_in rfl rfl rfl (by decide +kernel) ⟨Nat.le_of_ble_eq_true rfl, Nat.le_of_ble_eq_true rfl⟩) rfl hl.1 rfl (Nat.le_of_ble_eq_true rfl) dX8_isLawyer_8 ⟨Nat.zero_le _, Nat.zero_le _⟩ (fun H locs hw => ?_)
  obtain ⟨h_3, hf⟩ := gz_of hf
  have e_4 := Option.some.inj hf
  subst e_4
  exact wd_zret hx hb hr h_3 hlocks hw dX8_isLawyer_11
/-! DutyDeskModel.enter(III)I -/
def rm_X8_enter : Room := { frames := 1, cells := 0, slots := 0, locals := 22 }
def f_X8_enter (S : St) (p1 : Int32) (p2 : Int32) (p3 : Int32) : Option (Int32 × St) :=
  (f_X8_in p1 0 9).bind (fun r_2 => (if r_2 = 0 then
    some (((-2), S))
  else
    (f_X8_in p2 0 63).bind (fun r_6 => (if r_6 = 0 then
    some (((-2), S))
  else
    (f_X8_in p3 0 255).bind (fun r_10 => (if r_10 = 0 then
    some (((-2), S))
  else
    (if (gI S 10) = 24 then
    some (((-3), S))
  else
    gd (gI S 10) 24 (bnd (sM S 5 ((gI S 10).toNatClampNeg) p1) fun S_14 => gd (gI S_14 10) 24 (bnd (sM S_14 6 ((gI S_14 10).toNatClampNeg) p2) fun S_16 => gd (gI S_16 10) 24 (bnd (sM S_16 7 ((gI S_16 10).toNatClampNeg) p3) fun S_18 => gd (gI S_18 10) 24 (bnd (sM S_18 8 ((gI S_18 10).toNatClampNeg) (-1)) fun S_20 => bnd (sI S_20 10 ((gI S_20 10) + 1)) fun S_21 => some (((gI S_21 10) - 1, S_21)))))))))))))
set_option maxHeartbeats 4000000 in
set_option maxRecDepth 100000 in
theorem c_X8_enter (G : GP) (l : Launch) (a : Nat → Nat) (R : va_W) (S : St) (p1 : Int32) (p2 : Int32) (p3 : Int32) (r0 : Int32) (S9 : St) (hf : f_X8_enter S p1 p2 p3 = some (r0, S9)) : MC G l yX8_enter wsX8_enter rm_X8_enter [.ref (a 0), .int p1, .int p2, .int p3] (mw G.2.1 a R S) (mw G.2.1 a R S9) (some (.int r0)) 0 0 := by
  refine MC.mk (cc := cX8_enter) (maxL := 4) (ret := (some .int)) (by decide) rfl (Nat.le_of_ble_eq_true rfl) ?_
  intro p e s m below meth c A ls ⟨hx, hb, hr, hml, hown, hlocks, _, hts⟩ hw hG hA hl
  have hl : lv_has ls 4 [(0, .ref (a 0)), (1, .int p1), (2, .int p2), (3, .int p3)] := hl
  have hin8 : ∀ w ∈ u_ws RX8 TX8 45, w ∈ wsX8_enter := by decide +kernel
  rw [f_X8_enter] at hf
  refine lv_iload_n hx hb dX8_enter_0 rfl (lv_at hl 1 rfl) ?_
  refine lv_iconst (v := 0) hx hb dX8_enter_1 (by decide) ?_
  refine lv_bipush (v := 9) hx hb dX8_enter_2 (by decide) ?_
  obtain ⟨r_2, h_1, hf⟩ := bind_of hf
  refine cS (As := [.int p1, .int 0, .int 9]) (rest := []) ⟨hx, hb, hml, hown, hts⟩ hG hA hw (c_X8_in G l _ p1 0 9 r_2 h_1) (va_cwS 3 hts gX8_enter_X8_in rfl rfl rfl (by decide +kernel) ⟨Nat.le_of_ble_eq_true rfl, Nat.le_of_ble_eq_true rfl⟩) rfl hl.1 rfl (Nat.le_of_ble_eq_true rfl) dX8_enter_4 ⟨Nat.zero_le _, Nat.zero_le _⟩ (fun H locs hw => ?_)
  refine lv_if_eq (tgt := 31) hx hb dX8_enter_7 (by decide) (fun c_3 => ?_) (fun c_3 => ?_)
  · replace hf := if_t c_3 hf
    refine lv_bipush (v := (-2)) hx hb dX8_enter_31 (by decide) ?_
    have e_4 := Option.some.inj hf
    obtain ⟨rfl, rfl⟩ := Prod.mk.inj e_4
    exact wd_iret hx hb hr hlocks hw dX8_enter_33
  · replace hf := if_f c_3 hf
    refine lv_iload_n hx hb dX8_enter_10 rfl (lv_at hl 2 rfl) ?_
    refine lv_iconst (v := 0) hx hb dX8_enter_11 (by decide) ?_
    refine lv_bipush (v := 63) hx hb dX8_enter_12 (by decide) ?_
    obtain ⟨r_6, h_5, hf⟩ := bind_of hf
    refine cS (As := [.int p2, .int 0, .int 63]) (rest := []) ⟨hx, hb, hml, hown, hts⟩ hG hA hw (c_X8_in G l _ p2 0 63 r_6 h_5) (va_cwS 3 hts gX8_enter_X8_in rfl rfl rfl (by decide +kernel) ⟨Nat.le_of_ble_eq_true rfl, Nat.le_of_ble_eq_true rfl⟩) rfl hl.1 rfl (Nat.le_of_ble_eq_true rfl) dX8_enter_14 ⟨Nat.zero_le _, Nat.zero_le _⟩ (fun H locs hw => ?_)
    refine lv_if_eq (tgt := 31) hx hb dX8_enter_17 (by decide) (fun c_7 => ?_) (fun c_7 => ?_)
    · replace hf := if_t c_7 hf
      refine lv_bipush (v := (-2)) hx hb dX8_enter_31 (by decide) ?_
      have e_8 := Option.some.inj hf
      obtain ⟨rfl, rfl⟩ := Prod.mk.inj e_8
      exact wd_iret hx hb hr hlocks hw dX8_enter_33
    · replace hf := if_f c_7 hf
      refine lv_iload_n hx hb dX8_enter_20 rfl (lv_at hl 3 rfl) ?_
      refine lv_iconst (v := 0) hx hb dX8_enter_21 (by decide) ?_
      refine lv_sipush (v := 255) hx hb dX8_enter_22 (by decide) ?_
      obtain ⟨r_10, h_9, hf⟩ := bind_of hf
      refine cS (As := [.int p3, .int 0, .int 255]) (rest := []) ⟨hx, hb, hml, hown, hts⟩ hG hA hw (c_X8_in G l _ p3 0 255 r_10 h_9) (va_cwS 3 hts gX8_enter_X8_in rfl rfl rfl (by decide +kernel) ⟨Nat.le_of_ble_eq_true rfl, Nat.le_of_ble_eq_true rfl⟩) rfl hl.1 rfl (Nat.le_of_ble_eq_true rfl) dX8_enter_25 ⟨Nat.zero_le _, Nat.zero_le _⟩ (fun H locs hw => ?_)
      refine lv_if_ne (tgt := 34) hx hb dX8_enter_28 (by decide) (fun c_11 => ?_) (fun c_11 => ?_)
      · replace hf := if_f c_11 hf
        refine lv_aload_n hx hb dX8_enter_34 rfl (lv_at hl 0 rfl) ?_
        refine va_get (D := G.1) (ci := 8) (v := .int (gI S 10)) (C := RX8) (T := TX8) (N := 45) hx hb hts hin8 hown hG.1 hw.1 0 rfl rfl 14 (by decide) (hts (.fieldLink RX8 189 "DutyDeskModel" "lawyers" "I") (List.mem_of_getElem? (i := 1) rfl)) (fun _ h9 => h9) rfl dX8_enter_35 ?_
        refine lv_bipush (v := 24) hx hb dX8_enter_38 (by decide) ?_
        refine lv_icmp_ne (tgt := 46) hx hb dX8_enter_40 (by decide) (fun c_12 => ?_) (fun c_12 => ?_)
        · replace hf := if_f c_12 hf
          refine lv_aload_n hx hb dX8_enter_46 rfl (lv_at hl 0 rfl) ?_
          refine va_get (D := G.1) (ci := 8) (v := .ref (a 5)) (C := RX8) (T := TX8) (N := 45) hx hb hts hin8 hown hG.1 hw.1 0 rfl rfl 15 (by decide) (hts (.fieldLink RX8 28 "DutyDeskModel" "town" "[I") (List.mem_of_getElem? (i := 2) rfl)) (fun _ h9 => h9) rfl dX8_enter_47 ?_
          refine lv_aload_n hx hb dX8_enter_50 rfl (lv_at hl 0 rfl) ?_
          refine va_get (D := G.1) (ci := 8) (v := .int (gI S 10)) (C := RX8) (T := TX8) (N := 45) hx hb hts hin8 hown hG.1 hw.1 0 rfl rfl 14 (by decide) (hts (.fieldLink RX8 189 "DutyDeskModel" "lawyers" "I") (List.mem_of_getElem? (i := 1) rfl)) (fun _ h9 => h9) rfl dX8_enter_51 ?_
          refine lv_iload_n hx hb dX8_enter_54 rfl (lv_at hl 1 rfl) ?_
          obtain ⟨h_13, hf⟩ := gd_of hf
          refine va_iast hx hb hG.1 hw.1 hw.2.1 hw.2.2 5 1 (mw_atI (k := 5) rfl) rfl h_13 dX8_enter_55 (fun H locs hP hD hS => ?_)
          obtain ⟨S_14, eS_14⟩ : ∃ z : St, z = sM S 5 ((gI S 10).toNatClampNeg) p1 := ⟨_, rfl⟩
          replace hf := bnd_of eS_14 hf
          have hw : Wd G A s H locs (mw G.2.1 a R S_14) := wd_eq (by rw [eS_14]; exact mw_upI (k := 5) rfl _) hP hD hS
          refine lv_aload_n hx hb dX8_enter_56 rfl (lv_at hl 0 rfl) ?_
          refine va_get (D := G.1) (ci := 8) (v := .ref (a 6)) (C := RX8) (T := TX8) (N := 45) hx hb hts hin8 hown hG.1 hw.1 0 rfl rfl 16 (by decide) (hts (.fieldLink RX8 31 "DutyDeskModel" "panels" "[I") (List.mem_of_getElem? (i := 3) rfl)) (fun _ h9 => h9) rfl dX8_enter_57 ?_
          refine lv_aload_n hx hb dX8_enter_60 rfl (lv_at hl 0 rfl) ?_
          refine va_get (D := G.1) (ci := 8) (v := .int (gI S_14 10)) (C := RX8) (T := TX8) (N := 45) hx hb hts hin8 hown hG.1 hw.1 0 rfl rfl 14 (by decide) (hts (.fieldLink RX8 189 "DutyDeskModel" "lawyers" "I") (List.mem_of_getElem? (i := 1) rfl)) (fun _ h9 => h9) rfl dX8_enter_61 ?_
          refine lv_iload_n hx hb dX8_enter_64 rfl (lv_at hl 2 rfl) ?_
          obtain ⟨h_15, hf⟩ := gd_of hf
          refine va_iast hx hb hG.1 hw.1 hw.2.1 hw.2.2 6 1 (mw_atI (k := 6) rfl) rfl h_15 dX8_enter_65 (fun H locs hP hD hS => ?_)
          obtain ⟨S_16, eS_16⟩ : ∃ z : St, z = sM S_14 6 ((gI S_14 10).toNatClampNeg) p2 := ⟨_, rfl⟩
          replace hf := bnd_of eS_16 hf
          have hw : Wd G A s H locs (mw G.2.1 a R S_16) := wd_eq (by rw [eS_16]; exact mw_upI (k := 6) rfl _) hP hD hS
          refine lv_aload_n hx hb dX8_enter_66 rfl (lv_at hl 0 rfl) ?_
          refine va_get (D := G.1) (ci := 8) (v := .ref (a 7)) (C := RX8) (T := TX8) (N := 45) hx hb hts hin8 hown hG.1 hw.1 0 rfl rfl 17 (by decide) (hts (.fieldLink RX8 34 "DutyDeskModel" "tongues" "[I") (List.mem_of_getElem? (i := 4) rfl)) (fun _ h9 => h9) rfl dX8_enter_67 ?_
          refine lv_aload_n hx hb dX8_enter_70 rfl (lv_at hl 0 rfl) ?_
          refine va_get (D := G.1) (ci := 8) (v := .int (gI S_16 10)) (C := RX8) (T := TX8) (N := 45) hx hb hts hin8 hown hG.1 hw.1 0 rfl rfl 14 (by decide) (hts (.fieldLink RX8 189 "DutyDeskModel" "lawyers" "I") (List.mem_of_getElem? (i := 1) rfl)) (fun _ h9 => h9) rfl dX8_enter_71 ?_
          refine lv_iload_n hx hb dX8_enter_74 rfl (lv_at hl 3 rfl) ?_
          obtain ⟨h_17, hf⟩ := gd_of hf
          refine va_iast hx hb hG.1 hw.1 hw.2.1 hw.2.2 7 1 (mw_atI (k := 7) rfl) rfl h_17 dX8_enter_75 (fun H locs hP hD hS => ?_)
          obtain ⟨S_18, eS_18⟩ : ∃ z : St, z = sM S_16 7 ((gI S_16 10).toNatClampNeg) p3 := ⟨_, rfl⟩
          replace hf := bnd_of eS_18 hf
          have hw : Wd G A s H locs (mw G.2.1 a R S_18) := wd_eq (by rw [eS_18]; exact mw_upI (k := 7) rfl _) hP hD hS
          refine lv_aload_n hx hb dX8_enter_76 rfl (lv_at hl 0 rfl) ?_
          refine va_get (D := G.1) (ci := 8) (v := .ref (a 8)) (C := RX8) (T := TX8) (N := 45) hx hb hts hin8 hown hG.1 hw.1 0 rfl rfl 18 (by decide) (hts (.fieldLink RX8 37 "DutyDeskModel" "struck" "[I") (List.mem_of_getElem? (i := 5) rfl)) (fun _ h9 => h9) rfl dX8_enter_77 ?_
          refine lv_aload_n hx hb dX8_enter_80 rfl (lv_at hl 0 rfl) ?_
          refine va_get (D := G.1) (ci := 8) (v := .int (gI S_18 10)) (C := RX8) (T := TX8) (N := 45) hx hb hts hin8 hown hG.1 hw.1 0 rfl rfl 14 (by decide) (hts (.fieldLink RX8 189 "DutyDeskModel" "lawyers" "I") (List.mem_of_getElem? (i := 1) rfl)) (fun _ h9 => h9) rfl dX8_enter_81 ?_
          refine lv_iconst (v := (-1)) hx hb dX8_enter_84 (by decide) ?_
          obtain ⟨h_19, hf⟩ := gd_of hf
          refine va_iast hx hb hG.1 hw.1 hw.2.1 hw.2.2 8 1 (mw_atI (k := 8) rfl) rfl h_19 dX8_enter_85 (fun H locs hP hD hS => ?_)
          obtain ⟨S_20, eS_20⟩ : ∃ z : St, z = sM S_18 8 ((gI S_18 10).toNatClampNeg) (-1) := ⟨_, rfl⟩
          replace hf := bnd_of eS_20 hf
          have hw : Wd G A s H locs (mw G.2.1 a R S_20) := wd_eq (by rw [eS_20]; exact mw_upI (k := 8) rfl _) hP hD hS
          refine lv_aload_n hx hb dX8_enter_86 rfl (lv_at hl 0 rfl) ?_
          refine lv_dup hx hb dX8_enter_87 rfl ?_
          refine va_get (D := G.1) (ci := 8) (v := .int (gI S_20 10)) (C := RX8) (T := TX8) (N := 45) hx hb hts hin8 hown hG.1 hw.1 0 rfl rfl 14 (by decide) (hts (.fieldLink RX8 189 "DutyDeskModel" "lawyers" "I") (List.mem_of_getElem? (i := 1) rfl)) (fun _ h9 => h9) rfl dX8_enter_88 ?_
          refine lv_iconst (v := 1) hx hb dX8_enter_91 (by decide) ?_
          refine lv_iadd hx hb dX8_enter_92 ?_
          refine va_put (D := G.1) (ci := 8) (v := .int ((gI S_20 10) + 1)) (ty := .int) (C := RX8) (T := TX8) (N := 45) hx hb hts hin8 tyX8 tyX8_ok nmX8 hown hG.1 hw.1 hw.2.1 hw.2.2 0 rfl rfl 14 (by decide) (hts (.fieldLink RX8 189 "DutyDeskModel" "lawyers" "I") (List.mem_of_getElem? (i := 1) rfl)) (fun _ h9 => h9) rfl (by decide +kernel) rfl rfl (Nat.le_of_ble_eq_true rfl) dX8_enter_93 (fun H locs hP hD hS => ?_)
          obtain ⟨S_21, eS_21⟩ : ∃ z : St, z = sI S_20 10 ((gI S_20 10) + 1) := ⟨_, rfl⟩
          replace hf := bnd_of eS_21 hf
          have hw : Wd G A s H locs (mw G.2.1 a R S_21) := wd_eq (by rw [eS_21]; exact mw_upI10 _) hP hD hS
          refine lv_aload_n hx hb dX8_enter_96 rfl (lv_at hl 0 rfl) ?_
          refine va_get (D := G.1) (ci := 8) (v := .int (gI S_21 10)) (C := RX8) (T := TX8) (N := 45) hx hb hts hin8 hown hG.1 hw.1 0 rfl rfl 14 (by decide) (hts (.fieldLink RX8 189 "DutyDeskModel" "lawyers" "I") (List.mem_of_getElem? (i := 1) rfl)) (fun _ h9 => h9) rfl dX8_enter_97 ?_
          refine lv_iconst (v := 1) hx hb dX8_enter_100 (by decide) ?_
          refine lv_isub hx hb dX8_enter_101 ?_
          have e_22 := Option.some.inj hf
          obtain ⟨rfl, rfl⟩ := Prod.mk.inj e_22
          exact wd_iret hx hb hr hlocks hw dX8_enter_102
        · replace hf := if_t c_12 hf
          refine lv_bipush (v := (-3)) hx hb dX8_enter_43 (by decide) ?_
          have e_23 := Option.some.inj hf
          obtain ⟨rfl, rfl⟩ := Prod.mk.inj e_23
          exact wd_iret hx hb hr hlocks hw dX8_enter_45
      · replace hf := if_t c_11 hf
        refine lv_bipush (v := (-2)) hx hb dX8_enter_31 (by decide) ?_
        have e_24 := Option.some.inj hf
        obtain ⟨rfl, rfl⟩ := Prod.mk.inj e_24
        exact wd_iret hx hb hr hlocks hw dX8_enter_33
/-! DutyDeskModel.away(IIZ)I -/
def rm_X8_away : Room := { frames := 2, cells := 0, slots := 0, locals := 43 }
def f_X8_away (S : St) (p1 : Int32) (p2 : Int32) (p3 : Int32) : Option (Int32 × St) :=
  (f_X8_isLawyer S p1).bind (fun r_2 => (if r_2 = 0 then
    some (((-2), S))
  else
    (f_X8_isDay p2).bind (fun r_6 => (if r_6 = 0 then
    some (((-2), S))
  else
    gd ((1000 * p1) + p2) 24000 (bnd (gM S 9 ((1000 * p1) + p2).toNatClampNeg) fun x_9 => gd ((1000 * p1) + p2) 24000 (bnd (sM S 9 (((1000 * p1) + p2).toNatClampNeg) (vp_nar .boolean p3)) fun S_11 => (if x_9 = p3 then
    some ((0, S_11))
  else
    some ((1, S_11)))))))))
set_option maxHeartbeats 4000000 in
set_option maxRecDepth 100000 in
theorem c_X8_away (G : GP) (l : Launch) (a : Nat → Nat) (R : va_W) (S : St) (p1 : Int32) (p2 : Int32) (p3 : Int32) (r0 : Int32) (S9 : St) (hf : f_X8_away S p1 p2 p3 = some (r0, S9)) : MC G l yX8_away wsX8_away rm_X8_away [.ref (a 0), .int p1, .int p2, .int p3] (mw G.2.1 a R S) (mw G.2.1 a R S9) (some (.int r0)) 0 0 := by
  refine MC.mk (cc := cX8_away) (maxL := 5) (ret := (some .int)) (by decide) rfl (Nat.le_of_ble_eq_true rfl) ?_
  intro p e s m below meth c A ls ⟨hx, hb, hr, hml, hown, hlocks, _, hts⟩ hw hG hA hl
  have hl : lv_has ls 5 [(0, .ref (a 0)), (1, .int p1), (2, .int p2), (3, .int p3)] := hl
  have hin8 : ∀ w ∈ u_ws RX8 TX8 45, w ∈ wsX8_away := by decide +kernel
  rw [f_X8_away] at hf
  refine lv_aload_n hx hb dX8_away_0 rfl (lv_at hl 0 rfl) ?_
  refine lv_iload_n hx hb dX8_away_1 rfl (lv_at hl 1 rfl) ?_
  obtain ⟨r_2, h_1, hf⟩ := bind_of hf
  refine cV (As := [.int p1]) (rest := []) ⟨hx, hb, hml, hown, hts⟩ hG hA hw (c_X8_isLawyer G l a R S p1 r_2 h_1) (cwV 1 hts gX8_away_X8_isLawyer rfl rfl rfl (by decide +kernel) ⟨Nat.le_of_ble_eq_true rfl, Nat.le_of_ble_eq_true rfl⟩) (va_recv hG.1 hw.1 (ci := 8) (q0 := 0) rfl rfl) rfl hl.1 rfl (Nat.le_of_ble_eq_true rfl) dX8_away_2 ⟨Nat.zero_le _, Nat.zero_le _⟩ (fun H locs hw => ?_)
  refine lv_if_eq (tgt := 15) hx hb dX8_away_5 (by decide) (fun c_3 => ?_) (fun c_3 => ?_)
  · replace hf := if_t c_3 hf
    refine lv_bipush (v := (-2)) hx hb dX8_away_15 (by decide) ?_
    have e_4 := Option.some.inj hf
    obtain ⟨rfl, rfl⟩ := Prod.mk.inj e_4
    exact wd_iret hx hb hr hlocks hw dX8_away_17
  · replace hf := if_f c_3 hf
    refine lv_iload_n hx hb dX8_away_8 rfl (lv_at hl 2 rfl) ?_
    obtain ⟨r_6, h_5, hf⟩ := bind_of hf
    refine cS (As := [.int p2]) (rest := []) ⟨hx, hb, hml, hown, hts⟩ hG hA hw (c_X8_isDay G l _ p2 r_6 h_5) (va_cwS 1 hts gX8_away_X8_isDay rfl rfl rfl (by decide +kernel) ⟨Nat.le_of_ble_eq_true rfl, Nat.le_of_ble_eq_true rfl⟩) rfl hl.1 rfl (Nat.le_of_ble_eq_true rfl) dX8_away_9 ⟨Nat.zero_le _, Nat.zero_le _⟩ (fun H locs hw => ?_)
    refine lv_if_ne (tgt := 18) hx hb dX8_away_12 (by decide) (fun c_7 => ?_) (fun c_7 => ?_)
    · replace hf := if_f c_7 hf
      refine lv_aload_n hx hb dX8_away_18 rfl (lv_at hl 0 rfl) ?_
      refine va_get (D := G.1) (ci := 8) (v := .ref (a 9)) (C := RX8) (T := TX8) (N := 45) hx hb hts hin8 hown hG.1 hw.1 0 rfl rfl 19 (by decide) (hts (.fieldLink RX8 40 "DutyDeskModel" "isAway" "[Z") (List.mem_of_getElem? (i := 1) rfl)) (fun _ h9 => h9) rfl dX8_away_19 ?_
      refine lv_sipush (v := 1000) hx hb dX8_away_22 (by decide) ?_
      refine lv_iload_n hx hb dX8_away_25 rfl (lv_at hl 1 rfl) ?_
      refine lv_imul hx hb dX8_away_26 ?_
      refine lv_iload_n hx hb dX8_away_27 rfl (lv_at hl 2 rfl) ?_
      refine lv_iadd hx hb dX8_away_28 ?_
      obtain ⟨h_8, hf⟩ := gd_of hf
      refine va_zald hx hb hG.1 hw.1 9 3 (mw_atZ (k := 9) rfl) rfl h_8 dX8_away_29 ?_
      refine lv_topi (fun x_9 ex_9 => ?_)
      replace hf := bnd_of ex_9 hf
      refine lv_istore (lv' := [(4, .int x_9), (0, .ref (a 0)), (1, .int p1), (2, .int p2), (3, .int p3)]) hx hb dX8_away_30 hl (by decide) rfl (fun ls hl => ?_)
      refine lv_aload_n hx hb dX8_away_32 rfl (lv_at hl 1 rfl) ?_
      refine va_get (D := G.1) (ci := 8) (v := .ref (a 9)) (C := RX8) (T := TX8) (N := 45) hx hb hts hin8 hown hG.1 hw.1 0 rfl rfl 19 (by decide) (hts (.fieldLink RX8 40 "DutyDeskModel" "isAway" "[Z") (List.mem_of_getElem? (i := 1) rfl)) (fun _ h9 => h9) rfl dX8_away_33 ?_
      refine lv_sipush (v := 1000) hx hb dX8_away_36 (by decide) ?_
      refine lv_iload_n hx hb dX8_away_39 rfl (lv_at hl 2 rfl) ?_
      refine lv_imul hx hb dX8_away_40 ?_
      refine lv_iload_n hx hb dX8_away_41 rfl (lv_at hl 3 rfl) ?_
      refine lv_iadd hx hb dX8_away_42 ?_
      refine lv_iload_n hx hb dX8_away_43 rfl (lv_at hl 4 rfl) ?_
      obtain ⟨h_10, hf⟩ := gd_of hf
      refine va_zast hx hb hG.1 hw.1 hw.2.1 hw.2.2 9 3 (mw_atZ (k := 9) rfl) rfl h_10 dX8_away_44 (fun H locs hP hD hS => ?_)
      obtain ⟨S_11, eS_11⟩ : ∃ z : St, z = sM S 9 (((1000 * p1) + p2).toNatClampNeg) (vp_nar .boolean p3) := ⟨_, rfl⟩
      replace hf := bnd_of eS_11 hf
      have hw : Wd G A s H locs (mw G.2.1 a R S_11) := wd_eq (by rw [eS_11]; exact mw_upZ (k := 9) rfl _) hP hD hS
      refine lv_iload hx hb dX8_away_45 (lv_at hl 0 rfl) ?_
      refine lv_iload_n hx hb dX8_away_47 rfl (lv_at hl 4 rfl) ?_
      refine lv_icmp_eq (tgt := 55) hx hb dX8_away_48 (by decide) (fun c_12 => ?_) (fun c_12 => ?_)
      · replace hf := if_t c_12 hf
        refine lv_iconst (v := 0) hx hb dX8_away_55 (by decide) ?_
        have e_13 := Option.some.inj hf
        obtain ⟨rfl, rfl⟩ := Prod.mk.inj e_13
        exact wd_iret hx hb hr hlocks hw dX8_away_56
      · replace hf := if_f c_12 hf
        refine lv_iconst (v := 1) hx hb dX8_away_51 (by decide) ?_
        refine lv_goto (tgt := 56) hx hb dX8_away_52 (by decide) ?_
        have e_14 := Option.some.inj hf
        obtain ⟨rfl, rfl⟩ := Prod.mk.inj e_14
        exact wd_iret hx hb hr hlocks hw dX8_away_56
    · replace hf := if_t c_7 hf
      refine lv_bipush (v := (-2)) hx hb dX8_away_15 (by decide) ?_
      have e_15 := Option.some.inj hf
      obtain ⟨rfl, rfl⟩ := Prod.mk.inj e_15
      exact wd_iret hx hb hr hlocks hw dX8_away_17
/-! DutyDeskModel.isStruck(II)Z -/
def rm_X8_isStruck : Room := { frames := 0, cells := 0, slots := 0, locals := 0 }
def f_X8_isStruck (S : St) (p1 : Int32) (p2 : Int32) : Option (Int32) :=
  gd p1 24 ((if (gM S 8 p1.toNatClampNeg) = (-1) then
    some (0)
  else
    gd p1 24 ((if p2 < (gM S 8 p1.toNatClampNeg) then
    some (0)
  else
    some (1)))))
set_option maxHeartbeats 4000000 in
set_option maxRecDepth 100000 in
theorem c_X8_isStruck (G : GP) (l : Launch) (a : Nat → Nat) (R : va_W) (S : St) (p1 : Int32) (p2 : Int32) (r0 : Int32) (hf : f_X8_isStruck S p1 p2 = some r0) : MC G l yX8_isStruck wsX8_isStruck rm_X8_isStruck [.ref (a 0), .int p1, .int p2] (mw G.2.1 a R S) (mw G.2.1 a R S) (some (.int r0)) 0 0 := by
  refine MC.mk (cc := cX8_isStruck) (maxL := 3) (ret := (some .boolean)) (by decide) rfl (Nat.le_of_ble_eq_true rfl) ?_
  intro p e s m below meth c A ls ⟨hx, hb, hr, hml, hown, hlocks, _, hts⟩ hw hG hA hl
  have hl : lv_has ls 3 [(0, .ref (a 0)), (1, .int p1), (2, .int p2)] := hl
  have hin8 : ∀ w ∈ u_ws RX8 TX8 45, w ∈ wsX8_isStruck := by decide +kernel
  rw [f_X8_isStruck] at hf
  refine lv_aload_n hx hb dX8_isStruck_0 rfl (lv_at hl 0 rfl) ?_
  refine va_get (D := G.1) (ci := 8) (v := .ref (a 8)) (C := RX8) (T := TX8) (N := 45) hx hb hts hin8 hown hG.1 hw.1 0 rfl rfl 18 (by decide) (hts (.fieldLink RX8 37 "DutyDeskModel" "struck" "[I") (List.mem_of_getElem? (i := 1) rfl)) (fun _ h9 => h9) rfl dX8_isStruck_1 ?_
  refine lv_iload_n hx hb dX8_isStruck_4 rfl (lv_at hl 1 rfl) ?_
  obtain ⟨h_1, hf⟩ := gd_of hf
  refine va_iald hx hb hG.1 hw.1 8 1 (mw_atI (k := 8) rfl) rfl h_1 dX8_isStruck_5 ?_
  refine lv_iconst (v := (-1)) hx hb dX8_isStruck_6 (by decide) ?_
  refine lv_icmp_eq (tgt := 24) hx hb dX8_isStruck_7 (by decide) (fun c_2 => ?_) (fun c_2 => ?_)
  · replace hf := if_t c_2 hf
    refine lv_iconst (v := 0) hx hb dX8_isStruck_24 (by decide) ?_
    have e_3 := Option.some.inj hf
    subst e_3
    exact wd_zret hx hb hr rfl hlocks hw dX8_isStruck_25
  · replace hf := if_f c_2 hf
    refine lv_iload_n hx hb dX8_isStruck_10 rfl (lv_at hl 2 rfl) ?_
    refine lv_aload_n hx hb dX8_isStruck_11 rfl (lv_at hl 0 rfl) ?_
    refine va_get (D := G.1) (ci := 8) (v := .ref (a 8)) (C := RX8) (T := TX8) (N := 45) hx hb hts hin8 hown hG.1 hw.1 0 rfl rfl 18 (by decide) (hts (.fieldLink RX8 37 "DutyDeskModel" "struck" "[I") (List.mem_of_getElem? (i := 1) rfl)) (fun _ h9 => h9) rfl dX8_isStruck_12 ?_
    refine lv_iload_n hx hb dX8_isStruck_15 rfl (lv_at hl 1 rfl) ?_
    obtain ⟨h_4, hf⟩ := gd_of hf
    refine va_iald hx hb hG.1 hw.1 8 1 (mw_atI (k := 8) rfl) rfl h_4 dX8_isStruck_16 ?_
    refine lv_icmp_lt (tgt := 24) hx hb dX8_isStruck_17 (by decide) (fun c_5 => ?_) (fun c_5 => ?_)
    · replace hf := if_t c_5 hf
      refine lv_iconst (v := 0) hx hb dX8_isStruck_24 (by decide) ?_
      have e_6 := Option.some.inj hf
      subst e_6
      exact wd_zret hx hb hr rfl hlocks hw dX8_isStruck_25
    · replace hf := if_f c_5 hf
      refine lv_iconst (v := 1) hx hb dX8_isStruck_20 (by decide) ?_
      refine lv_goto (tgt := 25) hx hb dX8_isStruck_21 (by decide) ?_
      have e_7 := Option.some.inj hf
      subst e_7
      exact wd_zret hx hb hr rfl hlocks hw dX8_isStruck_25
/-! DutyDeskModel.travel(III)I -/
def rm_X8_travel : Room := { frames := 1, cells := 0, slots := 0, locals := 22 }
def f_X8_travel (S : St) (p1 : Int32) (p2 : Int32) (p3 : Int32) : Option (Int32 × St) :=
  (f_X8_in p1 0 9).bind (fun r_2 => (if r_2 = 0 then
    some (((-2), S))
  else
    (f_X8_in p2 0 9).bind (fun r_6 => (if r_6 = 0 then
    some (((-2), S))
  else
    (if p1 = p2 then
    some (((-2), S))
  else
    (f_X8_in p3 (-1) 600).bind (fun r_12 => (if r_12 = 0 then
    some (((-2), S))
  else
    gd ((10 * p1) + p2) 100 (bnd (gM S 10 ((10 * p1) + p2).toNatClampNeg) fun x_15 => gd ((10 * p1) + p2) 100 (bnd (sM S 10 (((10 * p1) + p2).toNatClampNeg) p3) fun S_17 => gd ((10 * p2) + p1) 100 (bnd (sM S_17 10 (((10 * p2) + p1).toNatClampNeg) p3) fun S_19 => some ((x_15, S_19))))))))))))
set_option maxHeartbeats 4000000 in
set_option maxRecDepth 100000 in
theorem c_X8_travel (G : GP) (l : Launch) (a : Nat → Nat) (R : va_W) (S : St) (p1 : Int32) (p2 : Int32) (p3 : Int32) (r0 : Int32) (S9 : St) (hf : f_X8_travel S p1 p2 p3 = some (r0, S9)) : MC G l yX8_travel wsX8_travel rm_X8_travel [.ref (a 0), .int p1, .int p2, .int p3] (mw G.2.1 a R S) (mw G.2.1 a R S9) (some (.int r0)) 0 0 := by
  refine MC.mk (cc := cX8_travel) (maxL := 5) (ret := (some .int)) (by decide) rfl (Nat.le_of_ble_eq_true rfl) ?_
  intro p e s m below meth c A ls ⟨hx, hb, hr, hml, hown, hlocks, _, hts⟩ hw hG hA hl
  have hl : lv_has ls 5 [(0, .ref (a 0)), (1, .int p1), (2, .int p2), (3, .int p3)] := hl
  have hin8 : ∀ w ∈ u_ws RX8 TX8 45, w ∈ wsX8_travel := by decide +kernel
  rw [f_X8_travel] at hf
  refine lv_iload_n hx hb dX8_travel_0 rfl (lv_at hl 1 rfl) ?_
  refine lv_iconst (v := 0) hx hb dX8_travel_1 (by decide) ?_
  refine lv_bipush (v := 9) hx hb dX8_travel_2 (by decide) ?_
  obtain ⟨r_2, h_1, hf⟩ := bind_of hf
  refine cS (As := [.int p1, .int 0, .int 9]) (rest := []) ⟨hx, hb, hml, hown, hts⟩ hG hA hw (c_X8_in G l _ p1 0 9 r_2 h_1) (va_cwS 3 hts gX8_travel_X8_in rfl rfl rfl (by decide +kernel) ⟨Nat.le_of_ble_eq_true rfl, Nat.le_of_ble_eq_true rfl⟩) rfl hl.1 rfl (Nat.le_of_ble_eq_true rfl) dX8_travel_4 ⟨Nat.zero_le _, Nat.zero_le _⟩ (fun H locs hw => ?_)
  refine lv_if_eq (tgt := 36) hx hb dX8_travel_7 (by decide) (fun c_3 => ?_) (fun c_3 => ?_)
  · replace hf := if_t c_3 hf
    refine lv_bipush (v := (-2)) hx hb dX8_travel_36 (by decide) ?_
    have e_4 := Option.some.inj hf
    obtain ⟨rfl, rfl⟩ := Prod.mk.inj e_4
    exact wd_iret hx hb hr hlocks hw dX8_travel_38
  · replace hf := if_f c_3 hf
    refine lv_iload_n hx hb dX8_travel_10 rfl (lv_at hl 2 rfl) ?_
    refine lv_iconst (v := 0) hx hb dX8_travel_11 (by decide) ?_
    refine lv_bipush (v := 9) hx hb dX8_travel_12 (by decide) ?_
    obtain ⟨r_6, h_5, hf⟩ := bind_of hf
    refine cS (As := [.int p2, .int 0, .int 9]) (rest := []) ⟨hx, hb, hml, hown, hts⟩ hG hA hw (c_X8_in G l _ p2 0 9 r_6 h_5) (va_cwS 3 hts gX8_travel_X8_in rfl rfl rfl (by decide +kernel) ⟨Nat.le_of_ble_eq_true rfl, Nat.le_of_ble_eq_true rfl⟩) rfl hl.1 rfl (Nat.le_of_ble_eq_true rfl) dX8_travel_14 ⟨Nat.zero_le _, Nat.zero_le _⟩ (fun H locs hw => ?_)
    refine lv_if_eq (tgt := 36) hx hb dX8_travel_17 (by decide) (fun c_7 => ?_) (fun c_7 => ?_)
    · replace hf := if_t c_7 hf
      refine lv_bipush (v := (-2)) hx hb dX8_travel_36 (by decide) ?_
      have e_8 := Option.some.inj hf
      obtain ⟨rfl, rfl⟩ := Prod.mk.inj e_8
      exact wd_iret hx hb hr hlocks hw dX8_travel_38
    · replace hf := if_f c_7 hf
      refine lv_iload_n hx hb dX8_travel_20 rfl (lv_at hl 1 rfl) ?_
      refine lv_iload_n hx hb dX8_travel_21 rfl (lv_at hl 2 rfl) ?_
      refine lv_icmp_eq (tgt := 36) hx hb dX8_travel_22 (by decide) (fun c_9 => ?_) (fun c_9 => ?_)
      · replace hf := if_t c_9 hf
        refine lv_bipush (v := (-2)) hx hb dX8_travel_36 (by decide) ?_
        have e_10 := Option.some.inj hf
        obtain ⟨rfl, rfl⟩ := Prod.mk.inj e_10
        exact wd_iret hx hb hr hlocks hw dX8_travel_38
      · replace hf := if_f c_9 hf
        refine lv_iload_n hx hb dX8_travel_25 rfl (lv_at hl 3 rfl) ?_
        refine lv_iconst (v := (-1)) hx hb dX8_travel_26 (by decide) ?_
        refine lv_sipush (v := 600) hx hb dX8_travel_27 (by decide) ?_
        obtain ⟨r_12, h_11, hf⟩ := bind_of hf
        refine cS (As := [.int p3, .int (-1), .int 600]) (rest := []) ⟨hx, hb, hml, hown, hts⟩ hG hA hw (c_X8_in G l _ p3 (-1) 600 r_12 h_11) (va_cwS 3 hts gX8_travel_X8_in rfl rfl rfl (by decide +kernel) ⟨Nat.le_of_ble_eq_true rfl, Nat.le_of_ble_eq_true rfl⟩) rfl hl.1 rfl (Nat.le_of_ble_eq_true rfl) dX8_travel_30 ⟨Nat.zero_le _, Nat.zero_le _⟩ (fun H locs hw => ?_)
        refine lv_if_ne (tgt := 39) hx hb dX8_travel_33 (by decide) (fun c_13 => ?_) (fun c_13 => ?_)
        · replace hf := if_f c_13 hf
          refine lv_aload_n hx hb dX8_travel_39 rfl (lv_at hl 0 rfl) ?_
          refine va_get (D := G.1) (ci := 8) (v := .ref (a 10)) (C := RX8) (T := TX8) (N := 45) hx hb hts hin8 hown hG.1 hw.1 0 rfl rfl 20 (by decide) (hts (.fieldLink RX8 43 "DutyDeskModel" "travel" "[I") (List.mem_of_getElem? (i := 1) rfl)) (fun _ h9 => h9) rfl dX8_travel_40 ?_
          refine lv_bipush (v := 10) hx hb dX8_travel_43 (by decide) ?_
          refine lv_iload_n hx hb dX8_travel_45 rfl (lv_at hl 1 rfl) ?_
          refine lv_imul hx hb dX8_travel_46 ?_
          refine lv_iload_n hx hb dX8_travel_47 rfl (lv_at hl 2 rfl) ?_
          refine lv_iadd hx hb dX8_travel_48 ?_
          obtain ⟨h_14, hf⟩ := gd_of hf
          refine va_iald hx hb hG.1 hw.1 10 1 (mw_atI (k := 10) rfl) rfl h_14 dX8_travel_49 ?_
          refine lv_topi (fun x_15 ex_15 => ?_)
          replace hf := bnd_of ex_15 hf
          refine lv_istore (lv' := [(4, .int x_15), (0, .ref (a 0)), (1, .int p1), (2, .int p2), (3, .int p3)]) hx hb dX8_travel_50 hl (by decide) rfl (fun ls hl => ?_)
          refine lv_aload_n hx hb dX8_travel_52 rfl (lv_at hl 1 rfl) ?_
          refine va_get (D := G.1) (ci := 8) (v := .ref (a 10)) (C := RX8) (T := TX8) (N := 45) hx hb hts hin8 hown hG.1 hw.1 0 rfl rfl 20 (by decide) (hts (.fieldLink RX8 43 "DutyDeskModel" "travel" "[I") (List.mem_of_getElem? (i := 1) rfl)) (fun _ h9 => h9) rfl dX8_travel_53 ?_
          refine lv_bipush (v := 10) hx hb dX8_travel_56 (by decide) ?_
          refine lv_iload_n hx hb dX8_travel_58 rfl (lv_at hl 2 rfl) ?_
          refine lv_imul hx hb dX8_travel_59 ?_
          refine lv_iload_n hx hb dX8_travel_60 rfl (lv_at hl 3 rfl) ?_
          refine lv_iadd hx hb dX8_travel_61 ?_
          refine lv_iload_n hx hb dX8_travel_62 rfl (lv_at hl 4 rfl) ?_
          obtain ⟨h_16, hf⟩ := gd_of hf
          refine va_iast hx hb hG.1 hw.1 hw.2.1 hw.2.2 10 1 (mw_atI (k := 10) rfl) rfl h_16 dX8_travel_63 (fun H locs hP hD hS => ?_)
          obtain ⟨S_17, eS_17⟩ : ∃ z : St, z = sM S 10 (((10 * p1) + p2).toNatClampNeg) p3 := ⟨_, rfl⟩
          replace hf := bnd_of eS_17 hf
          have hw : Wd G A s H locs (mw G.2.1 a R S_17) := wd_eq (by rw [eS_17]; exact mw_upI (k := 10) rfl _) hP hD hS
          refine lv_aload_n hx hb dX8_travel_64 rfl (lv_at hl 1 rfl) ?_
          refine va_get (D := G.1) (ci := 8) (v := .ref (a 10)) (C := RX8) (T := TX8) (N := 45) hx hb hts hin8 hown hG.1 hw.1 0 rfl rfl 20 (by decide) (hts (.fieldLink RX8 43 "DutyDeskModel" "travel" "[I") (List.mem_of_getElem? (i := 1) rfl)) (fun _ h9 => h9) rfl dX8_travel_65 ?_
          refine lv_bipush (v := 10) hx hb dX8_travel_68 (by decide) ?_
          refine lv_iload_n hx hb dX8_travel_70 rfl (lv_at hl 3 rfl) ?_
          refine lv_imul hx hb dX8_travel_71 ?_
          refine lv_iload_n hx hb dX8_travel_72 rfl (lv_at hl 2 rfl) ?_
          refine lv_iadd hx hb dX8_travel_73 ?_
          refine lv_iload_n hx hb dX8_travel_74 rfl (lv_at hl 4 rfl) ?_
          obtain ⟨h_18, hf⟩ := gd_of hf
          refine va_iast hx hb hG.1 hw.1 hw.2.1 hw.2.2 10 1 (mw_atI (k := 10) rfl) rfl h_18 dX8_travel_75 (fun H locs hP hD hS => ?_)
          obtain ⟨S_19, eS_19⟩ : ∃ z : St, z = sM S_17 10 (((10 * p2) + p1).toNatClampNeg) p3 := ⟨_, rfl⟩
          replace hf := bnd_of eS_19 hf
          have hw : Wd G A s H locs (mw G.2.1 a R S_19) := wd_eq (by rw [eS_19]; exact mw_upI (k := 10) rfl _) hP hD hS
          refine lv_iload hx hb dX8_travel_76 (lv_at hl 0 rfl) ?_
          have e_20 := Option.some.inj hf
          obtain ⟨rfl, rfl⟩ := Prod.mk.inj e_20
          exact wd_iret hx hb hr hlocks hw dX8_travel_78
        · replace hf := if_t c_13 hf
          refine lv_bipush (v := (-2)) hx hb dX8_travel_36 (by decide) ?_
          have e_21 := Option.some.inj hf
          obtain ⟨rfl, rfl⟩ := Prod.mk.inj e_21
          exact wd_iret hx hb hr hlocks hw dX8_travel_38
/-! DutyDeskModel.duties(II)I -/
def rm_X8_duties : Room := { frames := 0, cells := 0, slots := 0, locals := 0 }
def f_X8_duties_L15 (v_2 : Int32) (S : St) (p1 : Int32) (p2 : Int32) : (Int32 × Int32) → Option ((Int32 × Int32) ⊕ ((Int32 × Int32) ⊕ (Int32)))
  | (v_6, v_7) =>
  (if p2 < v_7 then
    bnd (v_2 + 1) fun x_9 => some (.inr (.inl (v_6, x_9)))
  else
    gd ((1000 * v_2) + v_7) 6000 ((if (gM S 11 ((1000 * v_2) + v_7).toNatClampNeg) = p1 then
    bnd (v_6 + 1) fun x_17 => bnd (v_7 + 1) fun x_18 => some (.inl (x_17, x_18))
  else
    bnd (v_6 + 0) fun x_14 => bnd (v_7 + 1) fun x_15 => some (.inl (x_14, x_15)))))
def f_X8_duties_L5 (S : St) (p1 : Int32) (p2 : Int32) : (Int32 × Int32) → Option ((Int32 × Int32) ⊕ (Int32))
  | (v_1, v_2) =>
  (if 6 ≤ v_2 then
    some (.inr (v_1))
  else
    loopF (f_X8_duties_L15 v_2 S p1 p2) FU (v_1, 0))
def f_X8_duties (S : St) (p1 : Int32) (p2 : Int32) : Option (Int32) :=
  loopF (f_X8_duties_L5 S p1 p2) FU (0, 0)
set_option maxHeartbeats 4000000 in
set_option maxRecDepth 100000 in
theorem c_X8_duties (G : GP) (l : Launch) (a : Nat → Nat) (R : va_W) (S : St) (p1 : Int32) (p2 : Int32) (r0 : Int32) (hf : f_X8_duties S p1 p2 = some r0) : MC G l yX8_duties wsX8_duties rm_X8_duties [.ref (a 0), .int p1, .int p2] (mw G.2.1 a R S) (mw G.2.1 a R S) (some (.int r0)) 0 0 := by
  refine MC.mk (cc := cX8_duties) (maxL := 6) (ret := (some .int)) (by decide) rfl (Nat.le_of_ble_eq_true rfl) ?_
  intro p e s m below meth c A ls ⟨hx, hb, hr, hml, hown, hlocks, _, hts⟩ hw hG hA hl
  have hl : lv_has ls 6 [(0, .ref (a 0)), (1, .int p1), (2, .int p2)] := hl
  have hin8 : ∀ w ∈ u_ws RX8 TX8 45, w ∈ wsX8_duties := by decide +kernel
  rw [f_X8_duties] at hf
  refine lv_iconst (v := 0) hx hb dX8_duties_0 (by decide) ?_
  refine lv_istore_n (lv' := [(3, .int 0), (0, .ref (a 0)), (1, .int p1), (2, .int p2)]) hx hb dX8_duties_1 rfl hl (by decide) rfl (fun ls hl => ?_)
  refine lv_iconst (v := 0) hx hb dX8_duties_2 (by decide) ?_
  refine lv_istore (lv' := [(4, .int 0), (3, .int 0), (0, .ref (a 0)), (1, .int p1), (2, .int p2)]) hx hb dX8_duties_3 hl (by decide) rfl (fun ls hl => ?_)
  refine loopF_ind (body := f_X8_duties_L5 S p1 p2) (fun (q : Int32 × Int32) => match q with | (v_1, v_2) => ∀ (H : Heap) (locs : List Loc) (ls : Array Slot), Wd G A s H locs (mw G.2.1 a R S) → lv_has ls 6 [(0, .ref (a 0)), (1, .int p1), (2, .int p2), (3, .int v_1), (4, .int v_2)] → WQ p l e rm_X8_duties s m [.ref (a 0), .int p1, .int p2] below meth c G A (mw G.2.1 a R S) (some (.int r0)) 0 0 H locs 0 0 (F0 m 5 ls [])) ?_ FU (0, 0) hf _ _ _ hw (lv_sub hl [2, 3, 4, 1, 0] rfl)
  clear hf hw hl
  intro ⟨v_1, v_2⟩ t0_5 hf hz1_0_5 hz2_0_5 H locs ls hw hl
  rw [f_X8_duties_L5] at hf
  refine lv_iload hx hb dX8_duties_5 (lv_at hl 4 rfl) ?_
  refine lv_bipush (v := 6) hx hb dX8_duties_7 (by decide) ?_
  refine lv_icmp_ge (tgt := 59) hx hb dX8_duties_9 (by decide) (fun c_3 => ?_) (fun c_3 => ?_)
  · replace hf := if_t c_3 hf
    refine lv_iload_n hx hb dX8_duties_59 rfl (lv_at hl 3 rfl) ?_
    have e_4 := Option.some.inj hf
    have e_5 := hz2_0_5 _ e_4.symm
    subst e_5
    exact wd_iret hx hb hr hlocks hw dX8_duties_60
  · replace hf := if_f c_3 hf
    refine lv_iconst (v := 0) hx hb dX8_duties_12 (by decide) ?_
    refine lv_istore (lv' := [(5, .int 0), (0, .ref (a 0)), (1, .int p1), (2, .int p2), (3, .int v_1), (4, .int v_2)]) hx hb dX8_duties_13 hl (by decide) rfl (fun ls hl => ?_)
    refine loopF_ind (body := f_X8_duties_L15 v_2 S p1 p2) (fun (q : Int32 × Int32) => match q with | (v_6, v_7) => ∀ (H : Heap) (locs : List Loc) (ls : Array Slot), Wd G A s H locs (mw G.2.1 a R S) → lv_has ls 6 [(0, .ref (a 0)), (1, .int p1), (2, .int p2), (3, .int v_6), (4, .int v_2), (5, .int v_7)] → WQ p l e rm_X8_duties s m [.ref (a 0), .int p1, .int p2] below meth c G A (mw G.2.1 a R S) (some (.int r0)) 0 0 H locs 0 0 (F0 m 15 ls [])) ?_ FU (v_1, 0) hf _ _ _ hw (lv_sub hl [1, 2, 3, 4, 5, 0] rfl)
    clear hf hw hl
    intro ⟨v_6, v_7⟩ t1_15 hf hz1_1_15 hz2_1_15 H locs ls hw hl
    rw [f_X8_duties_L15] at hf
    refine lv_iload hx hb dX8_duties_15 (lv_at hl 5 rfl) ?_
    refine lv_iload_n hx hb dX8_duties_17 rfl (lv_at hl 2 rfl) ?_
    refine lv_icmp_gt (tgt := 53) hx hb dX8_duties_18 (by decide) (fun c_8 => ?_) (fun c_8 => ?_)
    · replace hf := if_t c_8 hf
      obtain ⟨x_9, ex_9⟩ : ∃ z : Int32, z = v_2 + 1 := ⟨_, rfl⟩
      replace hf := bnd_of ex_9 hf
      refine lv_iinc (v := x_9) (lv' := [(4, .int x_9), (0, .ref (a 0)), (1, .int p1), (2, .int p2), (3, .int v_6), (5, .int v_7)]) hx hb dX8_duties_53 hl (k := 4) rfl (by rw [ex_9]; rfl) (by decide) rfl (fun ls hl => ?_)
      refine lv_goto (tgt := 5) hx hb dX8_duties_56 (by decide) ?_
      have e_10 := Option.some.inj hf
      have e_11 := hz2_1_15 _ e_10.symm
      exact hz1_0_5 _ e_11.symm _ _ _ hw (lv_sub hl [1, 2, 3, 4, 0] rfl)
    · replace hf := if_f c_8 hf
      refine lv_iload_n hx hb dX8_duties_21 rfl (lv_at hl 3 rfl) ?_
      refine lv_aload_n hx hb dX8_duties_22 rfl (lv_at hl 0 rfl) ?_
      refine va_get (D := G.1) (ci := 8) (v := .ref (a 11)) (C := RX8) (T := TX8) (N := 45) hx hb hts hin8 hown hG.1 hw.1 0 rfl rfl 21 (by decide) (hts (.fieldLink RX8 46 "DutyDeskModel" "duty" "[I") (List.mem_of_getElem? (i := 1) rfl)) (fun _ h9 => h9) rfl dX8_duties_23 ?_
      refine lv_sipush (v := 1000) hx hb dX8_duties_26 (by decide) ?_
      refine lv_iload hx hb dX8_duties_29 (lv_at hl 4 rfl) ?_
      refine lv_imul hx hb dX8_duties_31 ?_
      refine lv_iload hx hb dX8_duties_32 (lv_at hl 5 rfl) ?_
      refine lv_iadd hx hb dX8_duties_34 ?_
      obtain ⟨h_12, hf⟩ := gd_of hf
      refine va_iald hx hb hG.1 hw.1 11 1 (mw_atI (k := 11) rfl) rfl h_12 dX8_duties_35 ?_
      refine lv_iload_n hx hb dX8_duties_36 rfl (lv_at hl 1 rfl) ?_
      refine lv_icmp_ne (tgt := 44) hx hb dX8_duties_37 (by decide) (fun c_13 => ?_) (fun c_13 => ?_)
      · replace hf := if_f c_13 hf
        refine lv_iconst (v := 0) hx hb dX8_duties_44 (by decide) ?_
        refine lv_iadd hx hb dX8_duties_45 ?_
        refine lv_topi (fun x_14 ex_14 => ?_)
        replace hf := bnd_of ex_14 hf
        refine lv_istore_n (lv' := [(3, .int x_14), (0, .ref (a 0)), (1, .int p1), (2, .int p2), (4, .int v_2), (5, .int v_7)]) hx hb dX8_duties_46 rfl hl (by decide) rfl (fun ls hl => ?_)
        obtain ⟨x_15, ex_15⟩ : ∃ z : Int32, z = v_7 + 1 := ⟨_, rfl⟩
        replace hf := bnd_of ex_15 hf
        refine lv_iinc (v := x_15) (lv' := [(5, .int x_15), (3, .int x_14), (0, .ref (a 0)), (1, .int p1), (2, .int p2), (4, .int v_2)]) hx hb dX8_duties_47 hl (k := 5) rfl (by rw [ex_15]; rfl) (by decide) rfl (fun ls hl => ?_)
        refine lv_goto (tgt := 15) hx hb dX8_duties_50 (by decide) ?_
        have e_16 := Option.some.inj hf
        exact hz1_1_15 _ e_16.symm _ _ _ hw (lv_sub hl [2, 3, 4, 1, 5, 0] rfl)
      · replace hf := if_t c_13 hf
        refine lv_iconst (v := 1) hx hb dX8_duties_40 (by decide) ?_
        refine lv_goto (tgt := 45) hx hb dX8_duties_41 (by decide) ?_
        refine lv_iadd hx hb dX8_duties_45 ?_
        refine lv_topi (fun x_17 ex_17 => ?_)
        replace hf := bnd_of ex_17 hf
        refine lv_istore_n (lv' := [(3, .int x_17), (0, .ref (a 0)), (1, .int p1), (2, .int p2), (4, .int v_2), (5, .int v_7)]) hx hb dX8_duties_46 rfl hl (by decide) rfl (fun ls hl => ?_)
        obtain ⟨x_18, ex_18⟩ : ∃ z : Int32, z = v_7 + 1 := ⟨_, rfl⟩
        replace hf := bnd_of ex_18 hf
        refine lv_iinc (v := x_18) (lv' := [(5, .int x_18), (3, .int x_17), (0, .ref (a 0)), (1, .int p1), (2, .int p2), (4, .int v_2)]) hx hb dX8_duties_47 hl (k := 5) rfl (by rw [ex_18]; rfl) (by decide) rfl (fun ls hl => ?_)
        refine lv_goto (tgt := 15) hx hb dX8_duties_50 (by decide) ?_
        have e_19 := Option.some.inj hf
        exact hz1_1_15 _ e_19.symm _ _ _ hw (lv_sub hl [2, 3, 4, 1, 5, 0] rfl)
/-! DutyDeskModel.taken(I)I -/
def rm_X8_taken : Room := { frames := 0, cells := 0, slots := 0, locals := 0 }
def f_X8_taken_L4 (S : St) (p1 : Int32) : (Int32 × Int32) → Option ((Int32 × Int32) ⊕ (Int32))
  | (v_1, v_2) =>
  (if (gI S 13) ≤ v_2 then
    some (.inr (v_1))
  else
    gd v_2 150 ((if (gM S 24 v_2.toNatClampNeg) = p1 then
    bnd (v_1 + 1) fun x_11 => bnd (v_2 + 1) fun x_12 => some (.inl (x_11, x_12))
  else
    bnd (v_1 + 0) fun x_8 => bnd (v_2 + 1) fun x_9 => some (.inl (x_8, x_9)))))
def f_X8_taken (S : St) (p1 : Int32) : Option (Int32) :=
  loopF (f_X8_taken_L4 S p1) FU (0, 0)
set_option maxHeartbeats 4000000 in
set_option maxRecDepth 100000 in
theorem c_X8_taken (G : GP) (l : Launch) (a : Nat → Nat) (R : va_W) (S : St) (p1 : Int32) (r0 : Int32) (hf : f_X8_taken S p1 = some r0) : MC G l yX8_taken wsX8_taken rm_X8_taken [.ref (a 0), .int p1] (mw G.2.1 a R S) (mw G.2.1 a R S) (some (.int r0)) 0 0 := by
  refine MC.mk (cc := cX8_taken) (maxL := 4) (ret := (some .int)) (by decide) rfl (Nat.le_of_ble_eq_true rfl) ?_
  intro p e s m below meth c A ls ⟨hx, hb, hr, hml, hown, hlocks, _, hts⟩ hw hG hA hl
  have hl : lv_has ls 4 [(0, .ref (a 0)), (1, .int p1)] := hl
  have hin8 : ∀ w ∈ u_ws RX8 TX8 45, w ∈ wsX8_taken := by decide +kernel
  rw [f_X8_taken] at hf
  refine lv_iconst (v := 0) hx hb dX8_taken_0 (by decide) ?_
  refine lv_istore_n (lv' := [(2, .int 0), (0, .ref (a 0)), (1, .int p1)]) hx hb dX8_taken_1 rfl hl (by decide) rfl (fun ls hl => ?_)
  refine lv_iconst (v := 0) hx hb dX8_taken_2 (by decide) ?_
  refine lv_istore_n (lv' := [(3, .int 0), (2, .int 0), (0, .ref (a 0)), (1, .int p1)]) hx hb dX8_taken_3 rfl hl (by decide) rfl (fun ls hl => ?_)
  refine loopF_ind (body := f_X8_taken_L4 S p1) (fun (q : Int32 × Int32) => match q with | (v_1, v_2) => ∀ (H : Heap) (locs : List Loc) (ls : Array Slot), Wd G A s H locs (mw G.2.1 a R S) → lv_has ls 4 [(0, .ref (a 0)), (1, .int p1), (2, .int v_1), (3, .int v_2)] → WQ p l e rm_X8_taken s m [.ref (a 0), .int p1] below meth c G A (mw G.2.1 a R S) (some (.int r0)) 0 0 H locs 0 0 (F0 m 4 ls [])) ?_ FU (0, 0) hf _ _ _ hw (lv_sub hl [2, 3, 1, 0] rfl)
  clear hf hw hl
  intro ⟨v_1, v_2⟩ t0_4 hf hz1_0_4 hz2_0_4 H locs ls hw hl
  rw [f_X8_taken_L4] at hf
  refine lv_iload_n hx hb dX8_taken_4 rfl (lv_at hl 3 rfl) ?_
  refine lv_aload_n hx hb dX8_taken_5 rfl (lv_at hl 0 rfl) ?_
  refine va_get (D := G.1) (ci := 8) (v := .int (gI S 13)) (C := RX8) (T := TX8) (N := 45) hx hb hts hin8 hown hG.1 hw.1 0 rfl rfl 27 (by decide) (hts (.fieldLink RX8 231 "DutyDeskModel" "calls" "I") (List.mem_of_getElem? (i := 1) rfl)) (fun _ h9 => h9) rfl dX8_taken_6 ?_
  refine lv_icmp_ge (tgt := 36) hx hb dX8_taken_9 (by decide) (fun c_3 => ?_) (fun c_3 => ?_)
  · replace hf := if_t c_3 hf
    refine lv_iload_n hx hb dX8_taken_36 rfl (lv_at hl 2 rfl) ?_
    have e_4 := Option.some.inj hf
    have e_5 := hz2_0_4 _ e_4.symm
    subst e_5
    exact wd_iret hx hb hr hlocks hw dX8_taken_37
  · replace hf := if_f c_3 hf
    refine lv_iload_n hx hb dX8_taken_12 rfl (lv_at hl 2 rfl) ?_
    refine lv_aload_n hx hb dX8_taken_13 rfl (lv_at hl 0 rfl) ?_
    refine va_get (D := G.1) (ci := 8) (v := .ref (a 24)) (C := RX8) (T := TX8) (N := 45) hx hb hts hin8 hown hG.1 hw.1 0 rfl rfl 37 (by decide) (hts (.fieldLink RX8 85 "DutyDeskModel" "cTaker" "[I") (List.mem_of_getElem? (i := 2) rfl)) (fun _ h9 => h9) rfl dX8_taken_14 ?_
    refine lv_iload_n hx hb dX8_taken_17 rfl (lv_at hl 3 rfl) ?_
    obtain ⟨h_6, hf⟩ := gd_of hf
    refine va_iald hx hb hG.1 hw.1 24 1 (mw_atI (k := 24) rfl) rfl h_6 dX8_taken_18 ?_
    refine lv_iload_n hx hb dX8_taken_19 rfl (lv_at hl 1 rfl) ?_
    refine lv_icmp_ne (tgt := 27) hx hb dX8_taken_20 (by decide) (fun c_7 => ?_) (fun c_7 => ?_)
    · replace hf := if_f c_7 hf
      refine lv_iconst (v := 0) hx hb dX8_taken_27 (by decide) ?_
      refine lv_iadd hx hb dX8_taken_28 ?_
      refine lv_topi (fun x_8 ex_8 => ?_)
      replace hf := bnd_of ex_8 hf
      refine lv_istore_n (lv' := [(2, .int x_8), (0, .ref (a 0)), (1, .int p1), (3, .int v_2)]) hx hb dX8_taken_29 rfl hl (by decide) rfl (fun ls hl => ?_)
      obtain ⟨x_9, ex_9⟩ : ∃ z : Int32, z = v_2 + 1 := ⟨_, rfl⟩
      replace hf := bnd_of ex_9 hf
      refine lv_iinc (v := x_9) (lv' := [(3, .int x_9), (2, .int x_8), (0, .ref (a 0)), (1, .int p1)]) hx hb dX8_taken_30 hl (k := 3) rfl (by rw [ex_9]; rfl) (by decide) rfl (fun ls hl => ?_)
      refine lv_goto (tgt := 4) hx hb dX8_taken_33 (by decide) ?_
      have e_10 := Option.some.inj hf
      exact hz1_0_4 _ e_10.symm _ _ _ hw (lv_sub hl [2, 3, 1, 0] rfl)
    · replace hf := if_t c_7 hf
      refine lv_iconst (v := 1) hx hb dX8_taken_23 (by decide) ?_
      refine lv_goto (tgt := 28) hx hb dX8_taken_24 (by decide) ?_
      refine lv_iadd hx hb dX8_taken_28 ?_
      refine lv_topi (fun x_11 ex_11 => ?_)
      replace hf := bnd_of ex_11 hf
      refine lv_istore_n (lv' := [(2, .int x_11), (0, .ref (a 0)), (1, .int p1), (3, .int v_2)]) hx hb dX8_taken_29 rfl hl (by decide) rfl (fun ls hl => ?_)
      obtain ⟨x_12, ex_12⟩ : ∃ z : Int32, z = v_2 + 1 := ⟨_, rfl⟩
      replace hf := bnd_of ex_12 hf
      refine lv_iinc (v := x_12) (lv' := [(3, .int x_12), (2, .int x_11), (0, .ref (a 0)), (1, .int p1)]) hx hb dX8_taken_30 hl (k := 3) rfl (by rw [ex_12]; rfl) (by decide) rfl (fun ls hl => ?_)
      refine lv_goto (tgt := 4) hx hb dX8_taken_33 (by decide) ?_
      have e_13 := Option.some.inj hf
      exact hz1_0_4 _ e_13.symm _ _ _ hw (lv_sub hl [2, 3, 1, 0] rfl)
/-! DutyDeskModel.lawyer(II)I -/
def rm_X8_lawyer : Room := { frames := 2, cells := 0, slots := 0, locals := 43 }
def f_X8_lawyer (S : St) (p1 : Int32) (p2 : Int32) : Option (Int32) :=
  (f_X8_isLawyer S p1).bind (fun r_2 => (if r_2 = 0 then
    some ((-1))
  else
    (if p2 = 0 then
    gd p1 24 (some ((gM S 5 p1.toNatClampNeg)))
  else
    (if p2 = 1 then
    gd p1 24 (some ((gM S 6 p1.toNatClampNeg)))
  else
    (if p2 = 2 then
    gd p1 24 (some ((gM S 7 p1.toNatClampNeg)))
  else
    (if p2 = 3 then
    gd p1 24 (some ((gM S 8 p1.toNatClampNeg)))
  else
    (if p2 = 4 then
    (f_X8_duties S p1 999).bind (fun r_18 => some (r_18))
  else
    (if p2 = 5 then
    (f_X8_taken S p1).bind (fun r_22 => some (r_22))
  else
    some ((-1))))))))))
set_option maxHeartbeats 4000000 in
set_option maxRecDepth 100000 in
theorem c_X8_lawyer (G : GP) (l : Launch) (a : Nat → Nat) (R : va_W) (S : St) (p1 : Int32) (p2 : Int32) (r0 : Int32) (hf : f_X8_lawyer S p1 p2 = some r0) : MC G l yX8_lawyer wsX8_lawyer rm_X8_lawyer [.ref (a 0), .int p1, .int p2] (mw G.2.1 a R S) (mw G.2.1 a R S) (some (.int r0)) 0 0 := by
  refine MC.mk (cc := cX8_lawyer) (maxL := 3) (ret := (some .int)) (by decide) rfl (Nat.le_of_ble_eq_true rfl) ?_
  intro p e s m below meth c A ls ⟨hx, hb, hr, hml, hown, hlocks, _, hts⟩ hw hG hA hl
  have hl : lv_has ls 3 [(0, .ref (a 0)), (1, .int p1), (2, .int p2)] := hl
  have hin8 : ∀ w ∈ u_ws RX8 TX8 45, w ∈ wsX8_lawyer := by decide +kernel
  rw [f_X8_lawyer] at hf
  refine lv_aload_n hx hb dX8_lawyer_0 rfl (lv_at hl 0 rfl) ?_
  refine lv_iload_n hx hb dX8_lawyer_1 rfl (lv_at hl 1 rfl) ?_
  obtain ⟨r_2, h_1, hf⟩ := bind_of hf
  refine cV (As := [.int p1]) (rest := []) ⟨hx, hb, hml, hown, hts⟩ hG hA hw (c_X8_isLawyer G l a R S p1 r_2 h_1) (cwV 1 hts gX8_lawyer_X8_isLawyer rfl rfl rfl (by decide +kernel) ⟨Nat.le_of_ble_eq_true rfl, Nat.le_of_ble_eq_true rfl⟩) (va_recv hG.1 hw.1 (ci := 8) (q0 := 0) rfl rfl) rfl hl.1 rfl (Nat.le_of_ble_eq_true rfl) dX8_lawyer_2 ⟨Nat.zero_le _, Nat.zero_le _⟩ (fun H locs hw => ?_)
  refine lv_if_ne (tgt := 10) hx hb dX8_lawyer_5 (by decide) (fun c_3 => ?_) (fun c_3 => ?_)
  · replace hf := if_f c_3 hf
    refine lv_iload_n hx hb dX8_lawyer_10 rfl (lv_at hl 2 rfl) ?_
    by_cases c_4 : p2 = 0
    · replace hf := if_t c_4 hf
      refine lv_tableIn (off := 37) (tgt := 48) hx hb dX8_lawyer_11 (by rw [c_4]; decide) (by rw [c_4]; decide) (by rw [c_4]; rfl) (by decide) ?_
      refine lv_aload_n hx hb dX8_lawyer_48 rfl (lv_at hl 0 rfl) ?_
      refine va_get (D := G.1) (ci := 8) (v := .ref (a 5)) (C := RX8) (T := TX8) (N := 45) hx hb hts hin8 hown hG.1 hw.1 0 rfl rfl 15 (by decide) (hts (.fieldLink RX8 28 "DutyDeskModel" "town" "[I") (List.mem_of_getElem? (i := 1) rfl)) (fun _ h9 => h9) rfl dX8_lawyer_49 ?_
      refine lv_iload_n hx hb dX8_lawyer_52 rfl (lv_at hl 1 rfl) ?_
      obtain ⟨h_5, hf⟩ := gd_of hf
      refine va_iald hx hb hG.1 hw.1 5 1 (mw_atI (k := 5) rfl) rfl h_5 dX8_lawyer_53 ?_
      have e_6 := Option.some.inj hf
      subst e_6
      exact wd_iret hx hb hr hlocks hw dX8_lawyer_54
    · replace hf := if_f c_4 hf
      by_cases c_7 : p2 = 1
      · replace hf := if_t c_7 hf
        refine lv_tableIn (off := 44) (tgt := 55) hx hb dX8_lawyer_11 (by rw [c_7]; decide) (by rw [c_7]; decide) (by rw [c_7]; rfl) (by decide) ?_
        refine lv_aload_n hx hb dX8_lawyer_55 rfl (lv_at hl 0 rfl) ?_
        refine va_get (D := G.1) (ci := 8) (v := .ref (a 6)) (C := RX8) (T := TX8) (N := 45) hx hb hts hin8 hown hG.1 hw.1 0 rfl rfl 16 (by decide) (hts (.fieldLink RX8 31 "DutyDeskModel" "panels" "[I") (List.mem_of_getElem? (i := 2) rfl)) (fun _ h9 => h9) rfl dX8_lawyer_56 ?_
        refine lv_iload_n hx hb dX8_lawyer_59 rfl (lv_at hl 1 rfl) ?_
        obtain ⟨h_8, hf⟩ := gd_of hf
        refine va_iald hx hb hG.1 hw.1 6 1 (mw_atI (k := 6) rfl) rfl h_8 dX8_lawyer_60 ?_
        have e_9 := Option.some.inj hf
        subst e_9
        exact wd_iret hx hb hr hlocks hw dX8_lawyer_61
      · replace hf := if_f c_7 hf
        by_cases c_10 : p2 = 2
        · replace hf := if_t c_10 hf
          refine lv_tableIn (off := 51) (tgt := 62) hx hb dX8_lawyer_11 (by rw [c_10]; decide) (by rw [c_10]; decide) (by rw [c_10]; rfl) (by decide) ?_
          refine lv_aload_n hx hb dX8_lawyer_62 rfl (lv_at hl 0 rfl) ?_
          refine va_get (D := G.1) (ci := 8) (v := .ref (a 7)) (C := RX8) (T := TX8) (N := 45) hx hb hts hin8 hown hG.1 hw.1 0 rfl rfl 17 (by decide) (hts (.fieldLink RX8 34 "DutyDeskModel" "tongues" "[I") (List.mem_of_getElem? (i := 3) rfl)) (fun _ h9 => h9) rfl dX8_lawyer_63 ?_
          refine lv_iload_n hx hb dX8_lawyer_66 rfl (lv_at hl 1 rfl) ?_
          obtain ⟨h_11, hf⟩ := gd_of hf
          refine va_iald hx hb hG.1 hw.1 7 1 (mw_atI (k := 7) rfl) rfl h_11 dX8_lawyer_67 ?_
          have e_12 := Option.some.inj hf
          subst e_12
          exact wd_iret hx hb hr hlocks hw dX8_lawyer_68
        · replace hf := if_f c_10 hf
          by_cases c_13 : p2 = 3
          · replace hf := if_t c_13 hf
            refine lv_tableIn (off := 58) (tgt := 69) hx hb dX8_lawyer_11 (by rw [c_13]; decide) (by rw [c_13]; decide) (by rw [c_13]; rfl) (by decide) ?_
            refine lv_aload_n hx hb dX8_lawyer_69 rfl (lv_at hl 0 rfl) ?_
            refine va_get (D := G.1) (ci := 8) (v := .ref (a 8)) (C := RX8) (T := TX8) (N := 45) hx hb hts hin8 hown hG.1 hw.1 0 rfl rfl 18 (by decide) (hts (.fieldLink RX8 37 "DutyDeskModel" "struck" "[I") (List.mem_of_getElem? (i := 4) rfl)) (fun _ h9 => h9) rfl dX8_lawyer_70 ?_
            refine lv_iload_n hx hb dX8_lawyer_73 rfl (lv_at hl 1 rfl) ?_
            obtain ⟨h_14, hf⟩ := gd_of hf
            refine va_iald hx hb hG.1 hw.1 8 1 (mw_atI (k := 8) rfl) rfl h_14 dX8_lawyer_74 ?_
            have e_15 := Option.some.inj hf
            subst e_15
            exact wd_iret hx hb hr hlocks hw dX8_lawyer_75
          · replace hf := if_f c_13 hf
            by_cases c_16 : p2 = 4
            · replace hf := if_t c_16 hf
              refine lv_tableIn (off := 65) (tgt := 76) hx hb dX8_lawyer_11 (by rw [c_16]; decide) (by rw [c_16]; decide) (by rw [c_16]; rfl) (by decide) ?_
              refine lv_aload_n hx hb dX8_lawyer_76 rfl (lv_at hl 0 rfl) ?_
              refine lv_iload_n hx hb dX8_lawyer_77 rfl (lv_at hl 1 rfl) ?_
              refine lv_sipush (v := 999) hx hb dX8_lawyer_78 (by decide) ?_
              obtain ⟨r_18, h_17, hf⟩ := bind_of hf
              refine cV (As := [.int p1, .int 999]) (rest := []) ⟨hx, hb, hml, hown, hts⟩ hG hA hw (c_X8_duties G l a R S p1 999 r_18 h_17) (cwV 2 hts gX8_lawyer_X8_duties rfl rfl rfl (by decide +kernel) ⟨Nat.le_of_ble_eq_true rfl, Nat.le_of_ble_eq_true rfl⟩) (va_recv hG.1 hw.1 (ci := 8) (q0 := 0) rfl rfl) rfl hl.1 rfl (Nat.le_of_ble_eq_true rfl) dX8_lawyer_81 ⟨Nat.zero_le _, Nat.zero_le _⟩ (fun H locs hw => ?_)
              have e_19 := Option.some.inj hf
              subst e_19
              exact wd_iret hx hb hr hlocks hw dX8_lawyer_84
            · replace hf := if_f c_16 hf
              by_cases c_20 : p2 = 5
              · replace hf := if_t c_20 hf
                refine lv_tableIn (off := 74) (tgt := 85) hx hb dX8_lawyer_11 (by rw [c_20]; decide) (by rw [c_20]; decide) (by rw [c_20]; rfl) (by decide) ?_
                refine lv_aload_n hx hb dX8_lawyer_85 rfl (lv_at hl 0 rfl) ?_
                refine lv_iload_n hx hb dX8_lawyer_86 rfl (lv_at hl 1 rfl) ?_
                obtain ⟨r_22, h_21, hf⟩ := bind_of hf
                refine cV (As := [.int p1]) (rest := []) ⟨hx, hb, hml, hown, hts⟩ hG hA hw (c_X8_taken G l a R S p1 r_22 h_21) (cwV 1 hts gX8_lawyer_X8_taken rfl rfl rfl (by decide +kernel) ⟨Nat.le_of_ble_eq_true rfl, Nat.le_of_ble_eq_true rfl⟩) (va_recv hG.1 hw.1 (ci := 8) (q0 := 0) rfl rfl) rfl hl.1 rfl (Nat.le_of_ble_eq_true rfl) dX8_lawyer_87 ⟨Nat.zero_le _, Nat.zero_le _⟩ (fun H locs hw => ?_)
                have e_23 := Option.some.inj hf
                subst e_23
                exact wd_iret hx hb hr hlocks hw dX8_lawyer_90
              · replace hf := if_f c_20 hf
                have nc_4 := lv_neT c_4 (show Int32.toInt 0 = 0 from rfl)
                have nc_7 := lv_neT c_7 (show Int32.toInt 1 = 1 from rfl)
                have nc_10 := lv_neT c_10 (show Int32.toInt 2 = 2 from rfl)
                have nc_13 := lv_neT c_13 (show Int32.toInt 3 = 3 from rfl)
                have nc_16 := lv_neT c_16 (show Int32.toInt 4 = 4 from rfl)
                have nc_20 := lv_neT c_20 (show Int32.toInt 5 = 5 from rfl)
                refine lv_tableOut (tgt := 91) hx hb dX8_lawyer_11 (by omega) (by decide) ?_
                refine lv_iconst (v := (-1)) hx hb dX8_lawyer_91 (by decide) ?_
                have e_24 := Option.some.inj hf
                subst e_24
                exact wd_iret hx hb hr hlocks hw dX8_lawyer_92
  · replace hf := if_t c_3 hf
    refine lv_iconst (v := (-1)) hx hb dX8_lawyer_8 (by decide) ?_
    have e_25 := Option.some.inj hf
    subst e_25
    exact wd_iret hx hb hr hlocks hw dX8_lawyer_9
/-! DutyDeskModel.hasDuty(II)Z -/
def rm_X8_hasDuty : Room := { frames := 0, cells := 0, slots := 0, locals := 0 }
def f_X8_hasDuty_L2 (S : St) (p1 : Int32) (p2 : Int32) : Int32 → Option ((Int32) ⊕ (Int32))
  | v_1 =>
  (if 6 ≤ v_1 then
    some (.inr (0))
  else
    gd ((1000 * v_1) + p2) 6000 ((if (gM S 11 ((1000 * v_1) + p2).toNatClampNeg) = p1 then
    some (.inr (1))
  else
    bnd (v_1 + 1) fun x_7 => some (.inl x_7))))
def f_X8_hasDuty (S : St) (p1 : Int32) (p2 : Int32) : Option (Int32) :=
  loopF (f_X8_hasDuty_L2 S p1 p2) FU 0
set_option maxHeartbeats 4000000 in
set_option maxRecDepth 100000 in
theorem c_X8_hasDuty (G : GP) (l : Launch) (a : Nat → Nat) (R : va_W) (S : St) (p1 : Int32) (p2 : Int32) (r0 : Int32) (hf : f_X8_hasDuty S p1 p2 = some r0) : MC G l yX8_hasDuty wsX8_hasDuty rm_X8_hasDuty [.ref (a 0), .int p1, .int p2] (mw G.2.1 a R S) (mw G.2.1 a R S) (some (.int r0)) 0 0 := by
  refine MC.mk (cc := cX8_hasDuty) (maxL := 4) (ret := (some .boolean)) (by decide) rfl (Nat.le_of_ble_eq_true rfl) ?_
  intro p e s m below meth c A ls ⟨hx, hb, hr, hml, hown, hlocks, _, hts⟩ hw hG hA hl
  have hl : lv_has ls 4 [(0, .ref (a 0)), (1, .int p1), (2, .int p2)] := hl
  have hin8 : ∀ w ∈ u_ws RX8 TX8 45, w ∈ wsX8_hasDuty := by decide +kernel
  rw [f_X8_hasDuty] at hf
  refine lv_iconst (v := 0) hx hb dX8_hasDuty_0 (by decide) ?_
  refine lv_istore_n (lv' := [(3, .int 0), (0, .ref (a 0)), (1, .int p1), (2, .int p2)]) hx hb dX8_hasDuty_1 rfl hl (by decide) rfl (fun ls hl => ?_)
  refine loopF_ind (body := f_X8_hasDuty_L2 S p1 p2) (fun (v_1 : Int32) => ∀ (H : Heap) (locs : List Loc) (ls : Array Slot), Wd G A s H locs (mw G.2.1 a R S) → lv_has ls 4 [(0, .ref (a 0)), (1, .int p1), (2, .int p2), (3, .int v_1)] → WQ p l e rm_X8_hasDuty s m [.ref (a 0), .int p1, .int p2] below meth c G A (mw G.2.1 a R S) (some (.int r0)) 0 0 H locs 0 0 (F0 m 2 ls [])) ?_ FU 0 hf _ _ _ hw (lv_sub hl [1, 2, 3, 0] rfl)
  clear hf hw hl
  intro v_1 t0_2 hf hz1_0_2 hz2_0_2 H locs ls hw hl
  rw [f_X8_hasDuty_L2] at hf
  refine lv_iload_n hx hb dX8_hasDuty_2 rfl (lv_at hl 3 rfl) ?_
  refine lv_bipush (v := 6) hx hb dX8_hasDuty_3 (by decide) ?_
  refine lv_icmp_ge (tgt := 32) hx hb dX8_hasDuty_5 (by decide) (fun c_2 => ?_) (fun c_2 => ?_)
  · replace hf := if_t c_2 hf
    refine lv_iconst (v := 0) hx hb dX8_hasDuty_32 (by decide) ?_
    have e_3 := Option.some.inj hf
    have e_4 := hz2_0_2 _ e_3.symm
    subst e_4
    exact wd_zret hx hb hr rfl hlocks hw dX8_hasDuty_33
  · replace hf := if_f c_2 hf
    refine lv_aload_n hx hb dX8_hasDuty_8 rfl (lv_at hl 0 rfl) ?_
    refine va_get (D := G.1) (ci := 8) (v := .ref (a 11)) (C := RX8) (T := TX8) (N := 45) hx hb hts hin8 hown hG.1 hw.1 0 rfl rfl 21 (by decide) (hts (.fieldLink RX8 46 "DutyDeskModel" "duty" "[I") (List.mem_of_getElem? (i := 1) rfl)) (fun _ h9 => h9) rfl dX8_hasDuty_9 ?_
    refine lv_sipush (v := 1000) hx hb dX8_hasDuty_12 (by decide) ?_
    refine lv_iload_n hx hb dX8_hasDuty_15 rfl (lv_at hl 3 rfl) ?_
    refine lv_imul hx hb dX8_hasDuty_16 ?_
    refine lv_iload_n hx hb dX8_hasDuty_17 rfl (lv_at hl 2 rfl) ?_
    refine lv_iadd hx hb dX8_hasDuty_18 ?_
    obtain ⟨h_5, hf⟩ := gd_of hf
    refine va_iald hx hb hG.1 hw.1 11 1 (mw_atI (k := 11) rfl) rfl h_5 dX8_hasDuty_19 ?_
    refine lv_iload_n hx hb dX8_hasDuty_20 rfl (lv_at hl 1 rfl) ?_
    refine lv_icmp_ne (tgt := 26) hx hb dX8_hasDuty_21 (by decide) (fun c_6 => ?_) (fun c_6 => ?_)
    · replace hf := if_f c_6 hf
      obtain ⟨x_7, ex_7⟩ : ∃ z : Int32, z = v_1 + 1 := ⟨_, rfl⟩
      replace hf := bnd_of ex_7 hf
      refine lv_iinc (v := x_7) (lv' := [(3, .int x_7), (0, .ref (a 0)), (1, .int p1), (2, .int p2)]) hx hb dX8_hasDuty_26 hl (k := 3) rfl (by rw [ex_7]; rfl) (by decide) rfl (fun ls hl => ?_)
      refine lv_goto (tgt := 2) hx hb dX8_hasDuty_29 (by decide) ?_
      have e_8 := Option.some.inj hf
      exact hz1_0_2 _ e_8.symm _ _ _ hw (lv_sub hl [1, 2, 3, 0] rfl)
    · replace hf := if_t c_6 hf
      refine lv_iconst (v := 1) hx hb dX8_hasDuty_24 (by decide) ?_
      have e_9 := Option.some.inj hf
      have e_10 := hz2_0_2 _ e_9.symm
      subst e_10
      exact wd_zret hx hb hr rfl hlocks hw dX8_hasDuty_25
