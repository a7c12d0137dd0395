/-! DutyDeskModel.isFellow(II)Z -/
def rm_X8_isFellow : Room := { frames := 0, cells := 0, slots := 0, locals := 0 }
def f_X8_isFellow_L20 (S : St) (p1 : Int32) (p2 : Int32) (x_3 : Int32) : Int32 → Option ((Int32) ⊕ (Int32))
  | v_4 =>
  (if (gI S 13) ≤ v_4 then
    some (.inr (0))
  else
    gd v_4 150 ((if (gM S 24 v_4.toNatClampNeg) = p2 then
    gd v_4 150 (gd p1 150 ((if (gM S 19 v_4.toNatClampNeg) = (gM S 19 p1.toNatClampNeg) then
    gd v_4 150 (gd p1 150 ((if (gM S 20 v_4.toNatClampNeg) = (gM S 20 p1.toNatClampNeg) then
    bnd (v_4 + 1) fun x_32 => some (.inl x_32)
  else
    gd x_3 1000 ((if (gM S 31 x_3.toNatClampNeg) = 0 then
    gd v_4 150 (gd v_4 150 (gd ((10 * (gM S 19 v_4.toNatClampNeg)) + (gM S 20 v_4.toNatClampNeg)) 1000 ((if (gM S 31 ((10 * (gM S 19 v_4.toNatClampNeg)) + (gM S 20 v_4.toNatClampNeg)).toNatClampNeg) = 0 then
    some (.inr (1))
  else
    bnd (v_4 + 1) fun x_28 => some (.inl x_28)))))
  else
    bnd (v_4 + 1) fun x_22 => some (.inl x_22))))))
  else
    bnd (v_4 + 1) fun x_15 => some (.inl x_15))))
  else
    bnd (v_4 + 1) fun x_10 => some (.inl x_10))))
def f_X8_isFellow (S : St) (p1 : Int32) (p2 : Int32) : Option (Int32) :=
  gd p1 150 (gd p1 150 (bnd ((10 * (gM S 19 p1.toNatClampNeg)) + (gM S 20 p1.toNatClampNeg)) fun x_3 => loopF (f_X8_isFellow_L20 S p1 p2 x_3) FU 0))
set_option maxHeartbeats 4000000 in
set_option maxRecDepth 100000 in
theorem c_X8_isFellow (G : GP) (l : Launch) (a : Nat → Nat) (R : va_W) (S : St) (p1 : Int32) (p2 : Int32) (r0 : Int32) (hf : f_X8_isFellow S p1 p2 = some r0) : MC G l yX8_isFellow wsX8_isFellow rm_X8_isFellow [.ref (a 0), .int p1, .int p2] (mw G.2.1 a R S) (mw G.2.1 a R S) (some (.int r0)) 0 0 := by
  refine MC.mk (cc := cX8_isFellow) (maxL := 5) (ret := (some .boolean)) (by decide) rfl (Nat.le_of_ble_eq_true rfl) ?_
  intro p e s m below meth c A ls ⟨hx, hb, hr, hml, hown, hlocks, _, hts⟩ hw hG hA hl
  have hl : lv_has ls 5 [(0, .ref (a 0)), (1, .int p1), (2, .int p2)] := hl
  have hin8 : ∀ w ∈ u_ws RX8 TX8 45, w ∈ wsX8_isFellow := by decide +kernel
  rw [f_X8_isFellow] at hf
  refine lv_bipush (v := 10) hx hb dX8_isFellow_0 (by decide) ?_
  refine lv_aload_n hx hb dX8_isFellow_2 rfl (lv_at hl 0 rfl) ?_
  refine va_get (D := G.1) (ci := 8) (v := .ref (a 19)) (C := RX8) (T := TX8) (N := 45) hx hb hts hin8 hown hG.1 hw.1 0 rfl rfl 32 (by decide) (hts (.fieldLink RX8 70 "DutyDeskModel" "cCase" "[I") (List.mem_of_getElem? (i := 1) rfl)) (fun _ h9 => h9) rfl dX8_isFellow_3 ?_
  refine lv_iload_n hx hb dX8_isFellow_6 rfl (lv_at hl 1 rfl) ?_
  obtain ⟨h_1, hf⟩ := gd_of hf
  refine va_iald hx hb hG.1 hw.1 19 1 (mw_atI (k := 19) rfl) rfl h_1 dX8_isFellow_7 ?_
  refine lv_imul hx hb dX8_isFellow_8 ?_
  refine lv_aload_n hx hb dX8_isFellow_9 rfl (lv_at hl 0 rfl) ?_
  refine va_get (D := G.1) (ci := 8) (v := .ref (a 20)) (C := RX8) (T := TX8) (N := 45) hx hb hts hin8 hown hG.1 hw.1 0 rfl rfl 33 (by decide) (hts (.fieldLink RX8 73 "DutyDeskModel" "cAccused" "[I") (List.mem_of_getElem? (i := 2) rfl)) (fun _ h9 => h9) rfl dX8_isFellow_10 ?_
  refine lv_iload_n hx hb dX8_isFellow_13 rfl (lv_at hl 1 rfl) ?_
  obtain ⟨h_2, hf⟩ := gd_of hf
  refine va_iald hx hb hG.1 hw.1 20 1 (mw_atI (k := 20) rfl) rfl h_2 dX8_isFellow_14 ?_
  refine lv_iadd hx hb dX8_isFellow_15 ?_
  refine lv_topi (fun x_3 ex_3 => ?_)
  replace hf := bnd_of ex_3 hf
  refine lv_istore_n (lv' := [(3, .int x_3), (0, .ref (a 0)), (1, .int p1), (2, .int p2)]) hx hb dX8_isFellow_16 rfl hl (by decide) rfl (fun ls hl => ?_)
  refine lv_iconst (v := 0) hx hb dX8_isFellow_17 (by decide) ?_
  refine lv_istore (lv' := [(4, .int 0), (3, .int x_3), (0, .ref (a 0)), (1, .int p1), (2, .int p2)]) hx hb dX8_isFellow_18 hl (by decide) rfl (fun ls hl => ?_)
  refine loopF_ind (body := f_X8_isFellow_L20 S p1 p2 x_3) (fun (v_4 : Int32) => ∀ (H : Heap) (locs : List Loc) (ls : Array Slot), Wd G A s H locs (mw G.2.1 a R S) → lv_has ls 5 [(0, .ref (a 0)), (1, .int p1), (2, .int p2), (3, .int x_3), (4, .int v_4)] → WQ p l e rm_X8_isFellow s m [.ref (a 0), .int p1, .int p2] below meth c G A (mw G.2.1 a R S) (some (.int r0)) 0 0 H locs 0 0 (F0 m 20 ls [])) ?_ FU 0 hf _ _ _ hw (lv_sub hl [2, 3, 4, 1, 0] rfl)
  clear hf hw hl
  intro v_4 t0_20 hf hz1_0_20 hz2_0_20 H locs ls hw hl
  rw [f_X8_isFellow_L20] at hf
  refine lv_iload hx hb dX8_isFellow_20 (lv_at hl 4 rfl) ?_
  refine lv_aload_n hx hb dX8_isFellow_22 rfl (lv_at hl 0 rfl) ?_
  refine va_get (D := G.1) (ci := 8) (v := .int (gI S 13)) (C := RX8) (T := TX8) (N := 45) hx hb hts hin8 hown hG.1 hw.1 0 rfl rfl 27 (by decide) (hts (.fieldLink RX8 231 "DutyDeskModel" "calls" "I") (List.mem_of_getElem? (i := 3) rfl)) (fun _ h9 => h9) rfl dX8_isFellow_23 ?_
  refine lv_icmp_ge (tgt := 118) hx hb dX8_isFellow_26 (by decide) (fun c_5 => ?_) (fun c_5 => ?_)
  · replace hf := if_t c_5 hf
    refine lv_iconst (v := 0) hx hb dX8_isFellow_118 (by decide) ?_
    have e_6 := Option.some.inj hf
    have e_7 := hz2_0_20 _ e_6.symm
    subst e_7
    exact wd_zret hx hb hr rfl hlocks hw dX8_isFellow_119
  · replace hf := if_f c_5 hf
    refine lv_aload_n hx hb dX8_isFellow_29 rfl (lv_at hl 0 rfl) ?_
    refine va_get (D := G.1) (ci := 8) (v := .ref (a 24)) (C := RX8) (T := TX8) (N := 45) hx hb hts hin8 hown hG.1 hw.1 0 rfl rfl 37 (by decide) (hts (.fieldLink RX8 85 "DutyDeskModel" "cTaker" "[I") (List.mem_of_getElem? (i := 4) rfl)) (fun _ h9 => h9) rfl dX8_isFellow_30 ?_
    refine lv_iload hx hb dX8_isFellow_33 (lv_at hl 4 rfl) ?_
    obtain ⟨h_8, hf⟩ := gd_of hf
    refine va_iald hx hb hG.1 hw.1 24 1 (mw_atI (k := 24) rfl) rfl h_8 dX8_isFellow_35 ?_
    refine lv_iload_n hx hb dX8_isFellow_36 rfl (lv_at hl 2 rfl) ?_
    refine lv_icmp_ne (tgt := 112) hx hb dX8_isFellow_37 (by decide) (fun c_9 => ?_) (fun c_9 => ?_)
    · replace hf := if_f c_9 hf
      obtain ⟨x_10, ex_10⟩ : ∃ z : Int32, z = v_4 + 1 := ⟨_, rfl⟩
      replace hf := bnd_of ex_10 hf
      refine lv_iinc (v := x_10) (lv' := [(4, .int x_10), (0, .ref (a 0)), (1, .int p1), (2, .int p2), (3, .int x_3)]) hx hb dX8_isFellow_112 hl (k := 4) rfl (by rw [ex_10]; rfl) (by decide) rfl (fun ls hl => ?_)
      refine lv_goto (tgt := 20) hx hb dX8_isFellow_115 (by decide) ?_
      have e_11 := Option.some.inj hf
      exact hz1_0_20 _ e_11.symm _ _ _ hw (lv_sub hl [1, 2, 3, 4, 0] rfl)
    · replace hf := if_t c_9 hf
      refine lv_aload_n hx hb dX8_isFellow_40 rfl (lv_at hl 0 rfl) ?_
      refine va_get (D := G.1) (ci := 8) (v := .ref (a 19)) (C := RX8) (T := TX8) (N := 45) hx hb hts hin8 hown hG.1 hw.1 0 rfl rfl 32 (by decide) (hts (.fieldLink RX8 70 "DutyDeskModel" "cCase" "[I") (List.mem_of_getElem? (i := 1) rfl)) (fun _ h9 => h9) rfl dX8_isFellow_41 ?_
      refine lv_iload hx hb dX8_isFellow_44 (lv_at hl 4 rfl) ?_
      obtain ⟨h_12, hf⟩ := gd_of hf
      refine va_iald hx hb hG.1 hw.1 19 1 (mw_atI (k := 19) rfl) rfl h_12 dX8_isFellow_46 ?_
      refine lv_aload_n hx hb dX8_isFellow_47 rfl (lv_at hl 0 rfl) ?_
      refine va_get (D := G.1) (ci := 8) (v := .ref (a 19)) (C := RX8) (T := TX8) (N := 45) hx hb hts hin8 hown hG.1 hw.1 0 rfl rfl 32 (by decide) (hts (.fieldLink RX8 70 "DutyDeskModel" "cCase" "[I") (List.mem_of_getElem? (i := 1) rfl)) (fun _ h9 => h9) rfl dX8_isFellow_48 ?_
      refine lv_iload_n hx hb dX8_isFellow_51 rfl (lv_at hl 1 rfl) ?_
      obtain ⟨h_13, hf⟩ := gd_of hf
      refine va_iald hx hb hG.1 hw.1 19 1 (mw_atI (k := 19) rfl) rfl h_13 dX8_isFellow_52 ?_
      refine lv_icmp_ne (tgt := 112) hx hb dX8_isFellow_53 (by decide) (fun c_14 => ?_) (fun c_14 => ?_)
      · replace hf := if_f c_14 hf
        obtain ⟨x_15, ex_15⟩ : ∃ z : Int32, z = v_4 + 1 := ⟨_, rfl⟩
        replace hf := bnd_of ex_15 hf
        refine lv_iinc (v := x_15) (lv' := [(4, .int x_15), (0, .ref (a 0)), (1, .int p1), (2, .int p2), (3, .int x_3)]) hx hb dX8_isFellow_112 hl (k := 4) rfl (by rw [ex_15]; rfl) (by decide) rfl (fun ls hl => ?_)
        refine lv_goto (tgt := 20) hx hb dX8_isFellow_115 (by decide) ?_
        have e_16 := Option.some.inj hf
        exact hz1_0_20 _ e_16.symm _ _ _ hw (lv_sub hl [1, 2, 3, 4, 0] rfl)
      · replace hf := if_t c_14 hf
        refine lv_aload_n hx hb dX8_isFellow_56 rfl (lv_at hl 0 rfl) ?_
        refine va_get (D := G.1) (ci := 8) (v := .ref (a 20)) (C := RX8) (T := TX8) (N := 45) hx hb hts hin8 hown hG.1 hw.1 0 rfl rfl 33 (by decide) (hts (.fieldLink RX8 73 "DutyDeskModel" "cAccused" "[I") (List.mem_of_getElem? (i := 2) rfl)) (fun _ h9 => h9) rfl dX8_isFellow_57 ?_
        refine lv_iload hx hb dX8_isFellow_60 (lv_at hl 4 rfl) ?_
        obtain ⟨h_17, hf⟩ := gd_of hf
        refine va_iald hx hb hG.1 hw.1 20 1 (mw_atI (k := 20) rfl) rfl h_17 dX8_isFellow_62 ?_
        refine lv_aload_n hx hb dX8_isFellow_63 rfl (lv_at hl 0 rfl) ?_
        refine va_get (D := G.1) (ci := 8) (v := .ref (a 20)) (C := RX8) (T := TX8) (N := 45) hx hb hts hin8 hown hG.1 hw.1 0 rfl rfl 33 (by decide) (hts (.fieldLink RX8 73 "DutyDeskModel" "cAccused" "[I") (List.mem_of_getElem? (i := 2) rfl)) (fun _ h9 => h9) rfl dX8_isFellow_64 ?_
        refine lv_iload_n hx hb dX8_isFellow_67 rfl (lv_at hl 1 rfl) ?_
        obtain ⟨h_18, hf⟩ := gd_of hf
        refine va_iald hx hb hG.1 hw.1 20 1 (mw_atI (k := 20) rfl) rfl h_18 dX8_isFellow_68 ?_
        refine lv_icmp_ne (tgt := 75) hx hb dX8_isFellow_69 (by decide) (fun c_19 => ?_) (fun c_19 => ?_)
        · replace hf := if_f c_19 hf
          refine lv_aload_n hx hb dX8_isFellow_75 rfl (lv_at hl 0 rfl) ?_
          refine va_get (D := G.1) (ci := 8) (v := .ref (a 31)) (C := RX8) (T := TX8) (N := 45) hx hb hts hin8 hown hG.1 hw.1 0 rfl rfl 44 (by decide) (hts (.fieldLink RX8 106 "DutyDeskModel" "isWaived" "[Z") (List.mem_of_getElem? (i := 5) rfl)) (fun _ h9 => h9) rfl dX8_isFellow_76 ?_
          refine lv_iload_n hx hb dX8_isFellow_79 rfl (lv_at hl 3 rfl) ?_
          obtain ⟨h_20, hf⟩ := gd_of hf
          refine va_zald hx hb hG.1 hw.1 31 3 (mw_atZ (k := 31) rfl) rfl h_20 dX8_isFellow_80 ?_
          refine lv_if_ne (tgt := 112) hx hb dX8_isFellow_81 (by decide) (fun c_21 => ?_) (fun c_21 => ?_)
          · replace hf := if_f c_21 hf
            obtain ⟨x_22, ex_22⟩ : ∃ z : Int32, z = v_4 + 1 := ⟨_, rfl⟩
            replace hf := bnd_of ex_22 hf
            refine lv_iinc (v := x_22) (lv' := [(4, .int x_22), (0, .ref (a 0)), (1, .int p1), (2, .int p2), (3, .int x_3)]) hx hb dX8_isFellow_112 hl (k := 4) rfl (by rw [ex_22]; rfl) (by decide) rfl (fun ls hl => ?_)
            refine lv_goto (tgt := 20) hx hb dX8_isFellow_115 (by decide) ?_
            have e_23 := Option.some.inj hf
            exact hz1_0_20 _ e_23.symm _ _ _ hw (lv_sub hl [1, 2, 3, 4, 0] rfl)
          · replace hf := if_t c_21 hf
            refine lv_aload_n hx hb dX8_isFellow_84 rfl (lv_at hl 0 rfl) ?_
            refine va_get (D := G.1) (ci := 8) (v := .ref (a 31)) (C := RX8) (T := TX8) (N := 45) hx hb hts hin8 hown hG.1 hw.1 0 rfl rfl 44 (by decide) (hts (.fieldLink RX8 106 "DutyDeskModel" "isWaived" "[Z") (List.mem_of_getElem? (i := 5) rfl)) (fun _ h9 => h9) rfl dX8_isFellow_85 ?_
            refine lv_bipush (v := 10) hx hb dX8_isFellow_88 (by decide) ?_
            refine lv_aload_n hx hb dX8_isFellow_90 rfl (lv_at hl 0 rfl) ?_
            refine va_get (D := G.1) (ci := 8) (v := .ref (a 19)) (C := RX8) (T := TX8) (N := 45) hx hb hts hin8 hown hG.1 hw.1 0 rfl rfl 32 (by decide) (hts (.fieldLink RX8 70 "DutyDeskModel" "cCase" "[I") (List.mem_of_getElem? (i := 1) rfl)) (fun _ h9 => h9) rfl dX8_isFellow_91 ?_
            refine lv_iload hx hb dX8_isFellow_94 (lv_at hl 4 rfl) ?_
            obtain ⟨h_24, hf⟩ := gd_of hf
            refine va_iald hx hb hG.1 hw.1 19 1 (mw_atI (k := 19) rfl) rfl h_24 dX8_isFellow_96 ?_
            refine lv_imul hx hb dX8_isFellow_97 ?_
            refine lv_aload_n hx hb dX8_isFellow_98 rfl (lv_at hl 0 rfl) ?_
            refine va_get (D := G.1) (ci := 8) (v := .ref (a 20)) (C := RX8) (T := TX8) (N := 45) hx hb hts hin8 hown hG.1 hw.1 0 rfl rfl 33 (by decide) (hts (.fieldLink RX8 73 "DutyDeskModel" "cAccused" "[I") (List.mem_of_getElem? (i := 2) rfl)) (fun _ h9 => h9) rfl dX8_isFellow_99 ?_
            refine lv_iload hx hb dX8_isFellow_102 (lv_at hl 4 rfl) ?_
            obtain ⟨h_25, hf⟩ := gd_of hf
            refine va_iald hx hb hG.1 hw.1 20 1 (mw_atI (k := 20) rfl) rfl h_25 dX8_isFellow_104 ?_
            refine lv_iadd hx hb dX8_isFellow_105 ?_
            obtain ⟨h_26, hf⟩ := gd_of hf
            refine va_zald hx hb hG.1 hw.1 31 3 (mw_atZ (k := 31) rfl) rfl h_26 dX8_isFellow_106 ?_
            refine lv_if_ne (tgt := 112) hx hb dX8_isFellow_107 (by decide) (fun c_27 => ?_) (fun c_27 => ?_)
            · replace hf := if_f c_27 hf
              obtain ⟨x_28, ex_28⟩ : ∃ z : Int32, z = v_4 + 1 := ⟨_, rfl⟩
              replace hf := bnd_of ex_28 hf
              refine lv_iinc (v := x_28) (lv' := [(4, .int x_28), (0, .ref (a 0)), (1, .int p1), (2, .int p2), (3, .int x_3)]) hx hb dX8_isFellow_112 hl (k := 4) rfl (by rw [ex_28]; rfl) (by decide) rfl (fun ls hl => ?_)
              refine lv_goto (tgt := 20) hx hb dX8_isFellow_115 (by decide) ?_
              have e_29 := Option.some.inj hf
              exact hz1_0_20 _ e_29.symm _ _ _ hw (lv_sub hl [1, 2, 3, 4, 0] rfl)
            · replace hf := if_t c_27 hf
              refine lv_iconst (v := 1) hx hb dX8_isFellow_110 (by decide) ?_
              have e_30 := Option.some.inj hf
              have e_31 := hz2_0_20 _ e_30.symm
              subst e_31
              exact wd_zret hx hb hr rfl hlocks hw dX8_isFellow_111
        · replace hf := if_t c_19 hf
          refine lv_goto (tgt := 112) hx hb dX8_isFellow_72 (by decide) ?_
          obtain ⟨x_32, ex_32⟩ : ∃ z : Int32, z = v_4 + 1 := ⟨_, rfl⟩
          replace hf := bnd_of ex_32 hf
          refine lv_iinc (v := x_32) (lv' := [(4, .int x_32), (0, .ref (a 0)), (1, .int p1), (2, .int p2), (3, .int x_3)]) hx hb dX8_isFellow_112 hl (k := 4) rfl (by rw [ex_32]; rfl) (by decide) rfl (fun ls hl => ?_)
          refine lv_goto (tgt := 20) hx hb dX8_isFellow_115 (by decide) ?_
          have e_33 := Option.some.inj hf
          exact hz1_0_20 _ e_33.symm _ _ _ hw (lv_sub hl [1, 2, 3, 4, 0] rfl)
/-! DutyDeskModel.barsOf(II)I -/
def rm_X8_barsOf : Room := { frames := 3, cells := 0, slots := 0, locals := 64 }
def f_X8_barsOf_J198 (S : St) (y_1 : Int32) (y_2 : Int32) (y_3 : Int32) (y_4 : Int32) : Option (Int32) :=
  (if (y_3 &&& 4) = 0 then
    some (y_4)
  else
    gd y_2 24 (gd y_1 150 ((if (gM S 5 y_2.toNatClampNeg) = (gM S 17 y_1.toNatClampNeg) then
    bnd (y_4 ||| 64) fun x_11 => some (x_11)
  else
    some (y_4)))))
def f_X8_barsOf_J166 (S : St) (y_13 : Int32) (y_14 : Int32) (y_15 : Int32) (y_16 : Int32) : Option (Int32) :=
  (if (y_15 &&& 2) = 0 then
    f_X8_barsOf_J198 S y_13 y_14 y_15 y_16
  else
    gd y_13 150 (gd ((100 * y_14) + (gM S 19 y_13.toNatClampNeg)) 2400 ((if (gM S 30 ((100 * y_14) + (gM S 19 y_13.toNatClampNeg)).toNatClampNeg) = 0 then
    f_X8_barsOf_J198 S y_13 y_14 y_15 y_16
  else
    bnd (y_16 ||| 32) fun x_21 => f_X8_barsOf_J198 S y_13 y_14 y_15 x_21))))
def f_X8_barsOf_J144 (S : St) (y_22 : Int32) (y_23 : Int32) (y_24 : Int32) (y_25 : Int32) : Option (Int32) :=
  (if (y_24 &&& 1) = 0 then
    f_X8_barsOf_J166 S y_22 y_23 y_24 y_25
  else
    (f_X8_isFellow S y_22 y_23).bind (fun r_28 => (if r_28 = 0 then
    f_X8_barsOf_J166 S y_22 y_23 y_24 y_25
  else
    bnd (y_25 ||| 16) fun x_30 => f_X8_barsOf_J166 S y_22 y_23 y_24 x_30)))
def f_X8_barsOf_J112 (S : St) (y_31 : Int32) (y_32 : Int32) (y_33 : Int32) (y_34 : Int32) : Option (Int32) :=
  gd y_32 24 (gd y_31 150 (gd ((10 * (gM S 5 y_32.toNatClampNeg)) + (gM S 17 y_31.toNatClampNeg)) 100 ((if (gM S 10 ((10 * (gM S 5 y_32.toNatClampNeg)) + (gM S 17 y_31.toNatClampNeg)).toNatClampNeg) = (-1) then
    bnd (y_34 ||| 8) fun x_39 => f_X8_barsOf_J144 S y_31 y_32 y_33 x_39
  else
    f_X8_barsOf_J144 S y_31 y_32 y_33 y_34))))
def f_X8_barsOf_J78 (S : St) (y_40 : Int32) (y_41 : Int32) (y_42 : Int32) (y_43 : Int32) : Option (Int32) :=
  gd y_40 150 ((if (gM S 18 y_40.toNatClampNeg) = (-1) then
    f_X8_barsOf_J112 S y_40 y_41 y_42 y_43
  else
    gd y_41 24 (gd y_40 150 ((if (((gM S 7 y_41.toNatClampNeg) >>> ((gM S 18 y_40.toNatClampNeg) &&& 31)) &&& 1) = 0 then
    bnd (y_43 ||| 4) fun x_49 => f_X8_barsOf_J112 S y_40 y_41 y_42 x_49
  else
    f_X8_barsOf_J112 S y_40 y_41 y_42 y_43)))))
def f_X8_barsOf_J72 (S : St) (y_50 : Int32) (y_51 : Int32) (y_52 : Int32) (y_53 : Int32) : Option (Int32) :=
  bnd (y_53 ||| 2) fun x_54 => f_X8_barsOf_J78 S y_50 y_51 y_52 x_54
def f_X8_barsOf_J36 (S : St) (y_55 : Int32) (y_56 : Int32) (y_57 : Int32) (z_58 : Int32) : Option (Int32) :=
  gd y_55 150 ((f_X8_isStruck S y_56 (gM S 15 y_55.toNatClampNeg)).bind (fun r_61 => (if r_61 = 0 then
    gd y_55 150 (gd ((1000 * y_56) + (gM S 15 y_55.toNatClampNeg)) 24000 ((if (gM S 9 ((1000 * y_56) + (gM S 15 y_55.toNatClampNeg)).toNatClampNeg) = 0 then
    f_X8_barsOf_J78 S y_55 y_56 y_57 z_58
  else
    f_X8_barsOf_J72 S y_55 y_56 y_57 z_58)))
  else
    f_X8_barsOf_J72 S y_55 y_56 y_57 z_58)))
def f_X8_barsOf (S : St) (p1 : Int32) (p2 : Int32) : Option (Int32) :=
  gd p1 150 ((f_X8_now S (gM S 15 p1.toNatClampNeg) 10).bind (fun r_68 => gd p2 24 (gd p1 150 ((if (((gM S 6 p2.toNatClampNeg) >>> ((gM S 16 p1.toNatClampNeg) &&& 31)) &&& 1) = 0 then
    f_X8_barsOf_J36 S p1 p2 r_68 1
  else
    f_X8_barsOf_J36 S p1 p2 r_68 0)))))
set_option maxHeartbeats 4000000 in
set_option maxRecDepth 100000 in
theorem c_X8_barsOf (G : GP) (l : Launch) (a : Nat → Nat) (R : va_W) (S : St) (p1 : Int32) (p2 : Int32) (r0 : Int32) (hf : f_X8_barsOf S p1 p2 = some r0) : MC G l yX8_barsOf wsX8_barsOf rm_X8_barsOf [.ref (a 0), .int p1, .int p2] (mw G.2.1 a R S) (mw G.2.1 a R S) (some (.int r0)) 0 0 := by
  refine MC.mk (cc := cX8_barsOf) (maxL := 5) (ret := (some .int)) (by decide) rfl (Nat.le_of_ble_eq_true rfl) ?_
  intro p e s m below meth c A ls ⟨hx, hb, hr, hml, hown, hlocks, _, hts⟩ hw hG hA hl
  have hl : lv_has ls 5 [(0, .ref (a 0)), (1, .int p1), (2, .int p2)] := hl
  have hin8 : ∀ w ∈ u_ws RX8 TX8 45, w ∈ wsX8_barsOf := by decide +kernel
  rw [f_X8_barsOf] at hf
  have j198 : ∀ (y_1 : Int32) (y_2 : Int32) (y_3 : Int32) (y_4 : Int32) (H : Heap) (locs : List Loc) (ls : Array Slot), f_X8_barsOf_J198 S y_1 y_2 y_3 y_4 = some r0 → Wd G A s H locs (mw G.2.1 a R S) → lv_has ls 5 [(0, .ref (a 0)), (1, .int y_1), (2, .int y_2), (3, .int y_3), (4, .int y_4)] → WQ p l e rm_X8_barsOf s m [.ref (a 0), .int p1, .int p2] below meth c G A (mw G.2.1 a R S) (some (.int r0)) 0 0 H locs 0 0 (F0 m 198 ls []) := by
    intro y_1 y_2 y_3 y_4 H locs ls hf hw hl
    rw [f_X8_barsOf_J198] at hf
    refine lv_iload_n hx hb dX8_barsOf_198 rfl (lv_at hl 3 rfl) ?_
    refine lv_iconst (v := 4) hx hb dX8_barsOf_199 (by decide) ?_
    refine lv_iand hx hb dX8_barsOf_200 ?_
    refine lv_if_eq (tgt := 226) hx hb dX8_barsOf_201 (by decide) (fun c_5 => ?_) (fun c_5 => ?_)
    · replace hf := if_t c_5 hf
      refine lv_iload hx hb dX8_barsOf_226 (lv_at hl 4 rfl) ?_
      have e_6 := Option.some.inj hf
      subst e_6
      exact wd_iret hx hb hr hlocks hw dX8_barsOf_228
    · replace hf := if_f c_5 hf
      refine lv_aload_n hx hb dX8_barsOf_204 rfl (lv_at hl 0 rfl) ?_
      refine va_get (D := G.1) (ci := 8) (v := .ref (a 5)) (C := RX8) (T := TX8) (N := 45) hx hb hts hin8 hown hG.1 hw.1 0 rfl rfl 15 (by decide) (hts (.fieldLink RX8 28 "DutyDeskModel" "town" "[I") (List.mem_of_getElem? (i := 8) rfl)) (fun _ h9 => h9) rfl dX8_barsOf_205 ?_
      refine lv_iload_n hx hb dX8_barsOf_208 rfl (lv_at hl 2 rfl) ?_
      obtain ⟨h_7, hf⟩ := gd_of hf
      refine va_iald hx hb hG.1 hw.1 5 1 (mw_atI (k := 5) rfl) rfl h_7 dX8_barsOf_209 ?_
      refine lv_aload_n hx hb dX8_barsOf_210 rfl (lv_at hl 0 rfl) ?_
      refine va_get (D := G.1) (ci := 8) (v := .ref (a 17)) (C := RX8) (T := TX8) (N := 45) hx hb hts hin8 hown hG.1 hw.1 0 rfl rfl 30 (by decide) (hts (.fieldLink RX8 64 "DutyDeskModel" "cTown" "[I") (List.mem_of_getElem? (i := 9) rfl)) (fun _ h9 => h9) rfl dX8_barsOf_211 ?_
      refine lv_iload_n hx hb dX8_barsOf_214 rfl (lv_at hl 1 rfl) ?_
      obtain ⟨h_8, hf⟩ := gd_of hf
      refine va_iald hx hb hG.1 hw.1 17 1 (mw_atI (k := 17) rfl) rfl h_8 dX8_barsOf_215 ?_
      refine lv_icmp_ne (tgt := 226) hx hb dX8_barsOf_216 (by decide) (fun c_9 => ?_) (fun c_9 => ?_)
      · replace hf := if_f c_9 hf
        refine lv_iload hx hb dX8_barsOf_226 (lv_at hl 4 rfl) ?_
        have e_10 := Option.some.inj hf
        subst e_10
        exact wd_iret hx hb hr hlocks hw dX8_barsOf_228
      · replace hf := if_t c_9 hf
        refine lv_iload hx hb dX8_barsOf_219 (lv_at hl 4 rfl) ?_
        refine lv_bipush (v := 64) hx hb dX8_barsOf_221 (by decide) ?_
        refine lv_ior hx hb dX8_barsOf_223 ?_
        refine lv_topi (fun x_11 ex_11 => ?_)
        replace hf := bnd_of ex_11 hf
        refine lv_istore (lv' := [(4, .int x_11), (0, .ref (a 0)), (1, .int y_1), (2, .int y_2), (3, .int y_3)]) hx hb dX8_barsOf_224 hl (by decide) rfl (fun ls hl => ?_)
        refine lv_iload hx hb dX8_barsOf_226 (lv_at hl 0 rfl) ?_
        have e_12 := Option.some.inj hf
        subst e_12
        exact wd_iret hx hb hr hlocks hw dX8_barsOf_228
  have j166 : ∀ (y_13 : Int32) (y_14 : Int32) (y_15 : Int32) (y_16 : Int32) (H : Heap) (locs : List Loc) (ls : Array Slot), f_X8_barsOf_J166 S y_13 y_14 y_15 y_16 = some r0 → Wd G A s H locs (mw G.2.1 a R S) → lv_has ls 5 [(0, .ref (a 0)), (1, .int y_13), (2, .int y_14), (3, .int y_15), (4, .int y_16)] → WQ p l e rm_X8_barsOf s m [.ref (a 0), .int p1, .int p2] below meth c G A (mw G.2.1 a R S) (some (.int r0)) 0 0 H locs 0 0 (F0 m 166 ls []) := by
    intro y_13 y_14 y_15 y_16 H locs ls hf hw hl
    rw [f_X8_barsOf_J166] at hf
    refine lv_iload_n hx hb dX8_barsOf_166 rfl (lv_at hl 3 rfl) ?_
    refine lv_iconst (v := 2) hx hb dX8_barsOf_167 (by decide) ?_
    refine lv_iand hx hb dX8_barsOf_168 ?_
    refine lv_if_eq (tgt := 198) hx hb dX8_barsOf_169 (by decide) (fun c_17 => ?_) (fun c_17 => ?_)
    · replace hf := if_t c_17 hf
      exact j198 y_13 y_14 y_15 y_16 _ _ _ hf hw (lv_sub hl [0, 1, 2, 3, 4] rfl)
    · replace hf := if_f c_17 hf
      refine lv_aload_n hx hb dX8_barsOf_172 rfl (lv_at hl 0 rfl) ?_
      refine va_get (D := G.1) (ci := 8) (v := .ref (a 30)) (C := RX8) (T := TX8) (N := 45) hx hb hts hin8 hown hG.1 hw.1 0 rfl rfl 43 (by decide) (hts (.fieldLink RX8 103 "DutyDeskModel" "isAgainst" "[Z") (List.mem_of_getElem? (i := 10) rfl)) (fun _ h9 => h9) rfl dX8_barsOf_173 ?_
      refine lv_bipush (v := 100) hx hb dX8_barsOf_176 (by decide) ?_
      refine lv_iload_n hx hb dX8_barsOf_178 rfl (lv_at hl 2 rfl) ?_
      refine lv_imul hx hb dX8_barsOf_179 ?_
      refine lv_aload_n hx hb dX8_barsOf_180 rfl (lv_at hl 0 rfl) ?_
      refine va_get (D := G.1) (ci := 8) (v := .ref (a 19)) (C := RX8) (T := TX8) (N := 45) hx hb hts hin8 hown hG.1 hw.1 0 rfl rfl 32 (by decide) (hts (.fieldLink RX8 70 "DutyDeskModel" "cCase" "[I") (List.mem_of_getElem? (i := 11) rfl)) (fun _ h9 => h9) rfl dX8_barsOf_181 ?_
      refine lv_iload_n hx hb dX8_barsOf_184 rfl (lv_at hl 1 rfl) ?_
      obtain ⟨h_18, hf⟩ := gd_of hf
      refine va_iald hx hb hG.1 hw.1 19 1 (mw_atI (k := 19) rfl) rfl h_18 dX8_barsOf_185 ?_
      refine lv_iadd hx hb dX8_barsOf_186 ?_
      obtain ⟨h_19, hf⟩ := gd_of hf
      refine va_zald hx hb hG.1 hw.1 30 3 (mw_atZ (k := 30) rfl) rfl h_19 dX8_barsOf_187 ?_
      refine lv_if_eq (tgt := 198) hx hb dX8_barsOf_188 (by decide) (fun c_20 => ?_) (fun c_20 => ?_)
      · replace hf := if_t c_20 hf
        exact j198 y_13 y_14 y_15 y_16 _ _ _ hf hw (lv_sub hl [0, 1, 2, 3, 4] rfl)
      · replace hf := if_f c_20 hf
        refine lv_iload hx hb dX8_barsOf_191 (lv_at hl 4 rfl) ?_
        refine lv_bipush (v := 32) hx hb dX8_barsOf_193 (by decide) ?_
        refine lv_ior hx hb dX8_barsOf_195 ?_
        refine lv_topi (fun x_21 ex_21 => ?_)
        replace hf := bnd_of ex_21 hf
        refine lv_istore (lv' := [(4, .int x_21), (0, .ref (a 0)), (1, .int y_13), (2, .int y_14), (3, .int y_15)]) hx hb dX8_barsOf_196 hl (by decide) rfl (fun ls hl => ?_)
        exact j198 y_13 y_14 y_15 x_21 _ _ _ hf hw (lv_sub hl [1, 2, 3, 4, 0] rfl)
  have j144 : ∀ (y_22 : Int32) (y_23 : Int32) (y_24 : Int32) (y_25 : Int32) (H : Heap) (locs : List Loc) (ls : Array Slot), f_X8_barsOf_J144 S y_22 y_23 y_24 y_25 = some r0 → Wd G A s H locs (mw G.2.1 a R S) → lv_has ls 5 [(0, .ref (a 0)), (1, .int y_22), (2, .int y_23), (3, .int y_24), (4, .int y_25)] → WQ p l e rm_X8_barsOf s m [.ref (a 0), .int p1, .int p2] below meth c G A (mw G.2.1 a R S) (some (.int r0)) 0 0 H locs 0 0 (F0 m 144 ls []) := by
    intro y_22 y_23 y_24 y_25 H locs ls hf hw hl
    rw [f_X8_barsOf_J144] at hf
    refine lv_iload_n hx hb dX8_barsOf_144 rfl (lv_at hl 3 rfl) ?_
    refine lv_iconst (v := 1) hx hb dX8_barsOf_145 (by decide) ?_
    refine lv_iand hx hb dX8_barsOf_146 ?_
    refine lv_if_eq (tgt := 166) hx hb dX8_barsOf_147 (by decide) (fun c_26 => ?_) (fun c_26 => ?_)
    · replace hf := if_t c_26 hf
      exact j166 y_22 y_23 y_24 y_25 _ _ _ hf hw (lv_sub hl [0, 1, 2, 3, 4] rfl)
    · replace hf := if_f c_26 hf
      refine lv_aload_n hx hb dX8_barsOf_150 rfl (lv_at hl 0 rfl) ?_
      refine lv_iload_n hx hb dX8_barsOf_151 rfl (lv_at hl 1 rfl) ?_
      refine lv_iload_n hx hb dX8_barsOf_152 rfl (lv_at hl 2 rfl) ?_
      obtain ⟨r_28, h_27, hf⟩ := bind_of hf
      refine cV (As := [.int y_22, .int y_23]) (rest := []) ⟨hx, hb, hml, hown, hts⟩ hG hA hw (c_X8_isFellow G l a R S y_22 y_23 r_28 h_27) (cwV 2 hts gX8_barsOf_X8_isFellow rfl rfl rfl (by decide +kernel) ⟨Nat.le_of_ble_eq_true rfl, Nat.le_of_ble_eq_true rfl⟩) (va_recv hG.1 hw.1 (ci := 8) (q0 := 0) rfl rfl) rfl hl.1 rfl (Nat.le_of_ble_eq_true rfl) dX8_barsOf_153 ⟨Nat.zero_le _, Nat.zero_le _⟩ (fun H locs hw => ?_)
      refine lv_if_eq (tgt := 166) hx hb dX8_barsOf_156 (by decide) (fun c_29 => ?_) (fun c_29 => ?_)
      · replace hf := if_t c_29 hf
        exact j166 y_22 y_23 y_24 y_25 _ _ _ hf hw (lv_sub hl [0, 1, 2, 3, 4] rfl)
      · replace hf := if_f c_29 hf
        refine lv_iload hx hb dX8_barsOf_159 (lv_at hl 4 rfl) ?_
        refine lv_bipush (v := 16) hx hb dX8_barsOf_161 (by decide) ?_
        refine lv_ior hx hb dX8_barsOf_163 ?_
        refine lv_topi (fun x_30 ex_30 => ?_)
        replace hf := bnd_of ex_30 hf
        refine lv_istore (lv' := [(4, .int x_30), (0, .ref (a 0)), (1, .int y_22), (2, .int y_23), (3, .int y_24)]) hx hb dX8_barsOf_164 hl (by decide) rfl (fun ls hl => ?_)
        exact j166 y_22 y_23 y_24 x_30 _ _ _ hf hw (lv_sub hl [1, 2, 3, 4, 0] rfl)
  have j112 : ∀ (y_31 : Int32) (y_32 : Int32) (y_33 : Int32) (y_34 : Int32) (H : Heap) (locs : List Loc) (ls : Array Slot), f_X8_barsOf_J112 S y_31 y_32 y_33 y_34 = some r0 → Wd G A s H locs (mw G.2.1 a R S) → lv_has ls 5 [(0, .ref (a 0)), (1, .int y_31), (2, .int y_32), (3, .int y_33), (4, .int y_34)] → WQ p l e rm_X8_barsOf s m [.ref (a 0), .int p1, .int p2] below meth c G A (mw G.2.1 a R S) (some (.int r0)) 0 0 H locs 0 0 (F0 m 112 ls []) := by
    intro y_31 y_32 y_33 y_34 H locs ls hf hw hl
    rw [f_X8_barsOf_J112] at hf
    refine lv_aload_n hx hb dX8_barsOf_112 rfl (lv_at hl 0 rfl) ?_
    refine va_get (D := G.1) (ci := 8) (v := .ref (a 10)) (C := RX8) (T := TX8) (N := 45) hx hb hts hin8 hown hG.1 hw.1 0 rfl rfl 20 (by decide) (hts (.fieldLink RX8 43 "DutyDeskModel" "travel" "[I") (List.mem_of_getElem? (i := 7) rfl)) (fun _ h9 => h9) rfl dX8_barsOf_113 ?_
    refine lv_bipush (v := 10) hx hb dX8_barsOf_116 (by decide) ?_
    refine lv_aload_n hx hb dX8_barsOf_118 rfl (lv_at hl 0 rfl) ?_
    refine va_get (D := G.1) (ci := 8) (v := .ref (a 5)) (C := RX8) (T := TX8) (N := 45) hx hb hts hin8 hown hG.1 hw.1 0 rfl rfl 15 (by decide) (hts (.fieldLink RX8 28 "DutyDeskModel" "town" "[I") (List.mem_of_getElem? (i := 8) rfl)) (fun _ h9 => h9) rfl dX8_barsOf_119 ?_
    refine lv_iload_n hx hb dX8_barsOf_122 rfl (lv_at hl 2 rfl) ?_
    obtain ⟨h_35, hf⟩ := gd_of hf
    refine va_iald hx hb hG.1 hw.1 5 1 (mw_atI (k := 5) rfl) rfl h_35 dX8_barsOf_123 ?_
    refine lv_imul hx hb dX8_barsOf_124 ?_
    refine lv_aload_n hx hb dX8_barsOf_125 rfl (lv_at hl 0 rfl) ?_
    refine va_get (D := G.1) (ci := 8) (v := .ref (a 17)) (C := RX8) (T := TX8) (N := 45) hx hb hts hin8 hown hG.1 hw.1 0 rfl rfl 30 (by decide) (hts (.fieldLink RX8 64 "DutyDeskModel" "cTown" "[I") (List.mem_of_getElem? (i := 9) rfl)) (fun _ h9 => h9) rfl dX8_barsOf_126 ?_
    refine lv_iload_n hx hb dX8_barsOf_129 rfl (lv_at hl 1 rfl) ?_
    obtain ⟨h_36, hf⟩ := gd_of hf
    refine va_iald hx hb hG.1 hw.1 17 1 (mw_atI (k := 17) rfl) rfl h_36 dX8_barsOf_130 ?_
    refine lv_iadd hx hb dX8_barsOf_131 ?_
    obtain ⟨h_37, hf⟩ := gd_of hf
    refine va_iald hx hb hG.1 hw.1 10 1 (mw_atI (k := 10) rfl) rfl h_37 dX8_barsOf_132 ?_
    refine lv_iconst (v := (-1)) hx hb dX8_barsOf_133 (by decide) ?_
    refine lv_icmp_ne (tgt := 144) hx hb dX8_barsOf_134 (by decide) (fun c_38 => ?_) (fun c_38 => ?_)
    · replace hf := if_f c_38 hf
      exact j144 y_31 y_32 y_33 y_34 _ _ _ hf hw (lv_sub hl [0, 1, 2, 3, 4] rfl)
    · replace hf := if_t c_38 hf
      refine lv_iload hx hb dX8_barsOf_137 (lv_at hl 4 rfl) ?_
      refine lv_bipush (v := 8) hx hb dX8_barsOf_139 (by decide) ?_
      refine lv_ior hx hb dX8_barsOf_141 ?_
      refine lv_topi (fun x_39 ex_39 => ?_)
      replace hf := bnd_of ex_39 hf
      refine lv_istore (lv' := [(4, .int x_39), (0, .ref (a 0)), (1, .int y_31), (2, .int y_32), (3, .int y_33)]) hx hb dX8_barsOf_142 hl (by decide) rfl (fun ls hl => ?_)
      exact j144 y_31 y_32 y_33 x_39 _ _ _ hf hw (lv_sub hl [1, 2, 3, 4, 0] rfl)
  have j78 : ∀ (y_40 : Int32) (y_41 : Int32) (y_42 : Int32) (y_43 : Int32) (H : Heap) (locs : List Loc) (ls : Array Slot), f_X8_barsOf_J78 S y_40 y_41 y_42 y_43 = some r0 → Wd G A s H locs (mw G.2.1 a R S) → lv_has ls 5 [(0, .ref (a 0)), (1, .int y_40), (2, .int y_41), (3, .int y_42), (4, .int y_43)] → WQ p l e rm_X8_barsOf s m [.ref (a 0), .int p1, .int p2] below meth c G A (mw G.2.1 a R S) (some (.int r0)) 0 0 H locs 0 0 (F0 m 78 ls []) := by
    intro y_40 y_41 y_42 y_43 H locs ls hf hw hl
    rw [f_X8_barsOf_J78] at hf
    refine lv_aload_n hx hb dX8_barsOf_78 rfl (lv_at hl 0 rfl) ?_
    refine va_get (D := G.1) (ci := 8) (v := .ref (a 18)) (C := RX8) (T := TX8) (N := 45) hx hb hts hin8 hown hG.1 hw.1 0 rfl rfl 31 (by decide) (hts (.fieldLink RX8 67 "DutyDeskModel" "cTongue" "[I") (List.mem_of_getElem? (i := 5) rfl)) (fun _ h9 => h9) rfl dX8_barsOf_79 ?_
    refine lv_iload_n hx hb dX8_barsOf_82 rfl (lv_at hl 1 rfl) ?_
    obtain ⟨h_44, hf⟩ := gd_of hf
    refine va_iald hx hb hG.1 hw.1 18 1 (mw_atI (k := 18) rfl) rfl h_44 dX8_barsOf_83 ?_
    refine lv_iconst (v := (-1)) hx hb dX8_barsOf_84 (by decide) ?_
    refine lv_icmp_eq (tgt := 112) hx hb dX8_barsOf_85 (by decide) (fun c_45 => ?_) (fun c_45 => ?_)
    · replace hf := if_t c_45 hf
      exact j112 y_40 y_41 y_42 y_43 _ _ _ hf hw (lv_sub hl [0, 1, 2, 3, 4] rfl)
    · replace hf := if_f c_45 hf
      refine lv_aload_n hx hb dX8_barsOf_88 rfl (lv_at hl 0 rfl) ?_
      refine va_get (D := G.1) (ci := 8) (v := .ref (a 7)) (C := RX8) (T := TX8) (N := 45) hx hb hts hin8 hown hG.1 hw.1 0 rfl rfl 17 (by decide) (hts (.fieldLink RX8 34 "DutyDeskModel" "tongues" "[I") (List.mem_of_getElem? (i := 6) rfl)) (fun _ h9 => h9) rfl dX8_barsOf_89 ?_
      refine lv_iload_n hx hb dX8_barsOf_92 rfl (lv_at hl 2 rfl) ?_
      obtain ⟨h_46, hf⟩ := gd_of hf
      refine va_iald hx hb hG.1 hw.1 7 1 (mw_atI (k := 7) rfl) rfl h_46 dX8_barsOf_93 ?_
      refine lv_aload_n hx hb dX8_barsOf_94 rfl (lv_at hl 0 rfl) ?_
      refine va_get (D := G.1) (ci := 8) (v := .ref (a 18)) (C := RX8) (T := TX8) (N := 45) hx hb hts hin8 hown hG.1 hw.1 0 rfl rfl 31 (by decide) (hts (.fieldLink RX8 67 "DutyDeskModel" "cTongue" "[I") (List.mem_of_getElem? (i := 5) rfl)) (fun _ h9 => h9) rfl dX8_barsOf_95 ?_
      refine lv_iload_n hx hb dX8_barsOf_98 rfl (lv_at hl 1 rfl) ?_
      obtain ⟨h_47, hf⟩ := gd_of hf
      refine va_iald hx hb hG.1 hw.1 18 1 (mw_atI (k := 18) rfl) rfl h_47 dX8_barsOf_99 ?_
      refine lv_ishr hx hb dX8_barsOf_100 ?_
      refine lv_iconst (v := 1) hx hb dX8_barsOf_101 (by decide) ?_
      refine lv_iand hx hb dX8_barsOf_102 ?_
      refine lv_if_ne (tgt := 112) hx hb dX8_barsOf_103 (by decide) (fun c_48 => ?_) (fun c_48 => ?_)
      · replace hf := if_f c_48 hf
        exact j112 y_40 y_41 y_42 y_43 _ _ _ hf hw (lv_sub hl [0, 1, 2, 3, 4] rfl)
      · replace hf := if_t c_48 hf
        refine lv_iload hx hb dX8_barsOf_106 (lv_at hl 4 rfl) ?_
        refine lv_iconst (v := 4) hx hb dX8_barsOf_108 (by decide) ?_
        refine lv_ior hx hb dX8_barsOf_109 ?_
        refine lv_topi (fun x_49 ex_49 => ?_)
        replace hf := bnd_of ex_49 hf
        refine lv_istore (lv' := [(4, .int x_49), (0, .ref (a 0)), (1, .int y_40), (2, .int y_41), (3, .int y_42)]) hx hb dX8_barsOf_110 hl (by decide) rfl (fun ls hl => ?_)
        exact j112 y_40 y_41 y_42 x_49 _ _ _ hf hw (lv_sub hl [1, 2, 3, 4, 0] rfl)
  have j72 : ∀ (y_50 : Int32) (y_51 : Int32) (y_52 : Int32) (y_53 : Int32) (H : Heap) (locs : List Loc) (ls : Array Slot), f_X8_barsOf_J72 S y_50 y_51 y_52 y_53 = some r0 → Wd G A s H locs (mw G.2.1 a R S) → lv_has ls 5 [(0, .ref (a 0)), (1, .int y_50), (2, .int y_51), (3, .int y_52), (4, .int y_53)] → WQ p l e rm_X8_barsOf s m [.ref (a 0), .int p1, .int p2] below meth c G A (mw G.2.1 a R S) (some (.int r0)) 0 0 H locs 0 0 (F0 m 72 ls []) := by
    intro y_50 y_51 y_52 y_53 H locs ls hf hw hl
    rw [f_X8_barsOf_J72] at hf
    refine lv_iload hx hb dX8_barsOf_72 (lv_at hl 4 rfl) ?_
    refine lv_iconst (v := 2) hx hb dX8_barsOf_74 (by decide) ?_
    refine lv_ior hx hb dX8_barsOf_75 ?_
    refine lv_topi (fun x_54 ex_54 => ?_)
    replace hf := bnd_of ex_54 hf
    refine lv_istore (lv' := [(4, .int x_54), (0, .ref (a 0)), (1, .int y_50), (2, .int y_51), (3, .int y_52)]) hx hb dX8_barsOf_76 hl (by decide) rfl (fun ls hl => ?_)
    exact j78 y_50 y_51 y_52 x_54 _ _ _ hf hw (lv_sub hl [1, 2, 3, 4, 0] rfl)
  have j36 : ∀ (y_55 : Int32) (y_56 : Int32) (y_57 : Int32) (z_58 : Int32) (H : Heap) (locs : List Loc) (ls : Array Slot), f_X8_barsOf_J36 S y_55 y_56 y_57 z_58 = some r0 → Wd G A s H locs (mw G.2.1 a R S) → lv_has ls 5 [(0, .ref (a 0)), (1, .int y_55), (2, .int y_56), (3, .int y_57)] → WQ p l e rm_X8_barsOf s m [.ref (a 0), .int p1, .int p2] below meth c G A (mw G.2.1 a R S) (some (.int r0)) 0 0 H locs 0 0 (F0 m 36 ls [.int z_58]) := by
    intro y_55 y_56 y_57 z_58 H locs ls hf hw hl
    rw [f_X8_barsOf_J36] at hf
    refine lv_istore (lv' := [(4, .int z_58), (0, .ref (a 0)), (1, .int y_55), (2, .int y_56), (3, .int y_57)]) hx hb dX8_barsOf_36 hl (by decide) rfl (fun ls hl => ?_)
    refine lv_aload_n hx hb dX8_barsOf_38 rfl (lv_at hl 1 rfl) ?_
    refine lv_iload_n hx hb dX8_barsOf_39 rfl (lv_at hl 3 rfl) ?_
    refine lv_aload_n hx hb dX8_barsOf_40 rfl (lv_at hl 1 rfl) ?_
    refine va_get (D := G.1) (ci := 8) (v := .ref (a 15)) (C := RX8) (T := TX8) (N := 45) hx hb hts hin8 hown hG.1 hw.1 0 rfl rfl 28 (by decide) (hts (.fieldLink RX8 58 "DutyDeskModel" "cDay" "[I") (List.mem_of_getElem? (i := 1) rfl)) (fun _ h9 => h9) rfl dX8_barsOf_41 ?_
    refine lv_iload_n hx hb dX8_barsOf_44 rfl (lv_at hl 2 rfl) ?_
    obtain ⟨h_59, hf⟩ := gd_of hf
    refine va_iald hx hb hG.1 hw.1 15 1 (mw_atI (k := 15) rfl) rfl h_59 dX8_barsOf_45 ?_
    obtain ⟨r_61, h_60, hf⟩ := bind_of hf
    refine cV (As := [.int y_56, .int (gM S 15 y_55.toNatClampNeg)]) (rest := []) ⟨hx, hb, hml, hown, hts⟩ hG hA hw (c_X8_isStruck G l a R S y_56 (gM S 15 y_55.toNatClampNeg) r_61 h_60) (cwV 2 hts gX8_barsOf_X8_isStruck rfl rfl rfl (by decide +kernel) ⟨Nat.le_of_ble_eq_true rfl, Nat.le_of_ble_eq_true rfl⟩) (va_recv hG.1 hw.1 (ci := 8) (q0 := 0) rfl rfl) rfl hl.1 rfl (Nat.le_of_ble_eq_true rfl) dX8_barsOf_46 ⟨Nat.zero_le _, Nat.zero_le _⟩ (fun H locs hw => ?_)
    refine lv_if_ne (tgt := 72) hx hb dX8_barsOf_49 (by decide) (fun c_62 => ?_) (fun c_62 => ?_)
    · replace hf := if_f c_62 hf
      exact j72 y_55 y_56 y_57 z_58 _ _ _ hf hw (lv_sub hl [1, 2, 3, 4, 0] rfl)
    · replace hf := if_t c_62 hf
      refine lv_aload_n hx hb dX8_barsOf_52 rfl (lv_at hl 1 rfl) ?_
      refine va_get (D := G.1) (ci := 8) (v := .ref (a 9)) (C := RX8) (T := TX8) (N := 45) hx hb hts hin8 hown hG.1 hw.1 0 rfl rfl 19 (by decide) (hts (.fieldLink RX8 40 "DutyDeskModel" "isAway" "[Z") (List.mem_of_getElem? (i := 4) rfl)) (fun _ h9 => h9) rfl dX8_barsOf_53 ?_
      refine lv_sipush (v := 1000) hx hb dX8_barsOf_56 (by decide) ?_
      refine lv_iload_n hx hb dX8_barsOf_59 rfl (lv_at hl 3 rfl) ?_
      refine lv_imul hx hb dX8_barsOf_60 ?_
      refine lv_aload_n hx hb dX8_barsOf_61 rfl (lv_at hl 1 rfl) ?_
      refine va_get (D := G.1) (ci := 8) (v := .ref (a 15)) (C := RX8) (T := TX8) (N := 45) hx hb hts hin8 hown hG.1 hw.1 0 rfl rfl 28 (by decide) (hts (.fieldLink RX8 58 "DutyDeskModel" "cDay" "[I") (List.mem_of_getElem? (i := 1) rfl)) (fun _ h9 => h9) rfl dX8_barsOf_62 ?_
      refine lv_iload_n hx hb dX8_barsOf_65 rfl (lv_at hl 2 rfl) ?_
      obtain ⟨h_63, hf⟩ := gd_of hf
      refine va_iald hx hb hG.1 hw.1 15 1 (mw_atI (k := 15) rfl) rfl h_63 dX8_barsOf_66 ?_
      refine lv_iadd hx hb dX8_barsOf_67 ?_
      obtain ⟨h_64, hf⟩ := gd_of hf
      refine va_zald hx hb hG.1 hw.1 9 3 (mw_atZ (k := 9) rfl) rfl h_64 dX8_barsOf_68 ?_
      refine lv_if_eq (tgt := 78) hx hb dX8_barsOf_69 (by decide) (fun c_65 => ?_) (fun c_65 => ?_)
      · replace hf := if_t c_65 hf
        exact j78 y_55 y_56 y_57 z_58 _ _ _ hf hw (lv_sub hl [1, 2, 3, 4, 0] rfl)
      · replace hf := if_f c_65 hf
        exact j72 y_55 y_56 y_57 z_58 _ _ _ hf hw (lv_sub hl [1, 2, 3, 4, 0] rfl)
  refine lv_aload_n hx hb dX8_barsOf_0 rfl (lv_at hl 0 rfl) ?_
  refine lv_aload_n hx hb dX8_barsOf_1 rfl (lv_at hl 0 rfl) ?_
  refine va_get (D := G.1) (ci := 8) (v := .ref (a 15)) (C := RX8) (T := TX8) (N := 45) hx hb hts hin8 hown hG.1 hw.1 0 rfl rfl 28 (by decide) (hts (.fieldLink RX8 58 "DutyDeskModel" "cDay" "[I") (List.mem_of_getElem? (i := 1) rfl)) (fun _ h9 => h9) rfl dX8_barsOf_2 ?_
  refine lv_iload_n hx hb dX8_barsOf_5 rfl (lv_at hl 1 rfl) ?_
  obtain ⟨h_66, hf⟩ := gd_of hf
  refine va_iald hx hb hG.1 hw.1 15 1 (mw_atI (k := 15) rfl) rfl h_66 dX8_barsOf_6 ?_
  refine lv_bipush (v := 10) hx hb dX8_barsOf_7 (by decide) ?_
  obtain ⟨r_68, h_67, hf⟩ := bind_of hf
  refine cV (As := [.int (gM S 15 p1.toNatClampNeg), .int 10]) (rest := []) ⟨hx, hb, hml, hown, hts⟩ hG hA hw (c_X8_now G l a R S (gM S 15 p1.toNatClampNeg) 10 r_68 h_67) (cwV 2 hts gX8_barsOf_X8_now rfl rfl rfl (by decide +kernel) ⟨Nat.le_of_ble_eq_true rfl, Nat.le_of_ble_eq_true rfl⟩) (va_recv hG.1 hw.1 (ci := 8) (q0 := 0) rfl rfl) rfl hl.1 rfl (Nat.le_of_ble_eq_true rfl) dX8_barsOf_9 ⟨Nat.zero_le _, Nat.zero_le _⟩ (fun H locs hw => ?_)
  refine lv_istore_n (lv' := [(3, .int r_68), (0, .ref (a 0)), (1, .int p1), (2, .int p2)]) hx hb dX8_barsOf_12 rfl hl (by decide) rfl (fun ls hl => ?_)
  refine lv_aload_n hx hb dX8_barsOf_13 rfl (lv_at hl 1 rfl) ?_
  refine va_get (D := G.1) (ci := 8) (v := .ref (a 6)) (C := RX8) (T := TX8) (N := 45) hx hb hts hin8 hown hG.1 hw.1 0 rfl rfl 16 (by decide) (hts (.fieldLink RX8 31 "DutyDeskModel" "panels" "[I") (List.mem_of_getElem? (i := 2) rfl)) (fun _ h9 => h9) rfl dX8_barsOf_14 ?_
  refine lv_iload_n hx hb dX8_barsOf_17 rfl (lv_at hl 3 rfl) ?_
  obtain ⟨h_69, hf⟩ := gd_of hf
  refine va_iald hx hb hG.1 hw.1 6 1 (mw_atI (k := 6) rfl) rfl h_69 dX8_barsOf_18 ?_
  refine lv_aload_n hx hb dX8_barsOf_19 rfl (lv_at hl 1 rfl) ?_
  refine va_get (D := G.1) (ci := 8) (v := .ref (a 16)) (C := RX8) (T := TX8) (N := 45) hx hb hts hin8 hown hG.1 hw.1 0 rfl rfl 29 (by decide) (hts (.fieldLink RX8 61 "DutyDeskModel" "cPanel" "[I") (List.mem_of_getElem? (i := 3) rfl)) (fun _ h9 => h9) rfl dX8_barsOf_20 ?_
  refine lv_iload_n hx hb dX8_barsOf_23 rfl (lv_at hl 2 rfl) ?_
  obtain ⟨h_70, hf⟩ := gd_of hf
  refine va_iald hx hb hG.1 hw.1 16 1 (mw_atI (k := 16) rfl) rfl h_70 dX8_barsOf_24 ?_
  refine lv_ishr hx hb dX8_barsOf_25 ?_
  refine lv_iconst (v := 1) hx hb dX8_barsOf_26 (by decide) ?_
  refine lv_iand hx hb dX8_barsOf_27 ?_
  refine lv_if_ne (tgt := 35) hx hb dX8_barsOf_28 (by decide) (fun c_71 => ?_) (fun c_71 => ?_)
  · replace hf := if_f c_71 hf
    refine lv_iconst (v := 0) hx hb dX8_barsOf_35 (by decide) ?_
    exact j36 p1 p2 r_68 0 _ _ _ hf hw (lv_sub hl [1, 2, 3, 0] rfl)
  · replace hf := if_t c_71 hf
    refine lv_iconst (v := 1) hx hb dX8_barsOf_31 (by decide) ?_
    refine lv_goto (tgt := 36) hx hb dX8_barsOf_32 (by decide) ?_
    exact j36 p1 p2 r_68 1 _ _ _ hf hw (lv_sub hl [1, 2, 3, 0] rfl)
/-! DutyDeskModel.mayAsk(II)Z -/
def rm_X8_mayAsk : Room := { frames := 4, cells := 0, slots := 0, locals := 88 }
def f_X8_mayAsk (S : St) (p1 : Int32) (p2 : Int32) : Option (Int32) :=
  gd ((24 * p1) + p2) 3600 ((if (gM S 29 ((24 * p1) + p2).toNatClampNeg) = 0 then
    (f_X8_barsOf S p1 p2).bind (fun r_5 => (if r_5 = 0 then
    some (1)
  else
    some (0)))
  else
    some (0)))
set_option maxHeartbeats 4000000 in
set_option maxRecDepth 100000 in
theorem c_X8_mayAsk (G : GP) (l : Launch) (a : Nat → Nat) (R : va_W) (S : St) (p1 : Int32) (p2 : Int32) (r0 : Int32) (hf : f_X8_mayAsk S p1 p2 = some r0) : MC G l yX8_mayAsk wsX8_mayAsk rm_X8_mayAsk [.ref (a 0), .int p1, .int p2] (mw G.2.1 a R S) (mw G.2.1 a R S) (some (.int r0)) 0 0 := by
  refine MC.mk (cc := cX8_mayAsk) (maxL := 3) (ret := (some .boolean)) (by decide) rfl (Nat.le_of_ble_eq_true rfl) ?_
  intro p e s m below meth c A ls ⟨hx, hb, hr, hml, hown, hlocks, _, hts⟩ hw hG hA hl
  have hl : lv_has ls 3 [(0, .ref (a 0)), (1, .int p1), (2, .int p2)] := hl
  have hin8 : ∀ w ∈ u_ws RX8 TX8 45, w ∈ wsX8_mayAsk := by decide +kernel
  rw [f_X8_mayAsk] at hf
  refine lv_aload_n hx hb dX8_mayAsk_0 rfl (lv_at hl 0 rfl) ?_
  refine va_get (D := G.1) (ci := 8) (v := .ref (a 29)) (C := RX8) (T := TX8) (N := 45) hx hb hts hin8 hown hG.1 hw.1 0 rfl rfl 42 (by decide) (hts (.fieldLink RX8 100 "DutyDeskModel" "wasAsked" "[Z") (List.mem_of_getElem? (i := 1) rfl)) (fun _ h9 => h9) rfl dX8_mayAsk_1 ?_
  refine lv_bipush (v := 24) hx hb dX8_mayAsk_4 (by decide) ?_
  refine lv_iload_n hx hb dX8_mayAsk_6 rfl (lv_at hl 1 rfl) ?_
  refine lv_imul hx hb dX8_mayAsk_7 ?_
  refine lv_iload_n hx hb dX8_mayAsk_8 rfl (lv_at hl 2 rfl) ?_
  refine lv_iadd hx hb dX8_mayAsk_9 ?_
  obtain ⟨h_1, hf⟩ := gd_of hf
  refine va_zald hx hb hG.1 hw.1 29 3 (mw_atZ (k := 29) rfl) rfl h_1 dX8_mayAsk_10 ?_
  refine lv_if_ne (tgt := 27) hx hb dX8_mayAsk_11 (by decide) (fun c_2 => ?_) (fun c_2 => ?_)
  · replace hf := if_f c_2 hf
    refine lv_iconst (v := 0) hx hb dX8_mayAsk_27 (by decide) ?_
    have e_3 := Option.some.inj hf
    subst e_3
    exact wd_zret hx hb hr rfl hlocks hw dX8_mayAsk_28
  · replace hf := if_t c_2 hf
    refine lv_aload_n hx hb dX8_mayAsk_14 rfl (lv_at hl 0 rfl) ?_
    refine lv_iload_n hx hb dX8_mayAsk_15 rfl (lv_at hl 1 rfl) ?_
    refine lv_iload_n hx hb dX8_mayAsk_16 rfl (lv_at hl 2 rfl) ?_
    obtain ⟨r_5, h_4, hf⟩ := bind_of hf
    refine cV (As := [.int p1, .int p2]) (rest := []) ⟨hx, hb, hml, hown, hts⟩ hG hA hw (c_X8_barsOf G l a R S p1 p2 r_5 h_4) (cwV 2 hts gX8_mayAsk_X8_barsOf rfl rfl rfl (by decide +kernel) ⟨Nat.le_of_ble_eq_true rfl, Nat.le_of_ble_eq_true rfl⟩) (va_recv hG.1 hw.1 (ci := 8) (q0 := 0) rfl rfl) rfl hl.1 rfl (Nat.le_of_ble_eq_true rfl) dX8_mayAsk_17 ⟨Nat.zero_le _, Nat.zero_le _⟩ (fun H locs hw => ?_)
    refine lv_if_ne (tgt := 27) hx hb dX8_mayAsk_20 (by decide) (fun c_6 => ?_) (fun c_6 => ?_)
    · replace hf := if_f c_6 hf
      refine lv_iconst (v := 0) hx hb dX8_mayAsk_27 (by decide) ?_
      have e_7 := Option.some.inj hf
      subst e_7
      exact wd_zret hx hb hr rfl hlocks hw dX8_mayAsk_28
    · replace hf := if_t c_6 hf
      refine lv_iconst (v := 1) hx hb dX8_mayAsk_23 (by decide) ?_
      refine lv_goto (tgt := 28) hx hb dX8_mayAsk_24 (by decide) ?_
      have e_8 := Option.some.inj hf
      subst e_8
      exact wd_zret hx hb hr rfl hlocks hw dX8_mayAsk_28
/-! DutyDeskModel.earlier(I)I -/
def rm_X8_earlier : Room := { frames := 0, cells := 0, slots := 0, locals := 0 }
def f_X8_earlier_L4 (S : St) (p1 : Int32) : Int32 → Option ((Int32) ⊕ (Int32))
  | v_2 =>
  (if v_2 < 0 then
    some (.inr ((-1)))
  else
    gd v_2 150 ((if (gM S 24 v_2.toNatClampNeg) = (-1) then
    bnd (v_2 + (-1)) fun x_8 => some (.inl x_8)
  else
    gd v_2 150 (gd p1 150 ((if (gM S 19 v_2.toNatClampNeg) = (gM S 19 p1.toNatClampNeg) then
    gd v_2 150 (gd p1 150 ((if (gM S 20 v_2.toNatClampNeg) = (gM S 20 p1.toNatClampNeg) then
    gd v_2 150 (some (.inr ((gM S 24 v_2.toNatClampNeg))))
  else
    bnd (v_2 + (-1)) fun x_18 => some (.inl x_18))))
  else
    bnd (v_2 + (-1)) fun x_13 => some (.inl x_13)))))))
def f_X8_earlier (S : St) (p1 : Int32) : Option (Int32) :=
  bnd (p1 - 1) fun x_1 => loopF (f_X8_earlier_L4 S p1) FU x_1
set_option maxHeartbeats 4000000 in
set_option maxRecDepth 100000 in
theorem c_X8_earlier (G : GP) (l : Launch) (a : Nat → Nat) (R : va_W) (S : St) (p1 : Int32) (r0 : Int32) (hf : f_X8_earlier S p1 = some r0) : MC G l yX8_earlier wsX8_earlier rm_X8_earlier [.ref (a 0), .int p1] (mw G.2.1 a R S) (mw G.2.1 a R S) (some (.int r0)) 0 0 := by
  refine MC.mk (cc := cX8_earlier) (maxL := 3) (ret := (some .int)) (by decide) rfl (Nat.le_of_ble_eq_true rfl) ?_
  intro p e s m below meth c A ls ⟨hx, hb, hr, hml, hown, hlocks, _, hts⟩ hw hG hA hl
  have hl : lv_has ls 3 [(0, .ref (a 0)), (1, .int p1)] := hl
  have hin8 : ∀ w ∈ u_ws RX8 TX8 45, w ∈ wsX8_earlier := by decide +kernel
  rw [f_X8_earlier] at hf
  refine lv_iload_n hx hb dX8_earlier_0 rfl (lv_at hl 1 rfl) ?_
  refine lv_iconst (v := 1) hx hb dX8_earlier_1 (by decide) ?_
  refine lv_isub hx hb dX8_earlier_2 ?_
  refine lv_topi (fun x_1 ex_1 => ?_)
  replace hf := bnd_of ex_1 hf
  refine lv_istore_n (lv' := [(2, .int x_1), (0, .ref (a 0)), (1, .int p1)]) hx hb dX8_earlier_3 rfl hl (by decide) rfl (fun ls hl => ?_)
  refine loopF_ind (body := f_X8_earlier_L4 S p1) (fun (v_2 : Int32) => ∀ (H : Heap) (locs : List Loc) (ls : Array Slot), Wd G A s H locs (mw G.2.1 a R S) → lv_has ls 3 [(0, .ref (a 0)), (1, .int p1), (2, .int v_2)] → WQ p l e rm_X8_earlier s m [.ref (a 0), .int p1] below meth c G A (mw G.2.1 a R S) (some (.int r0)) 0 0 H locs 0 0 (F0 m 4 ls [])) ?_ FU x_1 hf _ _ _ hw (lv_sub hl [1, 2, 0] rfl)
  clear hf hw hl
  intro v_2 t0_4 hf hz1_0_4 hz2_0_4 H locs ls hw hl
  rw [f_X8_earlier_L4] at hf
  refine lv_iload_n hx hb dX8_earlier_4 rfl (lv_at hl 2 rfl) ?_
  refine lv_if_lt (tgt := 61) hx hb dX8_earlier_5 (by decide) (fun c_3 => ?_) (fun c_3 => ?_)
  · replace hf := if_t c_3 hf
    refine lv_iconst (v := (-1)) hx hb dX8_earlier_61 (by decide) ?_
    have e_4 := Option.some.inj hf
    have e_5 := hz2_0_4 _ e_4.symm
    subst e_5
    exact wd_iret hx hb hr hlocks hw dX8_earlier_62
  · replace hf := if_f c_3 hf
    refine lv_aload_n hx hb dX8_earlier_8 rfl (lv_at hl 0 rfl) ?_
    refine va_get (D := G.1) (ci := 8) (v := .ref (a 24)) (C := RX8) (T := TX8) (N := 45) hx hb hts hin8 hown hG.1 hw.1 0 rfl rfl 37 (by decide) (hts (.fieldLink RX8 85 "DutyDeskModel" "cTaker" "[I") (List.mem_of_getElem? (i := 1) rfl)) (fun _ h9 => h9) rfl dX8_earlier_9 ?_
    refine lv_iload_n hx hb dX8_earlier_12 rfl (lv_at hl 2 rfl) ?_
    obtain ⟨h_6, hf⟩ := gd_of hf
    refine va_iald hx hb hG.1 hw.1 24 1 (mw_atI (k := 24) rfl) rfl h_6 dX8_earlier_13 ?_
    refine lv_iconst (v := (-1)) hx hb dX8_earlier_14 (by decide) ?_
    refine lv_icmp_eq (tgt := 55) hx hb dX8_earlier_15 (by decide) (fun c_7 => ?_) (fun c_7 => ?_)
    · replace hf := if_t c_7 hf
      obtain ⟨x_8, ex_8⟩ : ∃ z : Int32, z = v_2 + (-1) := ⟨_, rfl⟩
      replace hf := bnd_of ex_8 hf
      refine lv_iinc (v := x_8) (lv' := [(2, .int x_8), (0, .ref (a 0)), (1, .int p1)]) hx hb dX8_earlier_55 hl (k := 2) rfl (by rw [ex_8]; rfl) (by decide) rfl (fun ls hl => ?_)
      refine lv_goto (tgt := 4) hx hb dX8_earlier_58 (by decide) ?_
      have e_9 := Option.some.inj hf
      exact hz1_0_4 _ e_9.symm _ _ _ hw (lv_sub hl [1, 2, 0] rfl)
    · replace hf := if_f c_7 hf
      refine lv_aload_n hx hb dX8_earlier_18 rfl (lv_at hl 0 rfl) ?_
      refine va_get (D := G.1) (ci := 8) (v := .ref (a 19)) (C := RX8) (T := TX8) (N := 45) hx hb hts hin8 hown hG.1 hw.1 0 rfl rfl 32 (by decide) (hts (.fieldLink RX8 70 "DutyDeskModel" "cCase" "[I") (List.mem_of_getElem? (i := 2) rfl)) (fun _ h9 => h9) rfl dX8_earlier_19 ?_
      refine lv_iload_n hx hb dX8_earlier_22 rfl (lv_at hl 2 rfl) ?_
      obtain ⟨h_10, hf⟩ := gd_of hf
      refine va_iald hx hb hG.1 hw.1 19 1 (mw_atI (k := 19) rfl) rfl h_10 dX8_earlier_23 ?_
      refine lv_aload_n hx hb dX8_earlier_24 rfl (lv_at hl 0 rfl) ?_
      refine va_get (D := G.1) (ci := 8) (v := .ref (a 19)) (C := RX8) (T := TX8) (N := 45) hx hb hts hin8 hown hG.1 hw.1 0 rfl rfl 32 (by decide) (hts (.fieldLink RX8 70 "DutyDeskModel" "cCase" "[I") (List.mem_of_getElem? (i := 2) rfl)) (fun _ h9 => h9) rfl dX8_earlier_25 ?_
      refine lv_iload_n hx hb dX8_earlier_28 rfl (lv_at hl 1 rfl) ?_
      obtain ⟨h_11, hf⟩ := gd_of hf
      refine va_iald hx hb hG.1 hw.1 19 1 (mw_atI (k := 19) rfl) rfl h_11 dX8_earlier_29 ?_
      refine lv_icmp_ne (tgt := 55) hx hb dX8_earlier_30 (by decide) (fun c_12 => ?_) (fun c_12 => ?_)
      · replace hf := if_f c_12 hf
        obtain ⟨x_13, ex_13⟩ : ∃ z : Int32, z = v_2 + (-1) := ⟨_, rfl⟩
        replace hf := bnd_of ex_13 hf
        refine lv_iinc (v := x_13) (lv' := [(2, .int x_13), (0, .ref (a 0)), (1, .int p1)]) hx hb dX8_earlier_55 hl (k := 2) rfl (by rw [ex_13]; rfl) (by decide) rfl (fun ls hl => ?_)
        refine lv_goto (tgt := 4) hx hb dX8_earlier_58 (by decide) ?_
        have e_14 := Option.some.inj hf
        exact hz1_0_4 _ e_14.symm _ _ _ hw (lv_sub hl [1, 2, 0] rfl)
      · replace hf := if_t c_12 hf
        refine lv_aload_n hx hb dX8_earlier_33 rfl (lv_at hl 0 rfl) ?_
        refine va_get (D := G.1) (ci := 8) (v := .ref (a 20)) (C := RX8) (T := TX8) (N := 45) hx hb hts hin8 hown hG.1 hw.1 0 rfl rfl 33 (by decide) (hts (.fieldLink RX8 73 "DutyDeskModel" "cAccused" "[I") (List.mem_of_getElem? (i := 3) rfl)) (fun _ h9 => h9) rfl dX8_earlier_34 ?_
        refine lv_iload_n hx hb dX8_earlier_37 rfl (lv_at hl 2 rfl) ?_
        obtain ⟨h_15, hf⟩ := gd_of hf
        refine va_iald hx hb hG.1 hw.1 20 1 (mw_atI (k := 20) rfl) rfl h_15 dX8_earlier_38 ?_
        refine lv_aload_n hx hb dX8_earlier_39 rfl (lv_at hl 0 rfl) ?_
        refine va_get (D := G.1) (ci := 8) (v := .ref (a 20)) (C := RX8) (T := TX8) (N := 45) hx hb hts hin8 hown hG.1 hw.1 0 rfl rfl 33 (by decide) (hts (.fieldLink RX8 73 "DutyDeskModel" "cAccused" "[I") (List.mem_of_getElem? (i := 3) rfl)) (fun _ h9 => h9) rfl dX8_earlier_40 ?_
        refine lv_iload_n hx hb dX8_earlier_43 rfl (lv_at hl 1 rfl) ?_
        obtain ⟨h_16, hf⟩ := gd_of hf
        refine va_iald hx hb hG.1 hw.1 20 1 (mw_atI (k := 20) rfl) rfl h_16 dX8_earlier_44 ?_
        refine lv_icmp_ne (tgt := 55) hx hb dX8_earlier_45 (by decide) (fun c_17 => ?_) (fun c_17 => ?_)
        · replace hf := if_f c_17 hf
          obtain ⟨x_18, ex_18⟩ : ∃ z : Int32, z = v_2 + (-1) := ⟨_, rfl⟩
          replace hf := bnd_of ex_18 hf
          refine lv_iinc (v := x_18) (lv' := [(2, .int x_18), (0, .ref (a 0)), (1, .int p1)]) hx hb dX8_earlier_55 hl (k := 2) rfl (by rw [ex_18]; rfl) (by decide) rfl (fun ls hl => ?_)
          refine lv_goto (tgt := 4) hx hb dX8_earlier_58 (by decide) ?_
          have e_19 := Option.some.inj hf
          exact hz1_0_4 _ e_19.symm _ _ _ hw (lv_sub hl [1, 2, 0] rfl)
        · replace hf := if_t c_17 hf
          refine lv_aload_n hx hb dX8_earlier_48 rfl (lv_at hl 0 rfl) ?_
          refine va_get (D := G.1) (ci := 8) (v := .ref (a 24)) (C := RX8) (T := TX8) (N := 45) hx hb hts hin8 hown hG.1 hw.1 0 rfl rfl 37 (by decide) (hts (.fieldLink RX8 85 "DutyDeskModel" "cTaker" "[I") (List.mem_of_getElem? (i := 1) rfl)) (fun _ h9 => h9) rfl dX8_earlier_49 ?_
          refine lv_iload_n hx hb dX8_earlier_52 rfl (lv_at hl 2 rfl) ?_
          obtain ⟨h_20, hf⟩ := gd_of hf
          refine va_iald hx hb hG.1 hw.1 24 1 (mw_atI (k := 24) rfl) rfl h_20 dX8_earlier_53 ?_
          have e_21 := Option.some.inj hf
          have e_22 := hz2_0_4 _ e_21.symm
          subst e_22
          exact wd_iret hx hb hr hlocks hw dX8_earlier_54
/-! DutyDeskModel.byOrder(I)I -/
def rm_X8_byOrder : Room := { frames := 5, cells := 0, slots := 0, locals := 110 }
def f_X8_byOrder_J98 (y_7 : Int32) (y_8 : Int32) (y_9 : Int32) (z_10 : Int32) : Option ((Int32 × Int32 × Int32) ⊕ (Int32)) :=
  (if y_7 = (-1) then
    bnd (y_9 + 1) fun x_12 => some (.inl (y_9, z_10, x_12))
  else
    (if z_10 < y_8 then
    bnd (y_9 + 1) fun x_15 => some (.inl (y_9, z_10, x_15))
  else
    bnd (y_9 + 1) fun x_17 => some (.inl (y_7, y_8, x_17))))
def f_X8_byOrder_L21 (S : St) (p1 : Int32) (r_3 : Int32) : (Int32 × Int32 × Int32) → Option ((Int32 × Int32 × Int32) ⊕ (Int32))
  | (v_4, v_5, v_6) =>
  (if (gI S 10) ≤ v_6 then
    some (.inr (v_4))
  else
    (f_X8_mayAsk S p1 v_6).bind (fun r_23 => (if r_23 = 0 then
    bnd (v_6 + 1) fun x_35 => some (.inl (v_4, v_5, x_35))
  else
    (if r_3 = 0 then
    gd p1 150 ((f_X8_duties S v_6 (gM S 15 p1.toNatClampNeg)).bind (fun r_34 => f_X8_byOrder_J98 v_4 v_5 v_6 r_34))
  else
    (if r_3 = 1 then
    (f_X8_taken S v_6).bind (fun r_31 => f_X8_byOrder_J98 v_4 v_5 v_6 r_31)
  else
    gd v_6 24 (gd p1 150 (gd ((10 * (gM S 5 v_6.toNatClampNeg)) + (gM S 17 p1.toNatClampNeg)) 100 (f_X8_byOrder_J98 v_4 v_5 v_6 (gM S 10 ((10 * (gM S 5 v_6.toNatClampNeg)) + (gM S 17 p1.toNatClampNeg)).toNatClampNeg)))))))))
def f_X8_byOrder (S : St) (p1 : Int32) : Option (Int32) :=
  gd p1 150 ((f_X8_now S (gM S 15 p1.toNatClampNeg) 9).bind (fun r_3 => loopF (f_X8_byOrder_L21 S p1 r_3) FU ((-1), 0, 0)))
set_option maxHeartbeats 4000000 in
set_option maxRecDepth 100000 in
theorem c_X8_byOrder (G : GP) (l : Launch) (a : Nat → Nat) (R : va_W) (S : St) (p1 : Int32) (r0 : Int32) (hf : f_X8_byOrder S p1 = some r0) : MC G l yX8_byOrder wsX8_byOrder rm_X8_byOrder [.ref (a 0), .int p1] (mw G.2.1 a R S) (mw G.2.1 a R S) (some (.int r0)) 0 0 := by
  refine MC.mk (cc := cX8_byOrder) (maxL := 7) (ret := (some .int)) (by decide) rfl (Nat.le_of_ble_eq_true rfl) ?_
  intro p e s m below meth c A ls ⟨hx, hb, hr, hml, hown, hlocks, _, hts⟩ hw hG hA hl
  have hl : lv_has ls 7 [(0, .ref (a 0)), (1, .int p1)] := hl
  have hin8 : ∀ w ∈ u_ws RX8 TX8 45, w ∈ wsX8_byOrder := by decide +kernel
  rw [f_X8_byOrder] at hf
  refine lv_aload_n hx hb dX8_byOrder_0 rfl (lv_at hl 0 rfl) ?_
  refine lv_aload_n hx hb dX8_byOrder_1 rfl (lv_at hl 0 rfl) ?_
  refine va_get (D := G.1) (ci := 8) (v := .ref (a 15)) (C := RX8) (T := TX8) (N := 45) hx hb hts hin8 hown hG.1 hw.1 0 rfl rfl 28 (by decide) (hts (.fieldLink RX8 58 "DutyDeskModel" "cDay" "[I") (List.mem_of_getElem? (i := 1) rfl)) (fun _ h9 => h9) rfl dX8_byOrder_2 ?_
  refine lv_iload_n hx hb dX8_byOrder_5 rfl (lv_at hl 1 rfl) ?_
  obtain ⟨h_1, hf⟩ := gd_of hf
  refine va_iald hx hb hG.1 hw.1 15 1 (mw_atI (k := 15) rfl) rfl h_1 dX8_byOrder_6 ?_
  refine lv_bipush (v := 9) hx hb dX8_byOrder_7 (by decide) ?_
  obtain ⟨r_3, h_2, hf⟩ := bind_of hf
  refine cV (As := [.int (gM S 15 p1.toNatClampNeg), .int 9]) (rest := []) ⟨hx, hb, hml, hown, hts⟩ hG hA hw (c_X8_now G l a R S (gM S 15 p1.toNatClampNeg) 9 r_3 h_2) (cwV 2 hts gX8_byOrder_X8_now rfl rfl rfl (by decide +kernel) ⟨Nat.le_of_ble_eq_true rfl, Nat.le_of_ble_eq_true rfl⟩) (va_recv hG.1 hw.1 (ci := 8) (q0 := 0) rfl rfl) rfl hl.1 rfl (Nat.le_of_ble_eq_true rfl) dX8_byOrder_9 ⟨Nat.zero_le _, Nat.zero_le _⟩ (fun H locs hw => ?_)
  refine lv_istore_n (lv' := [(2, .int r_3), (0, .ref (a 0)), (1, .int p1)]) hx hb dX8_byOrder_12 rfl hl (by decide) rfl (fun ls hl => ?_)
  refine lv_iconst (v := (-1)) hx hb dX8_byOrder_13 (by decide) ?_
  refine lv_istore_n (lv' := [(3, .int (-1)), (2, .int r_3), (0, .ref (a 0)), (1, .int p1)]) hx hb dX8_byOrder_14 rfl hl (by decide) rfl (fun ls hl => ?_)
  refine lv_iconst (v := 0) hx hb dX8_byOrder_15 (by decide) ?_
  refine lv_istore (lv' := [(4, .int 0), (3, .int (-1)), (2, .int r_3), (0, .ref (a 0)), (1, .int p1)]) hx hb dX8_byOrder_16 hl (by decide) rfl (fun ls hl => ?_)
  refine lv_iconst (v := 0) hx hb dX8_byOrder_18 (by decide) ?_
  refine lv_istore (lv' := [(5, .int 0), (4, .int 0), (3, .int (-1)), (2, .int r_3), (0, .ref (a 0)), (1, .int p1)]) hx hb dX8_byOrder_19 hl (by decide) rfl (fun ls hl => ?_)
  refine loopF_ind (body := f_X8_byOrder_L21 S p1 r_3) (fun (q : Int32 × Int32 × Int32) => match q with | (v_4, v_5, v_6) => ∀ (H : Heap) (locs : List Loc) (ls : Array Slot), Wd G A s H locs (mw G.2.1 a R S) → lv_has ls 7 [(0, .ref (a 0)), (1, .int p1), (2, .int r_3), (3, .int v_4), (4, .int v_5), (5, .int v_6)] → WQ p l e rm_X8_byOrder s m [.ref (a 0), .int p1] below meth c G A (mw G.2.1 a R S) (some (.int r0)) 0 0 H locs 0 0 (F0 m 21 ls [])) ?_ FU ((-1), 0, 0) hf _ _ _ hw (lv_sub hl [4, 5, 3, 2, 1, 0] rfl)
  clear hf hw hl
  intro ⟨v_4, v_5, v_6⟩ t0_21 hf hz1_0_21 hz2_0_21 H locs ls hw hl
  rw [f_X8_byOrder_L21] at hf
  have j98 : ∀ (y_7 : Int32) (y_8 : Int32) (y_9 : Int32) (z_10 : Int32) (H : Heap) (locs : List Loc) (ls : Array Slot), f_X8_byOrder_J98 y_7 y_8 y_9 z_10 = some t0_21 → Wd G A s H locs (mw G.2.1 a R S) → lv_has ls 7 [(0, .ref (a 0)), (1, .int p1), (2, .int r_3), (3, .int y_7), (4, .int y_8), (5, .int y_9)] → WQ p l e rm_X8_byOrder s m [.ref (a 0), .int p1] below meth c G A (mw G.2.1 a R S) (some (.int r0)) 0 0 H locs 0 0 (F0 m 98 ls [.int z_10]) := by
    intro y_7 y_8 y_9 z_10 H locs ls hf hw hl
    rw [f_X8_byOrder_J98] at hf
    refine lv_istore (lv' := [(6, .int z_10), (0, .ref (a 0)), (1, .int p1), (2, .int r_3), (3, .int y_7), (4, .int y_8), (5, .int y_9)]) hx hb dX8_byOrder_98 hl (by decide) rfl (fun ls hl => ?_)
    refine lv_iload_n hx hb dX8_byOrder_100 rfl (lv_at hl 4 rfl) ?_
    refine lv_iconst (v := (-1)) hx hb dX8_byOrder_101 (by decide) ?_
    refine lv_icmp_eq (tgt := 115) hx hb dX8_byOrder_102 (by decide) (fun c_11 => ?_) (fun c_11 => ?_)
    · replace hf := if_t c_11 hf
      refine lv_iload hx hb dX8_byOrder_115 (lv_at hl 6 rfl) ?_
      refine lv_istore_n (lv' := [(3, .int y_9), (6, .int z_10), (0, .ref (a 0)), (1, .int p1), (2, .int r_3), (4, .int y_8), (5, .int y_9)]) hx hb dX8_byOrder_117 rfl hl (by decide) rfl (fun ls hl => ?_)
      refine lv_iload hx hb dX8_byOrder_118 (lv_at hl 1 rfl) ?_
      refine lv_istore (lv' := [(4, .int z_10), (3, .int y_9), (6, .int z_10), (0, .ref (a 0)), (1, .int p1), (2, .int r_3), (5, .int y_9)]) hx hb dX8_byOrder_120 hl (by decide) rfl (fun ls hl => ?_)
      obtain ⟨x_12, ex_12⟩ : ∃ z : Int32, z = y_9 + 1 := ⟨_, rfl⟩
      replace hf := bnd_of ex_12 hf
      refine lv_iinc (v := x_12) (lv' := [(5, .int x_12), (4, .int z_10), (3, .int y_9), (6, .int z_10), (0, .ref (a 0)), (1, .int p1), (2, .int r_3)]) hx hb dX8_byOrder_122 hl (k := 6) rfl (by rw [ex_12]; rfl) (by decide) rfl (fun ls hl => ?_)
      refine lv_goto (tgt := 21) hx hb dX8_byOrder_125 (by decide) ?_
      have e_13 := Option.some.inj hf
      exact hz1_0_21 _ e_13.symm _ _ _ hw (lv_sub hl [4, 5, 6, 2, 1, 0] rfl)
    · replace hf := if_f c_11 hf
      refine lv_iload hx hb dX8_byOrder_105 (lv_at hl 0 rfl) ?_
      refine lv_iload hx hb dX8_byOrder_107 (lv_at hl 5 rfl) ?_
      refine lv_icmp_lt (tgt := 115) hx hb dX8_byOrder_109 (by decide) (fun c_14 => ?_) (fun c_14 => ?_)
      · replace hf := if_t c_14 hf
        refine lv_iload hx hb dX8_byOrder_115 (lv_at hl 6 rfl) ?_
        refine lv_istore_n (lv' := [(3, .int y_9), (6, .int z_10), (0, .ref (a 0)), (1, .int p1), (2, .int r_3), (4, .int y_8), (5, .int y_9)]) hx hb dX8_byOrder_117 rfl hl (by decide) rfl (fun ls hl => ?_)
        refine lv_iload hx hb dX8_byOrder_118 (lv_at hl 1 rfl) ?_
        refine lv_istore (lv' := [(4, .int z_10), (3, .int y_9), (6, .int z_10), (0, .ref (a 0)), (1, .int p1), (2, .int r_3), (5, .int y_9)]) hx hb dX8_byOrder_120 hl (by decide) rfl (fun ls hl => ?_)
        obtain ⟨x_15, ex_15⟩ : ∃ z : Int32, z = y_9 + 1 := ⟨_, rfl⟩
        replace hf := bnd_of ex_15 hf
        refine lv_iinc (v := x_15) (lv' := [(5, .int x_15), (4, .int z_10), (3, .int y_9), (6, .int z_10), (0, .ref (a 0)), (1, .int p1), (2, .int r_3)]) hx hb dX8_byOrder_122 hl (k := 6) rfl (by rw [ex_15]; rfl) (by decide) rfl (fun ls hl => ?_)
        refine lv_goto (tgt := 21) hx hb dX8_byOrder_125 (by decide) ?_
        have e_16 := Option.some.inj hf
        exact hz1_0_21 _ e_16.symm _ _ _ hw (lv_sub hl [4, 5, 6, 2, 1, 0] rfl)
      · replace hf := if_f c_14 hf
        refine lv_goto (tgt := 122) hx hb dX8_byOrder_112 (by decide) ?_
        obtain ⟨x_17, ex_17⟩ : ∃ z : Int32, z = y_9 + 1 := ⟨_, rfl⟩
        replace hf := bnd_of ex_17 hf
        refine lv_iinc (v := x_17) (lv' := [(5, .int x_17), (6, .int z_10), (0, .ref (a 0)), (1, .int p1), (2, .int r_3), (3, .int y_7), (4, .int y_8)]) hx hb dX8_byOrder_122 hl (k := 6) rfl (by rw [ex_17]; rfl) (by decide) rfl (fun ls hl => ?_)
        refine lv_goto (tgt := 21) hx hb dX8_byOrder_125 (by decide) ?_
        have e_18 := Option.some.inj hf
        exact hz1_0_21 _ e_18.symm _ _ _ hw (lv_sub hl [2, 3, 4, 5, 6, 0] rfl)
  refine lv_iload hx hb dX8_byOrder_21 (lv_at hl 5 rfl) ?_
  refine lv_aload_n hx hb dX8_byOrder_23 rfl (lv_at hl 0 rfl) ?_
  refine va_get (D := G.1) (ci := 8) (v := .int (gI S 10)) (C := RX8) (T := TX8) (N := 45) hx hb hts hin8 hown hG.1 hw.1 0 rfl rfl 14 (by decide) (hts (.fieldLink RX8 189 "DutyDeskModel" "lawyers" "I") (List.mem_of_getElem? (i := 2) rfl)) (fun _ h9 => h9) rfl dX8_byOrder_24 ?_
  refine lv_icmp_ge (tgt := 128) hx hb dX8_byOrder_27 (by decide) (fun c_19 => ?_) (fun c_19 => ?_)
  · replace hf := if_t c_19 hf
    refine lv_iload_n hx hb dX8_byOrder_128 rfl (lv_at hl 3 rfl) ?_
    have e_20 := Option.some.inj hf
    have e_21 := hz2_0_21 _ e_20.symm
    subst e_21
    exact wd_iret hx hb hr hlocks hw dX8_byOrder_129
  · replace hf := if_f c_19 hf
    refine lv_aload_n hx hb dX8_byOrder_30 rfl (lv_at hl 0 rfl) ?_
    refine lv_iload_n hx hb dX8_byOrder_31 rfl (lv_at hl 1 rfl) ?_
    refine lv_iload hx hb dX8_byOrder_32 (lv_at hl 5 rfl) ?_
    obtain ⟨r_23, h_22, hf⟩ := bind_of hf
    refine cV (As := [.int p1, .int v_6]) (rest := []) ⟨hx, hb, hml, hown, hts⟩ hG hA hw (c_X8_mayAsk G l a R S p1 v_6 r_23 h_22) (cwV 2 hts gX8_byOrder_X8_mayAsk rfl rfl rfl (by decide +kernel) ⟨Nat.le_of_ble_eq_true rfl, Nat.le_of_ble_eq_true rfl⟩) (va_recv hG.1 hw.1 (ci := 8) (q0 := 0) rfl rfl) rfl hl.1 rfl (Nat.le_of_ble_eq_true rfl) dX8_byOrder_34 ⟨Nat.zero_le _, Nat.zero_le _⟩ (fun H locs hw => ?_)
    refine lv_if_ne (tgt := 43) hx hb dX8_byOrder_37 (by decide) (fun c_24 => ?_) (fun c_24 => ?_)
    · replace hf := if_f c_24 hf
      refine lv_iload_n hx hb dX8_byOrder_43 rfl (lv_at hl 2 rfl) ?_
      refine lv_if_ne (tgt := 62) hx hb dX8_byOrder_44 (by decide) (fun c_25 => ?_) (fun c_25 => ?_)
      · replace hf := if_f c_25 hf
        refine lv_iload_n hx hb dX8_byOrder_62 rfl (lv_at hl 2 rfl) ?_
        refine lv_iconst (v := 1) hx hb dX8_byOrder_63 (by decide) ?_
        refine lv_icmp_ne (tgt := 76) hx hb dX8_byOrder_64 (by decide) (fun c_26 => ?_) (fun c_26 => ?_)
        · replace hf := if_f c_26 hf
          refine lv_aload_n hx hb dX8_byOrder_76 rfl (lv_at hl 0 rfl) ?_
          refine va_get (D := G.1) (ci := 8) (v := .ref (a 10)) (C := RX8) (T := TX8) (N := 45) hx hb hts hin8 hown hG.1 hw.1 0 rfl rfl 20 (by decide) (hts (.fieldLink RX8 43 "DutyDeskModel" "travel" "[I") (List.mem_of_getElem? (i := 3) rfl)) (fun _ h9 => h9) rfl dX8_byOrder_77 ?_
          refine lv_bipush (v := 10) hx hb dX8_byOrder_80 (by decide) ?_
          refine lv_aload_n hx hb dX8_byOrder_82 rfl (lv_at hl 0 rfl) ?_
          refine va_get (D := G.1) (ci := 8) (v := .ref (a 5)) (C := RX8) (T := TX8) (N := 45) hx hb hts hin8 hown hG.1 hw.1 0 rfl rfl 15 (by decide) (hts (.fieldLink RX8 28 "DutyDeskModel" "town" "[I") (List.mem_of_getElem? (i := 4) rfl)) (fun _ h9 => h9) rfl dX8_byOrder_83 ?_
          refine lv_iload hx hb dX8_byOrder_86 (lv_at hl 5 rfl) ?_
          obtain ⟨h_27, hf⟩ := gd_of hf
          refine va_iald hx hb hG.1 hw.1 5 1 (mw_atI (k := 5) rfl) rfl h_27 dX8_byOrder_88 ?_
          refine lv_imul hx hb dX8_byOrder_89 ?_
          refine lv_aload_n hx hb dX8_byOrder_90 rfl (lv_at hl 0 rfl) ?_
          refine va_get (D := G.1) (ci := 8) (v := .ref (a 17)) (C := RX8) (T := TX8) (N := 45) hx hb hts hin8 hown hG.1 hw.1 0 rfl rfl 30 (by decide) (hts (.fieldLink RX8 64 "DutyDeskModel" "cTown" "[I") (List.mem_of_getElem? (i := 5) rfl)) (fun _ h9 => h9) rfl dX8_byOrder_91 ?_
          refine lv_iload_n hx hb dX8_byOrder_94 rfl (lv_at hl 1 rfl) ?_
          obtain ⟨h_28, hf⟩ := gd_of hf
          refine va_iald hx hb hG.1 hw.1 17 1 (mw_atI (k := 17) rfl) rfl h_28 dX8_byOrder_95 ?_
          refine lv_iadd hx hb dX8_byOrder_96 ?_
          obtain ⟨h_29, hf⟩ := gd_of hf
          refine va_iald hx hb hG.1 hw.1 10 1 (mw_atI (k := 10) rfl) rfl h_29 dX8_byOrder_97 ?_
          exact j98 v_4 v_5 v_6 (gM S 10 ((10 * (gM S 5 v_6.toNatClampNeg)) + (gM S 17 p1.toNatClampNeg)).toNatClampNeg) _ _ _ hf hw (lv_sub hl [0, 1, 2, 3, 4, 5] rfl)
        · replace hf := if_t c_26 hf
          refine lv_aload_n hx hb dX8_byOrder_67 rfl (lv_at hl 0 rfl) ?_
          refine lv_iload hx hb dX8_byOrder_68 (lv_at hl 5 rfl) ?_
          obtain ⟨r_31, h_30, hf⟩ := bind_of hf
          refine cV (As := [.int v_6]) (rest := []) ⟨hx, hb, hml, hown, hts⟩ hG hA hw (c_X8_taken G l a R S v_6 r_31 h_30) (cwV 1 hts gX8_byOrder_X8_taken rfl rfl rfl (by decide +kernel) ⟨Nat.le_of_ble_eq_true rfl, Nat.le_of_ble_eq_true rfl⟩) (va_recv hG.1 hw.1 (ci := 8) (q0 := 0) rfl rfl) rfl hl.1 rfl (Nat.le_of_ble_eq_true rfl) dX8_byOrder_70 ⟨Nat.zero_le _, Nat.zero_le _⟩ (fun H locs hw => ?_)
          refine lv_goto (tgt := 98) hx hb dX8_byOrder_73 (by decide) ?_
          exact j98 v_4 v_5 v_6 r_31 _ _ _ hf hw (lv_sub hl [0, 1, 2, 3, 4, 5] rfl)
      · replace hf := if_t c_25 hf
        refine lv_aload_n hx hb dX8_byOrder_47 rfl (lv_at hl 0 rfl) ?_
        refine lv_iload hx hb dX8_byOrder_48 (lv_at hl 5 rfl) ?_
        refine lv_aload_n hx hb dX8_byOrder_50 rfl (lv_at hl 0 rfl) ?_
        refine va_get (D := G.1) (ci := 8) (v := .ref (a 15)) (C := RX8) (T := TX8) (N := 45) hx hb hts hin8 hown hG.1 hw.1 0 rfl rfl 28 (by decide) (hts (.fieldLink RX8 58 "DutyDeskModel" "cDay" "[I") (List.mem_of_getElem? (i := 1) rfl)) (fun _ h9 => h9) rfl dX8_byOrder_51 ?_
        refine lv_iload_n hx hb dX8_byOrder_54 rfl (lv_at hl 1 rfl) ?_
        obtain ⟨h_32, hf⟩ := gd_of hf
        refine va_iald hx hb hG.1 hw.1 15 1 (mw_atI (k := 15) rfl) rfl h_32 dX8_byOrder_55 ?_
        obtain ⟨r_34, h_33, hf⟩ := bind_of hf
        refine cV (As := [.int v_6, .int (gM S 15 p1.toNatClampNeg)]) (rest := []) ⟨hx, hb, hml, hown, hts⟩ hG hA hw (c_X8_duties G l a R S v_6 (gM S 15 p1.toNatClampNeg) r_34 h_33) (cwV 2 hts gX8_byOrder_X8_duties rfl rfl rfl (by decide +kernel) ⟨Nat.le_of_ble_eq_true rfl, Nat.le_of_ble_eq_true rfl⟩) (va_recv hG.1 hw.1 (ci := 8) (q0 := 0) rfl rfl) rfl hl.1 rfl (Nat.le_of_ble_eq_true rfl) dX8_byOrder_56 ⟨Nat.zero_le _, Nat.zero_le _⟩ (fun H locs hw => ?_)
        refine lv_goto (tgt := 98) hx hb dX8_byOrder_59 (by decide) ?_
        exact j98 v_4 v_5 v_6 r_34 _ _ _ hf hw (lv_sub hl [0, 1, 2, 3, 4, 5] rfl)
    · replace hf := if_t c_24 hf
      refine lv_goto (tgt := 122) hx hb dX8_byOrder_40 (by decide) ?_
      obtain ⟨x_35, ex_35⟩ : ∃ z : Int32, z = v_6 + 1 := ⟨_, rfl⟩
      replace hf := bnd_of ex_35 hf
      refine lv_iinc (v := x_35) (lv' := [(5, .int x_35), (0, .ref (a 0)), (1, .int p1), (2, .int r_3), (3, .int v_4), (4, .int v_5)]) hx hb dX8_byOrder_122 hl (k := 5) rfl (by rw [ex_35]; rfl) (by decide) rfl (fun ls hl => ?_)
      refine lv_goto (tgt := 21) hx hb dX8_byOrder_125 (by decide) ?_
      have e_36 := Option.some.inj hf
      exact hz1_0_21 _ e_36.symm _ _ _ hw (lv_sub hl [1, 2, 3, 4, 5, 0] rfl)
/-! DutyDeskModel.askNext(I)V -/
def rm_X8_askNext : Room := { frames := 6, cells := 0, slots := 0, locals := 136 }
def f_X8_askNext_J85 (y_1 : Int32) (y_2 : Int32) (z_3 : Int32) (z_4 : Int32) (S_5 : St) : Option (St) :=
  gd z_4 150 (bnd (sM S_5 21 (z_4.toNatClampNeg) z_3) fun S_7 => (if y_2 = (-1) then
    some (S_7)
  else
    gd ((24 * y_1) + y_2) 3600 (bnd (sM S_7 29 (((24 * y_1) + y_2).toNatClampNeg) (vp_nar .boolean 1)) fun S_11 => some (S_11))))
def f_X8_askNext_J63 (y_13 : Int32) (y_14 : Int32) (S_15 : St) : Option (St) :=
  gd y_13 150 (bnd (sM S_15 23 (y_13.toNatClampNeg) y_14) fun S_17 => (if y_14 = (-1) then
    f_X8_askNext_J85 y_13 y_14 2 y_13 S_17
  else
    f_X8_askNext_J85 y_13 y_14 0 y_13 S_17))
def f_X8_askNext_J57 (y_19 : Int32) (S_20 : St) : Option (St) :=
  (f_X8_byOrder S_20 y_19).bind (fun r_22 => f_X8_askNext_J63 y_19 r_22 S_20)
def f_X8_askNext_J43 (y_23 : Int32) (y_24 : Int32) (S_25 : St) : Option (St) :=
  (if y_24 = (-1) then
    f_X8_askNext_J57 y_23 S_25
  else
    (f_X8_mayAsk S_25 y_23 y_24).bind (fun r_28 => (if r_28 = 0 then
    f_X8_askNext_J57 y_23 S_25
  else
    f_X8_askNext_J63 y_23 y_24 S_25)))
def f_X8_askNext_J20 (y_30 : Int32) (S_31 : St) : Option (St) :=
  gd y_30 150 (gd y_30 150 (gd ((1000 * (gM S_31 16 y_30.toNatClampNeg)) + (gM S_31 15 y_30.toNatClampNeg)) 6000 (bnd (gM S_31 11 ((1000 * (gM S_31 16 y_30.toNatClampNeg)) + (gM S_31 15 y_30.toNatClampNeg)).toNatClampNeg) fun x_35 => f_X8_askNext_J43 y_30 x_35 S_31)))
def f_X8_askNext (S : St) (p1 : Int32) : Option (St) :=
  (f_X8_earlier S p1).bind (fun r_37 => (if r_37 = (-1) then
    f_X8_askNext_J20 p1 S
  else
    (f_X8_mayAsk S p1 r_37).bind (fun r_40 => (if r_40 = 0 then
    f_X8_askNext_J20 p1 S
  else
    f_X8_askNext_J43 p1 r_37 S))))
set_option maxHeartbeats 4000000 in
set_option maxRecDepth 100000 in
theorem c_X8_askNext (G : GP) (l : Launch) (a : Nat → Nat) (R : va_W) (S : St) (p1 : Int32) (S9 : St) (hf : f_X8_askNext S p1 = some S9) : MC G l yX8_askNext wsX8_askNext rm_X8_askNext [.ref (a 0), .int p1] (mw G.2.1 a R S) (mw G.2.1 a R S9) none 0 0 := by
  refine MC.mk (cc := cX8_askNext) (maxL := 3) (ret := none) (by decide) rfl (Nat.le_of_ble_eq_true rfl) ?_
  intro p e s m below meth c A ls ⟨hx, hb, hr, hml, hown, hlocks, _, hts⟩ hw hG hA hl
  have hl : lv_has ls 3 [(0, .ref (a 0)), (1, .int p1)] := hl
  have hin8 : ∀ w ∈ u_ws RX8 TX8 45, w ∈ wsX8_askNext := by decide +kernel
  rw [f_X8_askNext] at hf
  have j85 : ∀ (y_1 : Int32) (y_2 : Int32) (z_3 : Int32) (z_4 : Int32) (S_5 : St) (H : Heap) (locs : List Loc) (ls : Array Slot), f_X8_askNext_J85 y_1 y_2 z_3 z_4 S_5 = some S9 → Wd G A s H locs (mw G.2.1 a R S_5) → lv_has ls 3 [(0, .ref (a 0)), (1, .int y_1), (2, .int y_2)] → WQ p l e rm_X8_askNext s m [.ref (a 0), .int p1] below meth c G A (mw G.2.1 a R S9) none 0 0 H locs 0 0 (F0 m 85 ls [.int z_3, .int z_4, .ref (a 21)]) := by
    intro y_1 y_2 z_3 z_4 S_5 H locs ls hf hw hl
    rw [f_X8_askNext_J85] at hf
    obtain ⟨h_6, hf⟩ := gd_of hf
    refine va_iast hx hb hG.1 hw.1 hw.2.1 hw.2.2 21 1 (mw_atI (k := 21) rfl) rfl h_6 dX8_askNext_85 (fun H locs hP hD hS => ?_)
    obtain ⟨S_7, eS_7⟩ : ∃ z : St, z = sM S_5 21 (z_4.toNatClampNeg) z_3 := ⟨_, rfl⟩
    replace hf := bnd_of eS_7 hf
    have hw : Wd G A s H locs (mw G.2.1 a R S_7) := wd_eq (by rw [eS_7]; exact mw_upI (k := 21) rfl _) hP hD hS
    refine lv_iload_n hx hb dX8_askNext_86 rfl (lv_at hl 2 rfl) ?_
    refine lv_iconst (v := (-1)) hx hb dX8_askNext_87 (by decide) ?_
    refine lv_icmp_eq (tgt := 103) hx hb dX8_askNext_88 (by decide) (fun c_8 => ?_) (fun c_8 => ?_)
    · replace hf := if_t c_8 hf
      have e_9 := Option.some.inj hf
      subst e_9
      exact wd_vret hx hb hr hlocks hw dX8_askNext_103
    · replace hf := if_f c_8 hf
      refine lv_aload_n hx hb dX8_askNext_91 rfl (lv_at hl 0 rfl) ?_
      refine va_get (D := G.1) (ci := 8) (v := .ref (a 29)) (C := RX8) (T := TX8) (N := 45) hx hb hts hin8 hown hG.1 hw.1 0 rfl rfl 42 (by decide) (hts (.fieldLink RX8 100 "DutyDeskModel" "wasAsked" "[Z") (List.mem_of_getElem? (i := 6) rfl)) (fun _ h9 => h9) rfl dX8_askNext_92 ?_
      refine lv_bipush (v := 24) hx hb dX8_askNext_95 (by decide) ?_
      refine lv_iload_n hx hb dX8_askNext_97 rfl (lv_at hl 1 rfl) ?_
      refine lv_imul hx hb dX8_askNext_98 ?_
      refine lv_iload_n hx hb dX8_askNext_99 rfl (lv_at hl 2 rfl) ?_
      refine lv_iadd hx hb dX8_askNext_100 ?_
      refine lv_iconst (v := 1) hx hb dX8_askNext_101 (by decide) ?_
      obtain ⟨h_10, hf⟩ := gd_of hf
      refine va_zast hx hb hG.1 hw.1 hw.2.1 hw.2.2 29 3 (mw_atZ (k := 29) rfl) rfl h_10 dX8_askNext_102 (fun H locs hP hD hS => ?_)
      obtain ⟨S_11, eS_11⟩ : ∃ z : St, z = sM S_7 29 (((24 * y_1) + y_2).toNatClampNeg) (vp_nar .boolean 1) := ⟨_, rfl⟩
      replace hf := bnd_of eS_11 hf
      have hw : Wd G A s H locs (mw G.2.1 a R S_11) := wd_eq (by rw [eS_11]; exact mw_upZ (k := 29) rfl _) hP hD hS
      have e_12 := Option.some.inj hf
      subst e_12
      exact wd_vret hx hb hr hlocks hw dX8_askNext_103
  have j63 : ∀ (y_13 : Int32) (y_14 : Int32) (S_15 : St) (H : Heap) (locs : List Loc) (ls : Array Slot), f_X8_askNext_J63 y_13 y_14 S_15 = some S9 → Wd G A s H locs (mw G.2.1 a R S_15) → lv_has ls 3 [(0, .ref (a 0)), (1, .int y_13), (2, .int y_14)] → WQ p l e rm_X8_askNext s m [.ref (a 0), .int p1] below meth c G A (mw G.2.1 a R S9) none 0 0 H locs 0 0 (F0 m 63 ls []) := by
    intro y_13 y_14 S_15 H locs ls hf hw hl
    rw [f_X8_askNext_J63] at hf
    refine lv_aload_n hx hb dX8_askNext_63 rfl (lv_at hl 0 rfl) ?_
    refine va_get (D := G.1) (ci := 8) (v := .ref (a 23)) (C := RX8) (T := TX8) (N := 45) hx hb hts hin8 hown hG.1 hw.1 0 rfl rfl 36 (by decide) (hts (.fieldLink RX8 82 "DutyDeskModel" "cAsked" "[I") (List.mem_of_getElem? (i := 4) rfl)) (fun _ h9 => h9) rfl dX8_askNext_64 ?_
    refine lv_iload_n hx hb dX8_askNext_67 rfl (lv_at hl 1 rfl) ?_
    refine lv_iload_n hx hb dX8_askNext_68 rfl (lv_at hl 2 rfl) ?_
    obtain ⟨h_16, hf⟩ := gd_of hf
    refine va_iast hx hb hG.1 hw.1 hw.2.1 hw.2.2 23 1 (mw_atI (k := 23) rfl) rfl h_16 dX8_askNext_69 (fun H locs hP hD hS => ?_)
    obtain ⟨S_17, eS_17⟩ : ∃ z : St, z = sM S_15 23 (y_13.toNatClampNeg) y_14 := ⟨_, rfl⟩
    replace hf := bnd_of eS_17 hf
    have hw : Wd G A s H locs (mw G.2.1 a R S_17) := wd_eq (by rw [eS_17]; exact mw_upI (k := 23) rfl _) hP hD hS
    refine lv_aload_n hx hb dX8_askNext_70 rfl (lv_at hl 0 rfl) ?_
    refine va_get (D := G.1) (ci := 8) (v := .ref (a 21)) (C := RX8) (T := TX8) (N := 45) hx hb hts hin8 hown hG.1 hw.1 0 rfl rfl 34 (by decide) (hts (.fieldLink RX8 76 "DutyDeskModel" "cState" "[I") (List.mem_of_getElem? (i := 5) rfl)) (fun _ h9 => h9) rfl dX8_askNext_71 ?_
    refine lv_iload_n hx hb dX8_askNext_74 rfl (lv_at hl 1 rfl) ?_
    refine lv_iload_n hx hb dX8_askNext_75 rfl (lv_at hl 2 rfl) ?_
    refine lv_iconst (v := (-1)) hx hb dX8_askNext_76 (by decide) ?_
    refine lv_icmp_ne (tgt := 84) hx hb dX8_askNext_77 (by decide) (fun c_18 => ?_) (fun c_18 => ?_)
    · replace hf := if_f c_18 hf
      refine lv_iconst (v := 0) hx hb dX8_askNext_84 (by decide) ?_
      exact j85 y_13 y_14 0 y_13 S_17 _ _ _ hf hw (lv_sub hl [0, 1, 2] rfl)
    · replace hf := if_t c_18 hf
      refine lv_iconst (v := 2) hx hb dX8_askNext_80 (by decide) ?_
      refine lv_goto (tgt := 85) hx hb dX8_askNext_81 (by decide) ?_
      exact j85 y_13 y_14 2 y_13 S_17 _ _ _ hf hw (lv_sub hl [0, 1, 2] rfl)
  have j57 : ∀ (y_19 : Int32) (S_20 : St) (H : Heap) (locs : List Loc) (ls : Array Slot), f_X8_askNext_J57 y_19 S_20 = some S9 → Wd G A s H locs (mw G.2.1 a R S_20) → lv_has ls 3 [(0, .ref (a 0)), (1, .int y_19)] → WQ p l e rm_X8_askNext s m [.ref (a 0), .int p1] below meth c G A (mw G.2.1 a R S9) none 0 0 H locs 0 0 (F0 m 57 ls []) := by
    intro y_19 S_20 H locs ls hf hw hl
    rw [f_X8_askNext_J57] at hf
    refine lv_aload_n hx hb dX8_askNext_57 rfl (lv_at hl 0 rfl) ?_
    refine lv_iload_n hx hb dX8_askNext_58 rfl (lv_at hl 1 rfl) ?_
    obtain ⟨r_22, h_21, hf⟩ := bind_of hf
    refine cV (As := [.int y_19]) (rest := []) ⟨hx, hb, hml, hown, hts⟩ hG hA hw (c_X8_byOrder G l a R S_20 y_19 r_22 h_21) (cwV 1 hts gX8_askNext_X8_byOrder rfl rfl rfl (by decide +kernel) ⟨Nat.le_of_ble_eq_true rfl, Nat.le_of_ble_eq_true rfl⟩) (va_recv hG.1 hw.1 (ci := 8) (q0 := 0) rfl rfl) rfl hl.1 rfl (Nat.le_of_ble_eq_true rfl) dX8_askNext_59 ⟨Nat.zero_le _, Nat.zero_le _⟩ (fun H locs hw => ?_)
    refine lv_istore_n (lv' := [(2, .int r_22), (0, .ref (a 0)), (1, .int y_19)]) hx hb dX8_askNext_62 rfl hl (by decide) rfl (fun ls hl => ?_)
    exact j63 y_19 r_22 S_20 _ _ _ hf hw (lv_sub hl [1, 2, 0] rfl)
  have j43 : ∀ (y_23 : Int32) (y_24 : Int32) (S_25 : St) (H : Heap) (locs : List Loc) (ls : Array Slot), f_X8_askNext_J43 y_23 y_24 S_25 = some S9 → Wd G A s H locs (mw G.2.1 a R S_25) → lv_has ls 3 [(0, .ref (a 0)), (1, .int y_23), (2, .int y_24)] → WQ p l e rm_X8_askNext s m [.ref (a 0), .int p1] below meth c G A (mw G.2.1 a R S9) none 0 0 H locs 0 0 (F0 m 43 ls []) := by
    intro y_23 y_24 S_25 H locs ls hf hw hl
    rw [f_X8_askNext_J43] at hf
    refine lv_iload_n hx hb dX8_askNext_43 rfl (lv_at hl 2 rfl) ?_
    refine lv_iconst (v := (-1)) hx hb dX8_askNext_44 (by decide) ?_
    refine lv_icmp_eq (tgt := 57) hx hb dX8_askNext_45 (by decide) (fun c_26 => ?_) (fun c_26 => ?_)
    · replace hf := if_t c_26 hf
      exact j57 y_23 S_25 _ _ _ hf hw (lv_sub hl [0, 1] rfl)
    · replace hf := if_f c_26 hf
      refine lv_aload_n hx hb dX8_askNext_48 rfl (lv_at hl 0 rfl) ?_
      refine lv_iload_n hx hb dX8_askNext_49 rfl (lv_at hl 1 rfl) ?_
      refine lv_iload_n hx hb dX8_askNext_50 rfl (lv_at hl 2 rfl) ?_
      obtain ⟨r_28, h_27, hf⟩ := bind_of hf
      refine cV (As := [.int y_23, .int y_24]) (rest := []) ⟨hx, hb, hml, hown, hts⟩ hG hA hw (c_X8_mayAsk G l a R S_25 y_23 y_24 r_28 h_27) (cwV 2 hts gX8_askNext_X8_mayAsk rfl rfl rfl (by decide +kernel) ⟨Nat.le_of_ble_eq_true rfl, Nat.le_of_ble_eq_true rfl⟩) (va_recv hG.1 hw.1 (ci := 8) (q0 := 0) rfl rfl) rfl hl.1 rfl (Nat.le_of_ble_eq_true rfl) dX8_askNext_51 ⟨Nat.zero_le _, Nat.zero_le _⟩ (fun H locs hw => ?_)
      refine lv_if_ne (tgt := 63) hx hb dX8_askNext_54 (by decide) (fun c_29 => ?_) (fun c_29 => ?_)
      · replace hf := if_f c_29 hf
        exact j63 y_23 y_24 S_25 _ _ _ hf hw (lv_sub hl [0, 1, 2] rfl)
      · replace hf := if_t c_29 hf
        exact j57 y_23 S_25 _ _ _ hf hw (lv_sub hl [0, 1] rfl)
  have j20 : ∀ (y_30 : Int32) (S_31 : St) (H : Heap) (locs : List Loc) (ls : Array Slot), f_X8_askNext_J20 y_30 S_31 = some S9 → Wd G A s H locs (mw G.2.1 a R S_31) → lv_has ls 3 [(0, .ref (a 0)), (1, .int y_30)] → WQ p l e rm_X8_askNext s m [.ref (a 0), .int p1] below meth c G A (mw G.2.1 a R S9) none 0 0 H locs 0 0 (F0 m 20 ls []) := by
    intro y_30 S_31 H locs ls hf hw hl
    rw [f_X8_askNext_J20] at hf
    refine lv_aload_n hx hb dX8_askNext_20 rfl (lv_at hl 0 rfl) ?_
    refine va_get (D := G.1) (ci := 8) (v := .ref (a 11)) (C := RX8) (T := TX8) (N := 45) hx hb hts hin8 hown hG.1 hw.1 0 rfl rfl 21 (by decide) (hts (.fieldLink RX8 46 "DutyDeskModel" "duty" "[I") (List.mem_of_getElem? (i := 1) rfl)) (fun _ h9 => h9) rfl dX8_askNext_21 ?_
    refine lv_sipush (v := 1000) hx hb dX8_askNext_24 (by decide) ?_
    refine lv_aload_n hx hb dX8_askNext_27 rfl (lv_at hl 0 rfl) ?_
    refine va_get (D := G.1) (ci := 8) (v := .ref (a 16)) (C := RX8) (T := TX8) (N := 45) hx hb hts hin8 hown hG.1 hw.1 0 rfl rfl 29 (by decide) (hts (.fieldLink RX8 61 "DutyDeskModel" "cPanel" "[I") (List.mem_of_getElem? (i := 2) rfl)) (fun _ h9 => h9) rfl dX8_askNext_28 ?_
    refine lv_iload_n hx hb dX8_askNext_31 rfl (lv_at hl 1 rfl) ?_
    obtain ⟨h_32, hf⟩ := gd_of hf
    refine va_iald hx hb hG.1 hw.1 16 1 (mw_atI (k := 16) rfl) rfl h_32 dX8_askNext_32 ?_
    refine lv_imul hx hb dX8_askNext_33 ?_
    refine lv_aload_n hx hb dX8_askNext_34 rfl (lv_at hl 0 rfl) ?_
    refine va_get (D := G.1) (ci := 8) (v := .ref (a 15)) (C := RX8) (T := TX8) (N := 45) hx hb hts hin8 hown hG.1 hw.1 0 rfl rfl 28 (by decide) (hts (.fieldLink RX8 58 "DutyDeskModel" "cDay" "[I") (List.mem_of_getElem? (i := 3) rfl)) (fun _ h9 => h9) rfl dX8_askNext_35 ?_
    refine lv_iload_n hx hb dX8_askNext_38 rfl (lv_at hl 1 rfl) ?_
    obtain ⟨h_33, hf⟩ := gd_of hf
    refine va_iald hx hb hG.1 hw.1 15 1 (mw_atI (k := 15) rfl) rfl h_33 dX8_askNext_39 ?_
    refine lv_iadd hx hb dX8_askNext_40 ?_
    obtain ⟨h_34, hf⟩ := gd_of hf
    refine va_iald hx hb hG.1 hw.1 11 1 (mw_atI (k := 11) rfl) rfl h_34 dX8_askNext_41 ?_
    refine lv_topi (fun x_35 ex_35 => ?_)
    replace hf := bnd_of ex_35 hf
    refine lv_istore_n (lv' := [(2, .int x_35), (0, .ref (a 0)), (1, .int y_30)]) hx hb dX8_askNext_42 rfl hl (by decide) rfl (fun ls hl => ?_)
    exact j43 y_30 x_35 S_31 _ _ _ hf hw (lv_sub hl [1, 2, 0] rfl)
  refine lv_aload_n hx hb dX8_askNext_0 rfl (lv_at hl 0 rfl) ?_
  refine lv_iload_n hx hb dX8_askNext_1 rfl (lv_at hl 1 rfl) ?_
  obtain ⟨r_37, h_36, hf⟩ := bind_of hf
  refine cV (As := [.int p1]) (rest := []) ⟨hx, hb, hml, hown, hts⟩ hG hA hw (c_X8_earlier G l a R S p1 r_37 h_36) (cwV 1 hts gX8_askNext_X8_earlier rfl rfl rfl (by decide +kernel) ⟨Nat.le_of_ble_eq_true rfl, Nat.le_of_ble_eq_true rfl⟩) (va_recv hG.1 hw.1 (ci := 8) (q0 := 0) rfl rfl) rfl hl.1 rfl (Nat.le_of_ble_eq_true rfl) dX8_askNext_2 ⟨Nat.zero_le _, Nat.zero_le _⟩ (fun H locs hw => ?_)
  refine lv_istore_n (lv' := [(2, .int r_37), (0, .ref (a 0)), (1, .int p1)]) hx hb dX8_askNext_5 rfl hl (by decide) rfl (fun ls hl => ?_)
  refine lv_iload_n hx hb dX8_askNext_6 rfl (lv_at hl 0 rfl) ?_
  refine lv_iconst (v := (-1)) hx hb dX8_askNext_7 (by decide) ?_
  refine lv_icmp_eq (tgt := 20) hx hb dX8_askNext_8 (by decide) (fun c_38 => ?_) (fun c_38 => ?_)
  · replace hf := if_t c_38 hf
    exact j20 p1 S _ _ _ hf hw (lv_sub hl [1, 2] rfl)
  · replace hf := if_f c_38 hf
    refine lv_aload_n hx hb dX8_askNext_11 rfl (lv_at hl 1 rfl) ?_
    refine lv_iload_n hx hb dX8_askNext_12 rfl (lv_at hl 2 rfl) ?_
    refine lv_iload_n hx hb dX8_askNext_13 rfl (lv_at hl 0 rfl) ?_
    obtain ⟨r_40, h_39, hf⟩ := bind_of hf
    refine cV (As := [.int p1, .int r_37]) (rest := []) ⟨hx, hb, hml, hown, hts⟩ hG hA hw (c_X8_mayAsk G l a R S p1 r_37 r_40 h_39) (cwV 2 hts gX8_askNext_X8_mayAsk rfl rfl rfl (by decide +kernel) ⟨Nat.le_of_ble_eq_true rfl, Nat.le_of_ble_eq_true rfl⟩) (va_recv hG.1 hw.1 (ci := 8) (q0 := 0) rfl rfl) rfl hl.1 rfl (Nat.le_of_ble_eq_true rfl) dX8_askNext_14 ⟨Nat.zero_le _, Nat.zero_le _⟩ (fun H locs hw => ?_)
    refine lv_if_ne (tgt := 43) hx hb dX8_askNext_17 (by decide) (fun c_41 => ?_) (fun c_41 => ?_)
    · replace hf := if_f c_41 hf
      exact j43 p1 r_37 S _ _ _ hf hw (lv_sub hl [1, 2, 0] rfl)
    · replace hf := if_t c_41 hf
      exact j20 p1 S _ _ _ hf hw (lv_sub hl [1, 2] rfl)
/-! DutyDeskModel.call(IIIIIII)I -/
def rm_X8_call : Room := { frames := 7, cells := 0, slots := 0, locals := 158 }
def f_X8_call_L197 (x_9 : Int32) : (Int32 × St) → Option ((Int32 × St) ⊕ (Int32 × St))
  | (v_28, S_29) =>
  (if 24 ≤ v_28 then
    bnd (sI S_29 13 ((gI S_29 13) + 1)) fun S_31 => (f_X8_askNext S_31 x_9).bind (fun S_33 => some (.inr ((x_9, S_33))))
  else
    gd ((24 * x_9) + v_28) 3600 (bnd (sM S_29 29 (((24 * x_9) + v_28).toNatClampNeg) (vp_nar .boolean 0)) fun S_37 => bnd (v_28 + 1) fun x_38 => some (.inl (x_38, S_37))))
def f_X8_call_J99 (y_1 : Int32) (y_2 : Int32) (y_3 : Int32) (y_4 : Int32) (y_5 : Int32) (y_6 : Int32) (S_7 : St) : Option (Int32 × St) :=
  (if (gI S_7 13) = 150 then
    some (((-3), S_7))
  else
    bnd (gI S_7 13) fun x_9 => gd x_9 150 (bnd (sM S_7 15 (x_9.toNatClampNeg) y_1) fun S_11 => gd x_9 150 (bnd (sM S_11 16 (x_9.toNatClampNeg) y_2) fun S_13 => gd x_9 150 (bnd (sM S_13 17 (x_9.toNatClampNeg) y_3) fun S_15 => gd x_9 150 (bnd (sM S_15 18 (x_9.toNatClampNeg) y_4) fun S_17 => gd x_9 150 (bnd (sM S_17 19 (x_9.toNatClampNeg) y_5) fun S_19 => gd x_9 150 (bnd (sM S_19 20 (x_9.toNatClampNeg) y_6) fun S_21 => gd x_9 150 (bnd (sM S_21 22 (x_9.toNatClampNeg) 0) fun S_23 => gd x_9 150 (bnd (sM S_23 24 (x_9.toNatClampNeg) (-1)) fun S_25 => gd x_9 150 (bnd (sM S_25 28 (x_9.toNatClampNeg) 0) fun S_27 => loopF (f_X8_call_L197 x_9) FU (0, S_27)))))))))))
def f_X8_call (S : St) (p1 : Int32) (p2 : Int32) (p3 : Int32) (p4 : Int32) (p5 : Int32) (p6 : Int32) (p7 : Int32) : Option (Int32 × St) :=
  (f_X8_isDay p1).bind (fun r_42 => (if r_42 = 0 then
    some (((-2), S))
  else
    (f_X8_in p2 0 1439).bind (fun r_46 => (if r_46 = 0 then
    some (((-2), S))
  else
    (f_X8_in p3 0 5).bind (fun r_50 => (if r_50 = 0 then
    some (((-2), S))
  else
    (f_X8_in p4 0 9).bind (fun r_54 => (if r_54 = 0 then
    some (((-2), S))
  else
    (f_X8_in p5 (-1) 7).bind (fun r_58 => (if r_58 = 0 then
    some (((-2), S))
  else
    (f_X8_in p6 0 99).bind (fun r_62 => (if r_62 = 0 then
    some (((-2), S))
  else
    (f_X8_in p7 0 9).bind (fun r_66 => (if r_66 = 0 then
    some (((-2), S))
  else
    (if (gI S 13) ≤ 0 then
    f_X8_call_J99 p1 p3 p4 p5 p6 p7 S
  else
    gd ((gI S 13) - 1) 150 ((if (gM S 15 ((gI S 13) - 1).toNatClampNeg) ≤ p1 then
    f_X8_call_J99 p1 p3 p4 p5 p6 p7 S
  else
    some (((-2), S)))))))))))))))))))
set_option maxHeartbeats 4000000 in
set_option maxRecDepth 100000 in
theorem c_X8_call (G : GP) (l : Launch) (a : Nat → Nat) (R : va_W) (S : St) (p1 : Int32) (p2 : Int32) (p3 : Int32) (p4 : Int32) (p5 : Int32) (p6 : Int32) (p7 : Int32) (r0 : Int32) (S9 : St) (hf : f_X8_call S p1 p2 p3 p4 p5 p6 p7 = some (r0, S9)) : MC G l yX8_call wsX8_call rm_X8_call [.ref (a 0), .int p1, .int p2, .int p3, .int p4, .int p5, .int p6, .int p7] (mw G.2.1 a R S) (mw G.2.1 a R S9) (some (.int r0)) 0 0 := by
  refine MC.mk (cc := cX8_call) (maxL := 10) (ret := (some .int)) (by decide) rfl (Nat.le_of_ble_eq_true rfl) ?_
  intro p e s m below meth c A ls ⟨hx, hb, hr, hml, hown, hlocks, _, hts⟩ hw hG hA hl
  have hl : lv_has ls 10 [(0, .ref (a 0)), (1, .int p1), (2, .int p2), (3, .int p3), (4, .int p4), (5, .int p5), (6, .int p6), (7, .int p7)] := hl
  have hin8 : ∀ w ∈ u_ws RX8 TX8 45, w ∈ wsX8_call := by decide +kernel
  rw [f_X8_call] at hf
  have j99 : ∀ (y_1 : Int32) (y_2 : Int32) (y_3 : Int32) (y_4 : Int32) (y_5 : Int32) (y_6 : Int32) (S_7 : St) (H : Heap) (locs : List Loc) (ls : Array Slot), f_X8_call_J99 y_1 y_2 y_3 y_4 y_5 y_6 S_7 = some (r0, S9) → Wd G A s H locs (mw G.2.1 a R S_7) → lv_has ls 10 [(0, .ref (a 0)), (1, .int y_1), (3, .int y_2), (4, .int y_3), (5, .int y_4), (6, .int y_5), (7, .int y_6)] → WQ p l e rm_X8_call s m [.ref (a 0), .int p1, .int p2, .int p3, .int p4, .int p5, .int p6, .int p7] below meth c G A (mw G.2.1 a R S9) (some (.int r0)) 0 0 H locs 0 0 (F0 m 99 ls []) := by
    intro y_1 y_2 y_3 y_4 y_5 y_6 S_7 H locs ls hf hw hl
    rw [f_X8_call_J99] at hf
    refine lv_aload_n hx hb dX8_call_99 rfl (lv_at hl 0 rfl) ?_
    refine va_get (D := G.1) (ci := 8) (v := .int (gI S_7 13)) (C := RX8) (T := TX8) (N := 45) hx hb hts hin8 hown hG.1 hw.1 0 rfl rfl 27 (by decide) (hts (.fieldLink RX8 231 "DutyDeskModel" "calls" "I") (List.mem_of_getElem? (i := 1) rfl)) (fun _ h9 => h9) rfl dX8_call_100 ?_
    refine lv_sipush (v := 150) hx hb dX8_call_103 (by decide) ?_
    refine lv_icmp_ne (tgt := 112) hx hb dX8_call_106 (by decide) (fun c_8 => ?_) (fun c_8 => ?_)
    · replace hf := if_f c_8 hf
      refine lv_aload_n hx hb dX8_call_112 rfl (lv_at hl 0 rfl) ?_
      refine va_get (D := G.1) (ci := 8) (v := .int (gI S_7 13)) (C := RX8) (T := TX8) (N := 45) hx hb hts hin8 hown hG.1 hw.1 0 rfl rfl 27 (by decide) (hts (.fieldLink RX8 231 "DutyDeskModel" "calls" "I") (List.mem_of_getElem? (i := 1) rfl)) (fun _ h9 => h9) rfl dX8_call_113 ?_
      refine lv_topi (fun x_9 ex_9 => ?_)
      replace hf := bnd_of ex_9 hf
      refine lv_istore (lv' := [(8, .int x_9), (0, .ref (a 0)), (1, .int y_1), (3, .int y_2), (4, .int y_3), (5, .int y_4), (6, .int y_5), (7, .int y_6)]) hx hb dX8_call_116 hl (by decide) rfl (fun ls hl => ?_)
      refine lv_aload_n hx hb dX8_call_118 rfl (lv_at hl 1 rfl) ?_
      refine va_get (D := G.1) (ci := 8) (v := .ref (a 15)) (C := RX8) (T := TX8) (N := 45) hx hb hts hin8 hown hG.1 hw.1 0 rfl rfl 28 (by decide) (hts (.fieldLink RX8 58 "DutyDeskModel" "cDay" "[I") (List.mem_of_getElem? (i := 2) rfl)) (fun _ h9 => h9) rfl dX8_call_119 ?_
      refine lv_iload hx hb dX8_call_122 (lv_at hl 0 rfl) ?_
      refine lv_iload_n hx hb dX8_call_124 rfl (lv_at hl 2 rfl) ?_
      obtain ⟨h_10, hf⟩ := gd_of hf
      refine va_iast hx hb hG.1 hw.1 hw.2.1 hw.2.2 15 1 (mw_atI (k := 15) rfl) rfl h_10 dX8_call_125 (fun H locs hP hD hS => ?_)
      obtain ⟨S_11, eS_11⟩ : ∃ z : St, z = sM S_7 15 (x_9.toNatClampNeg) y_1 := ⟨_, rfl⟩
      replace hf := bnd_of eS_11 hf
      have hw : Wd G A s H locs (mw G.2.1 a R S_11) := wd_eq (by rw [eS_11]; exact mw_upI (k := 15) rfl _) hP hD hS
      refine lv_aload_n hx hb dX8_call_126 rfl (lv_at hl 1 rfl) ?_
      refine va_get (D := G.1) (ci := 8) (v := .ref (a 16)) (C := RX8) (T := TX8) (N := 45) hx hb hts hin8 hown hG.1 hw.1 0 rfl rfl 29 (by decide) (hts (.fieldLink RX8 61 "DutyDeskModel" "cPanel" "[I") (List.mem_of_getElem? (i := 3) rfl)) (fun _ h9 => h9) rfl dX8_call_127 ?_
      refine lv_iload hx hb dX8_call_130 (lv_at hl 0 rfl) ?_
      refine lv_iload_n hx hb dX8_call_132 rfl (lv_at hl 3 rfl) ?_
      obtain ⟨h_12, hf⟩ := gd_of hf
      refine va_iast hx hb hG.1 hw.1 hw.2.1 hw.2.2 16 1 (mw_atI (k := 16) rfl) rfl h_12 dX8_call_133 (fun H locs hP hD hS => ?_)
      obtain ⟨S_13, eS_13⟩ : ∃ z : St, z = sM S_11 16 (x_9.toNatClampNeg) y_2 := ⟨_, rfl⟩
      replace hf := bnd_of eS_13 hf
      have hw : Wd G A s H locs (mw G.2.1 a R S_13) := wd_eq (by rw [eS_13]; exact mw_upI (k := 16) rfl _) hP hD hS
      refine lv_aload_n hx hb dX8_call_134 rfl (lv_at hl 1 rfl) ?_
      refine va_get (D := G.1) (ci := 8) (v := .ref (a 17)) (C := RX8) (T := TX8) (N := 45) hx hb hts hin8 hown hG.1 hw.1 0 rfl rfl 30 (by decide) (hts (.fieldLink RX8 64 "DutyDeskModel" "cTown" "[I") (List.mem_of_getElem? (i := 4) rfl)) (fun _ h9 => h9) rfl dX8_call_135 ?_
      refine lv_iload hx hb dX8_call_138 (lv_at hl 0 rfl) ?_
      refine lv_iload hx hb dX8_call_140 (lv_at hl 4 rfl) ?_
      obtain ⟨h_14, hf⟩ := gd_of hf
      refine va_iast hx hb hG.1 hw.1 hw.2.1 hw.2.2 17 1 (mw_atI (k := 17) rfl) rfl h_14 dX8_call_142 (fun H locs hP hD hS => ?_)
      obtain ⟨S_15, eS_15⟩ : ∃ z : St, z = sM S_13 17 (x_9.toNatClampNeg) y_3 := ⟨_, rfl⟩
      replace hf := bnd_of eS_15 hf
      have hw : Wd G A s H locs (mw G.2.1 a R S_15) := wd_eq (by rw [eS_15]; exact mw_upI (k := 17) rfl _) hP hD hS
      refine lv_aload_n hx hb dX8_call_143 rfl (lv_at hl 1 rfl) ?_
      refine va_get (D := G.1) (ci := 8) (v := .ref (a 18)) (C := RX8) (T := TX8) (N := 45) hx hb hts hin8 hown hG.1 hw.1 0 rfl rfl 31 (by decide) (hts (.fieldLink RX8 67 "DutyDeskModel" "cTongue" "[I") (List.mem_of_getElem? (i := 5) rfl)) (fun _ h9 => h9) rfl dX8_call_144 ?_
      refine lv_iload hx hb dX8_call_147 (lv_at hl 0 rfl) ?_
      refine lv_iload hx hb dX8_call_149 (lv_at hl 5 rfl) ?_
      obtain ⟨h_16, hf⟩ := gd_of hf
      refine va_iast hx hb hG.1 hw.1 hw.2.1 hw.2.2 18 1 (mw_atI (k := 18) rfl) rfl h_16 dX8_call_151 (fun H locs hP hD hS => ?_)
      obtain ⟨S_17, eS_17⟩ : ∃ z : St, z = sM S_15 18 (x_9.toNatClampNeg) y_4 := ⟨_, rfl⟩
      replace hf := bnd_of eS_17 hf
      have hw : Wd G A s H locs (mw G.2.1 a R S_17) := wd_eq (by rw [eS_17]; exact mw_upI (k := 18) rfl _) hP hD hS
      refine lv_aload_n hx hb dX8_call_152 rfl (lv_at hl 1 rfl) ?_
      refine va_get (D := G.1) (ci := 8) (v := .ref (a 19)) (C := RX8) (T := TX8) (N := 45) hx hb hts hin8 hown hG.1 hw.1 0 rfl rfl 32 (by decide) (hts (.fieldLink RX8 70 "DutyDeskModel" "cCase" "[I") (List.mem_of_getElem? (i := 6) rfl)) (fun _ h9 => h9) rfl dX8_call_153 ?_
      refine lv_iload hx hb dX8_call_156 (lv_at hl 0 rfl) ?_
      refine lv_iload hx hb dX8_call_158 (lv_at hl 6 rfl) ?_
      obtain ⟨h_18, hf⟩ := gd_of hf
      refine va_iast hx hb hG.1 hw.1 hw.2.1 hw.2.2 19 1 (mw_atI (k := 19) rfl) rfl h_18 dX8_call_160 (fun H locs hP hD hS => ?_)
      obtain ⟨S_19, eS_19⟩ : ∃ z : St, z = sM S_17 19 (x_9.toNatClampNeg) y_5 := ⟨_, rfl⟩
      replace hf := bnd_of eS_19 hf
      have hw : Wd G A s H locs (mw G.2.1 a R S_19) := wd_eq (by rw [eS_19]; exact mw_upI (k := 19) rfl _) hP hD hS
      refine lv_aload_n hx hb dX8_call_161 rfl (lv_at hl 1 rfl) ?_
      refine va_get (D := G.1) (ci := 8) (v := .ref (a 20)) (C := RX8) (T := TX8) (N := 45) hx hb hts hin8 hown hG.1 hw.1 0 rfl rfl 33 (by decide) (hts (.fieldLink RX8 73 "DutyDeskModel" "cAccused" "[I") (List.mem_of_getElem? (i := 7) rfl)) (fun _ h9 => h9) rfl dX8_call_162 ?_
      refine lv_iload hx hb dX8_call_165 (lv_at hl 0 rfl) ?_
      refine lv_iload hx hb dX8_call_167 (lv_at hl 7 rfl) ?_
      obtain ⟨h_20, hf⟩ := gd_of hf
      refine va_iast hx hb hG.1 hw.1 hw.2.1 hw.2.2 20 1 (mw_atI (k := 20) rfl) rfl h_20 dX8_call_169 (fun H locs hP hD hS => ?_)
      obtain ⟨S_21, eS_21⟩ : ∃ z : St, z = sM S_19 20 (x_9.toNatClampNeg) y_6 := ⟨_, rfl⟩
      replace hf := bnd_of eS_21 hf
      have hw : Wd G A s H locs (mw G.2.1 a R S_21) := wd_eq (by rw [eS_21]; exact mw_upI (k := 20) rfl _) hP hD hS
      refine lv_aload_n hx hb dX8_call_170 rfl (lv_at hl 1 rfl) ?_
      refine va_get (D := G.1) (ci := 8) (v := .ref (a 22)) (C := RX8) (T := TX8) (N := 45) hx hb hts hin8 hown hG.1 hw.1 0 rfl rfl 35 (by decide) (hts (.fieldLink RX8 79 "DutyDeskModel" "cRefused" "[I") (List.mem_of_getElem? (i := 8) rfl)) (fun _ h9 => h9) rfl dX8_call_171 ?_
      refine lv_iload hx hb dX8_call_174 (lv_at hl 0 rfl) ?_
      refine lv_iconst (v := 0) hx hb dX8_call_176 (by decide) ?_
      obtain ⟨h_22, hf⟩ := gd_of hf
      refine va_iast hx hb hG.1 hw.1 hw.2.1 hw.2.2 22 1 (mw_atI (k := 22) rfl) rfl h_22 dX8_call_177 (fun H locs hP hD hS => ?_)
      obtain ⟨S_23, eS_23⟩ : ∃ z : St, z = sM S_21 22 (x_9.toNatClampNeg) 0 := ⟨_, rfl⟩
      replace hf := bnd_of eS_23 hf
      have hw : Wd G A s H locs (mw G.2.1 a R S_23) := wd_eq (by rw [eS_23]; exact mw_upI (k := 22) rfl _) hP hD hS
      refine lv_aload_n hx hb dX8_call_178 rfl (lv_at hl 1 rfl) ?_
      refine va_get (D := G.1) (ci := 8) (v := .ref (a 24)) (C := RX8) (T := TX8) (N := 45) hx hb hts hin8 hown hG.1 hw.1 0 rfl rfl 37 (by decide) (hts (.fieldLink RX8 85 "DutyDeskModel" "cTaker" "[I") (List.mem_of_getElem? (i := 9) rfl)) (fun _ h9 => h9) rfl dX8_call_179 ?_
      refine lv_iload hx hb dX8_call_182 (lv_at hl 0 rfl) ?_
      refine lv_iconst (v := (-1)) hx hb dX8_call_184 (by decide) ?_
      obtain ⟨h_24, hf⟩ := gd_of hf
      refine va_iast hx hb hG.1 hw.1 hw.2.1 hw.2.2 24 1 (mw_atI (k := 24) rfl) rfl h_24 dX8_call_185 (fun H locs hP hD hS => ?_)
      obtain ⟨S_25, eS_25⟩ : ∃ z : St, z = sM S_23 24 (x_9.toNatClampNeg) (-1) := ⟨_, rfl⟩
      replace hf := bnd_of eS_25 hf
      have hw : Wd G A s H locs (mw G.2.1 a R S_25) := wd_eq (by rw [eS_25]; exact mw_upI (k := 24) rfl _) hP hD hS
      refine lv_aload_n hx hb dX8_call_186 rfl (lv_at hl 1 rfl) ?_
      refine va_get (D := G.1) (ci := 8) (v := .ref (a 28)) (C := RX8) (T := TX8) (N := 45) hx hb hts hin8 hown hG.1 hw.1 0 rfl rfl 41 (by decide) (hts (.fieldLink RX8 97 "DutyDeskModel" "cPaid" "[I") (List.mem_of_getElem? (i := 10) rfl)) (fun _ h9 => h9) rfl dX8_call_187 ?_
      refine lv_iload hx hb dX8_call_190 (lv_at hl 0 rfl) ?_
      refine lv_iconst (v := 0) hx hb dX8_call_192 (by decide) ?_
      obtain ⟨h_26, hf⟩ := gd_of hf
      refine va_iast hx hb hG.1 hw.1 hw.2.1 hw.2.2 28 1 (mw_atI (k := 28) rfl) rfl h_26 dX8_call_193 (fun H locs hP hD hS => ?_)
      obtain ⟨S_27, eS_27⟩ : ∃ z : St, z = sM S_25 28 (x_9.toNatClampNeg) 0 := ⟨_, rfl⟩
      replace hf := bnd_of eS_27 hf
      have hw : Wd G A s H locs (mw G.2.1 a R S_27) := wd_eq (by rw [eS_27]; exact mw_upI (k := 28) rfl _) hP hD hS
      refine lv_iconst (v := 0) hx hb dX8_call_194 (by decide) ?_
      refine lv_istore (lv' := [(9, .int 0), (8, .int x_9), (0, .ref (a 0)), (1, .int y_1), (3, .int y_2), (4, .int y_3), (5, .int y_4), (6, .int y_5), (7, .int y_6)]) hx hb dX8_call_195 hl (by decide) rfl (fun ls hl => ?_)
      refine loopF_ind (body := f_X8_call_L197 x_9) (fun (q : Int32 × St) => match q with | (v_28, S_29) => ∀ (H : Heap) (locs : List Loc) (ls : Array Slot), Wd G A s H locs (mw G.2.1 a R S_29) → lv_has ls 10 [(0, .ref (a 0)), (8, .int x_9), (9, .int v_28)] → WQ p l e rm_X8_call s m [.ref (a 0), .int p1, .int p2, .int p3, .int p4, .int p5, .int p6, .int p7] below meth c G A (mw G.2.1 a R S9) (some (.int r0)) 0 0 H locs 0 0 (F0 m 197 ls [])) ?_ FU (0, S_27) hf _ _ _ hw (lv_sub hl [2, 1, 0] rfl)
      clear hf hw hl
      intro ⟨v_28, S_29⟩ t0_197 hf hz1_0_197 hz2_0_197 H locs ls hw hl
      rw [f_X8_call_L197] at hf
      refine lv_iload hx hb dX8_call_197 (lv_at hl 2 rfl) ?_
      refine lv_bipush (v := 24) hx hb dX8_call_199 (by decide) ?_
      refine lv_icmp_ge (tgt := 224) hx hb dX8_call_201 (by decide) (fun c_30 => ?_) (fun c_30 => ?_)
      · replace hf := if_t c_30 hf
        refine lv_aload_n hx hb dX8_call_224 rfl (lv_at hl 0 rfl) ?_
        refine lv_dup hx hb dX8_call_225 rfl ?_
        refine va_get (D := G.1) (ci := 8) (v := .int (gI S_29 13)) (C := RX8) (T := TX8) (N := 45) hx hb hts hin8 hown hG.1 hw.1 0 rfl rfl 27 (by decide) (hts (.fieldLink RX8 231 "DutyDeskModel" "calls" "I") (List.mem_of_getElem? (i := 1) rfl)) (fun _ h9 => h9) rfl dX8_call_226 ?_
        refine lv_iconst (v := 1) hx hb dX8_call_229 (by decide) ?_
        refine lv_iadd hx hb dX8_call_230 ?_
        refine va_put (D := G.1) (ci := 8) (v := .int ((gI S_29 13) + 1)) (ty := .int) (C := RX8) (T := TX8) (N := 45) hx hb hts hin8 tyX8 tyX8_ok nmX8 hown hG.1 hw.1 hw.2.1 hw.2.2 0 rfl rfl 27 (by decide) (hts (.fieldLink RX8 231 "DutyDeskModel" "calls" "I") (List.mem_of_getElem? (i := 1) rfl)) (fun _ h9 => h9) rfl (by decide +kernel) rfl rfl (Nat.le_of_ble_eq_true rfl) dX8_call_231 (fun H locs hP hD hS => ?_)
        obtain ⟨S_31, eS_31⟩ : ∃ z : St, z = sI S_29 13 ((gI S_29 13) + 1) := ⟨_, rfl⟩
        replace hf := bnd_of eS_31 hf
        have hw : Wd G A s H locs (mw G.2.1 a R S_31) := wd_eq (by rw [eS_31]; exact mw_upI13 _) hP hD hS
        refine lv_aload_n hx hb dX8_call_234 rfl (lv_at hl 0 rfl) ?_
        refine lv_iload hx hb dX8_call_235 (lv_at hl 1 rfl) ?_
        obtain ⟨S_33, h_32, hf⟩ := bind_of hf
        refine cV (As := [.int x_9]) (rest := []) ⟨hx, hb, hml, hown, hts⟩ hG hA hw (c_X8_askNext G l a R S_31 x_9 S_33 h_32) (cwV 1 hts gX8_call_X8_askNext rfl rfl rfl (by decide +kernel) ⟨Nat.le_of_ble_eq_true rfl, Nat.le_of_ble_eq_true rfl⟩) (va_recv hG.1 hw.1 (ci := 8) (q0 := 0) rfl rfl) rfl hl.1 rfl (Nat.le_of_ble_eq_true rfl) dX8_call_237 ⟨Nat.zero_le _, Nat.zero_le _⟩ (fun H locs hw => ?_)
        refine lv_iload hx hb dX8_call_240 (lv_at hl 1 rfl) ?_
        have e_34 := Option.some.inj hf
        have e_35 := hz2_0_197 _ e_34.symm
        obtain ⟨rfl, rfl⟩ := Prod.mk.inj e_35
        exact wd_iret hx hb hr hlocks hw dX8_call_242
      · replace hf := if_f c_30 hf
        refine lv_aload_n hx hb dX8_call_204 rfl (lv_at hl 0 rfl) ?_
        refine va_get (D := G.1) (ci := 8) (v := .ref (a 29)) (C := RX8) (T := TX8) (N := 45) hx hb hts hin8 hown hG.1 hw.1 0 rfl rfl 42 (by decide) (hts (.fieldLink RX8 100 "DutyDeskModel" "wasAsked" "[Z") (List.mem_of_getElem? (i := 11) rfl)) (fun _ h9 => h9) rfl dX8_call_205 ?_
        refine lv_bipush (v := 24) hx hb dX8_call_208 (by decide) ?_
        refine lv_iload hx hb dX8_call_210 (lv_at hl 1 rfl) ?_
        refine lv_imul hx hb dX8_call_212 ?_
        refine lv_iload hx hb dX8_call_213 (lv_at hl 2 rfl) ?_
        refine lv_iadd hx hb dX8_call_215 ?_
        refine lv_iconst (v := 0) hx hb dX8_call_216 (by decide) ?_
        obtain ⟨h_36, hf⟩ := gd_of hf
        refine va_zast hx hb hG.1 hw.1 hw.2.1 hw.2.2 29 3 (mw_atZ (k := 29) rfl) rfl h_36 dX8_call_217 (fun H locs hP hD hS => ?_)
        obtain ⟨S_37, eS_37⟩ : ∃ z : St, z = sM S_29 29 (((24 * x_9) + v_28).toNatClampNeg) (vp_nar .boolean 0) := ⟨_, rfl⟩
        replace hf := bnd_of eS_37 hf
        have hw : Wd G A s H locs (mw G.2.1 a R S_37) := wd_eq (by rw [eS_37]; exact mw_upZ (k := 29) rfl _) hP hD hS
        obtain ⟨x_38, ex_38⟩ : ∃ z : Int32, z = v_28 + 1 := ⟨_, rfl⟩
        replace hf := bnd_of ex_38 hf
        refine lv_iinc (v := x_38) (lv' := [(9, .int x_38), (0, .ref (a 0)), (8, .int x_9)]) hx hb dX8_call_218 hl (k := 2) rfl (by rw [ex_38]; rfl) (by decide) rfl (fun ls hl => ?_)
        refine lv_goto (tgt := 197) hx hb dX8_call_221 (by decide) ?_
        have e_39 := Option.some.inj hf
        exact hz1_0_197 _ e_39.symm _ _ _ hw (lv_sub hl [1, 2, 0] rfl)
    · replace hf := if_t c_8 hf
      refine lv_bipush (v := (-3)) hx hb dX8_call_109 (by decide) ?_
      have e_40 := Option.some.inj hf
      obtain ⟨rfl, rfl⟩ := Prod.mk.inj e_40
      exact wd_iret hx hb hr hlocks hw dX8_call_111
  refine lv_iload_n hx hb dX8_call_0 rfl (lv_at hl 1 rfl) ?_
  obtain ⟨r_42, h_41, hf⟩ := bind_of hf
  refine cS (As := [.int p1]) (rest := []) ⟨hx, hb, hml, hown, hts⟩ hG hA hw (c_X8_isDay G l _ p1 r_42 h_41) (va_cwS 1 hts gX8_call_X8_isDay rfl rfl rfl (by decide +kernel) ⟨Nat.le_of_ble_eq_true rfl, Nat.le_of_ble_eq_true rfl⟩) rfl hl.1 rfl (Nat.le_of_ble_eq_true rfl) dX8_call_1 ⟨Nat.zero_le _, Nat.zero_le _⟩ (fun H locs hw => ?_)
  refine lv_if_eq (tgt := 71) hx hb dX8_call_4 (by decide) (fun c_43 => ?_) (fun c_43 => ?_)
  · replace hf := if_t c_43 hf
    refine lv_bipush (v := (-2)) hx hb dX8_call_71 (by decide) ?_
    have e_44 := Option.some.inj hf
    obtain ⟨rfl, rfl⟩ := Prod.mk.inj e_44
    exact wd_iret hx hb hr hlocks hw dX8_call_73
  · replace hf := if_f c_43 hf
    refine lv_iload_n hx hb dX8_call_7 rfl (lv_at hl 2 rfl) ?_
    refine lv_iconst (v := 0) hx hb dX8_call_8 (by decide) ?_
    refine lv_sipush (v := 1439) hx hb dX8_call_9 (by decide) ?_
    obtain ⟨r_46, h_45, hf⟩ := bind_of hf
    refine cS (As := [.int p2, .int 0, .int 1439]) (rest := []) ⟨hx, hb, hml, hown, hts⟩ hG hA hw (c_X8_in G l _ p2 0 1439 r_46 h_45) (va_cwS 3 hts gX8_call_X8_in rfl rfl rfl (by decide +kernel) ⟨Nat.le_of_ble_eq_true rfl, Nat.le_of_ble_eq_true rfl⟩) rfl hl.1 rfl (Nat.le_of_ble_eq_true rfl) dX8_call_12 ⟨Nat.zero_le _, Nat.zero_le _⟩ (fun H locs hw => ?_)
    refine lv_if_eq (tgt := 71) hx hb dX8_call_15 (by decide) (fun c_47 => ?_) (fun c_47 => ?_)
    · replace hf := if_t c_47 hf
      refine lv_bipush (v := (-2)) hx hb dX8_call_71 (by decide) ?_
      have e_48 := Option.some.inj hf
      obtain ⟨rfl, rfl⟩ := Prod.mk.inj e_48
      exact wd_iret hx hb hr hlocks hw dX8_call_73
    · replace hf := if_f c_47 hf
      refine lv_iload_n hx hb dX8_call_18 rfl (lv_at hl 3 rfl) ?_
      refine lv_iconst (v := 0) hx hb dX8_call_19 (by decide) ?_
      refine lv_iconst (v := 5) hx hb dX8_call_20 (by decide) ?_
      obtain ⟨r_50, h_49, hf⟩ := bind_of hf
      refine cS (As := [.int p3, .int 0, .int 5]) (rest := []) ⟨hx, hb, hml, hown, hts⟩ hG hA hw (c_X8_in G l _ p3 0 5 r_50 h_49) (va_cwS 3 hts gX8_call_X8_in rfl rfl rfl (by decide +kernel) ⟨Nat.le_of_ble_eq_true rfl, Nat.le_of_ble_eq_true rfl⟩) rfl hl.1 rfl (Nat.le_of_ble_eq_true rfl) dX8_call_21 ⟨Nat.zero_le _, Nat.zero_le _⟩ (fun H locs hw => ?_)
      refine lv_if_eq (tgt := 71) hx hb dX8_call_24 (by decide) (fun c_51 => ?_) (fun c_51 => ?_)
      · replace hf := if_t c_51 hf
        refine lv_bipush (v := (-2)) hx hb dX8_call_71 (by decide) ?_
        have e_52 := Option.some.inj hf
        obtain ⟨rfl, rfl⟩ := Prod.mk.inj e_52
        exact wd_iret hx hb hr hlocks hw dX8_call_73
      · replace hf := if_f c_51 hf
        refine lv_iload hx hb dX8_call_27 (lv_at hl 4 rfl) ?_
        refine lv_iconst (v := 0) hx hb dX8_call_29 (by decide) ?_
        refine lv_bipush (v := 9) hx hb dX8_call_30 (by decide) ?_
        obtain ⟨r_54, h_53, hf⟩ := bind_of hf
        refine cS (As := [.int p4, .int 0, .int 9]) (rest := []) ⟨hx, hb, hml, hown, hts⟩ hG hA hw (c_X8_in G l _ p4 0 9 r_54 h_53) (va_cwS 3 hts gX8_call_X8_in rfl rfl rfl (by decide +kernel) ⟨Nat.le_of_ble_eq_true rfl, Nat.le_of_ble_eq_true rfl⟩) rfl hl.1 rfl (Nat.le_of_ble_eq_true rfl) dX8_call_32 ⟨Nat.zero_le _, Nat.zero_le _⟩ (fun H locs hw => ?_)
        refine lv_if_eq (tgt := 71) hx hb dX8_call_35 (by decide) (fun c_55 => ?_) (fun c_55 => ?_)
        · replace hf := if_t c_55 hf
          refine lv_bipush (v := (-2)) hx hb dX8_call_71 (by decide) ?_
          have e_56 := Option.some.inj hf
          obtain ⟨rfl, rfl⟩ := Prod.mk.inj e_56
          exact wd_iret hx hb hr hlocks hw dX8_call_73
        · replace hf := if_f c_55 hf
          refine lv_iload hx hb dX8_call_38 (lv_at hl 5 rfl) ?_
          refine lv_iconst (v := (-1)) hx hb dX8_call_40 (by decide) ?_
          refine lv_bipush (v := 7) hx hb dX8_call_41 (by decide) ?_
          obtain ⟨r_58, h_57, hf⟩ := bind_of hf
          refine cS (As := [.int p5, .int (-1), .int 7]) (rest := []) ⟨hx, hb, hml, hown, hts⟩ hG hA hw (c_X8_in G l _ p5 (-1) 7 r_58 h_57) (va_cwS 3 hts gX8_call_X8_in rfl rfl rfl (by decide +kernel) ⟨Nat.le_of_ble_eq_true rfl, Nat.le_of_ble_eq_true rfl⟩) rfl hl.1 rfl (Nat.le_of_ble_eq_true rfl) dX8_call_43 ⟨Nat.zero_le _, Nat.zero_le _⟩ (fun H locs hw => ?_)
          refine lv_if_eq (tgt := 71) hx hb dX8_call_46 (by decide) (fun c_59 => ?_) (fun c_59 => ?_)
          · replace hf := if_t c_59 hf
            refine lv_bipush (v := (-2)) hx hb dX8_call_71 (by decide) ?_
            have e_60 := Option.some.inj hf
            obtain ⟨rfl, rfl⟩ := Prod.mk.inj e_60
            exact wd_iret hx hb hr hlocks hw dX8_call_73
          · replace hf := if_f c_59 hf
            refine lv_iload hx hb dX8_call_49 (lv_at hl 6 rfl) ?_
            refine lv_iconst (v := 0) hx hb dX8_call_51 (by decide) ?_
            refine lv_bipush (v := 99) hx hb dX8_call_52 (by decide) ?_
            obtain ⟨r_62, h_61, hf⟩ := bind_of hf
            refine cS (As := [.int p6, .int 0, .int 99]) (rest := []) ⟨hx, hb, hml, hown, hts⟩ hG hA hw (c_X8_in G l _ p6 0 99 r_62 h_61) (va_cwS 3 hts gX8_call_X8_in rfl rfl rfl (by decide +kernel) ⟨Nat.le_of_ble_eq_true rfl, Nat.le_of_ble_eq_true rfl⟩) rfl hl.1 rfl (Nat.le_of_ble_eq_true rfl) dX8_call_54 ⟨Nat.zero_le _, Nat.zero_le _⟩ (fun H locs hw => ?_)
            refine lv_if_eq (tgt := 71) hx hb dX8_call_57 (by decide) (fun c_63 => ?_) (fun c_63 => ?_)
            · replace hf := if_t c_63 hf
              refine lv_bipush (v := (-2)) hx hb dX8_call_71 (by decide) ?_
              have e_64 := Option.some.inj hf
              obtain ⟨rfl, rfl⟩ := Prod.mk.inj e_64
              exact wd_iret hx hb hr hlocks hw dX8_call_73
            · replace hf := if_f c_63 hf
              refine lv_iload hx hb dX8_call_60 (lv_at hl 7 rfl) ?_
              refine lv_iconst (v := 0) hx hb dX8_call_62 (by decide) ?_
              refine lv_bipush (v := 9) hx hb dX8_call_63 (by decide) ?_
              obtain ⟨r_66, h_65, hf⟩ := bind_of hf
              refine cS (As := [.int p7, .int 0, .int 9]) (rest := []) ⟨hx, hb, hml, hown, hts⟩ hG hA hw (c_X8_in G l _ p7 0 9 r_66 h_65) (va_cwS 3 hts gX8_call_X8_in rfl rfl rfl (by decide +kernel) ⟨Nat.le_of_ble_eq_true rfl, Nat.le_of_ble_eq_true rfl⟩) rfl hl.1 rfl (Nat.le_of_ble_eq_true rfl) dX8_call_65 ⟨Nat.zero_le _, Nat.zero_le _⟩ (fun H locs hw => ?_)
              refine lv_if_ne (tgt := 74) hx hb dX8_call_68 (by decide) (fun c_67 => ?_) (fun c_67 => ?_)
              · replace hf := if_f c_67 hf
                refine lv_aload_n hx hb dX8_call_74 rfl (lv_at hl 0 rfl) ?_
                refine va_get (D := G.1) (ci := 8) (v := .int (gI S 13)) (C := RX8) (T := TX8) (N := 45) hx hb hts hin8 hown hG.1 hw.1 0 rfl rfl 27 (by decide) (hts (.fieldLink RX8 231 "DutyDeskModel" "calls" "I") (List.mem_of_getElem? (i := 1) rfl)) (fun _ h9 => h9) rfl dX8_call_75 ?_
                refine lv_if_le (tgt := 99) hx hb dX8_call_78 (by decide) (fun c_68 => ?_) (fun c_68 => ?_)
                · replace hf := if_t c_68 hf
                  exact j99 p1 p3 p4 p5 p6 p7 S _ _ _ hf hw (lv_sub hl [0, 1, 3, 4, 5, 6, 7] rfl)
                · replace hf := if_f c_68 hf
                  refine lv_iload_n hx hb dX8_call_81 rfl (lv_at hl 1 rfl) ?_
                  refine lv_aload_n hx hb dX8_call_82 rfl (lv_at hl 0 rfl) ?_
                  refine va_get (D := G.1) (ci := 8) (v := .ref (a 15)) (C := RX8) (T := TX8) (N := 45) hx hb hts hin8 hown hG.1 hw.1 0 rfl rfl 28 (by decide) (hts (.fieldLink RX8 58 "DutyDeskModel" "cDay" "[I") (List.mem_of_getElem? (i := 2) rfl)) (fun _ h9 => h9) rfl dX8_call_83 ?_
                  refine lv_aload_n hx hb dX8_call_86 rfl (lv_at hl 0 rfl) ?_
                  refine va_get (D := G.1) (ci := 8) (v := .int (gI S 13)) (C := RX8) (T := TX8) (N := 45) hx hb hts hin8 hown hG.1 hw.1 0 rfl rfl 27 (by decide) (hts (.fieldLink RX8 231 "DutyDeskModel" "calls" "I") (List.mem_of_getElem? (i := 1) rfl)) (fun _ h9 => h9) rfl dX8_call_87 ?_
                  refine lv_iconst (v := 1) hx hb dX8_call_90 (by decide) ?_
                  refine lv_isub hx hb dX8_call_91 ?_
                  obtain ⟨h_69, hf⟩ := gd_of hf
                  refine va_iald hx hb hG.1 hw.1 15 1 (mw_atI (k := 15) rfl) rfl h_69 dX8_call_92 ?_
                  refine lv_icmp_ge (tgt := 99) hx hb dX8_call_93 (by decide) (fun c_70 => ?_) (fun c_70 => ?_)
                  · replace hf := if_t c_70 hf
                    exact j99 p1 p3 p4 p5 p6 p7 S _ _ _ hf hw (lv_sub hl [0, 1, 3, 4, 5, 6, 7] rfl)
                  · replace hf := if_f c_70 hf
                    refine lv_bipush (v := (-2)) hx hb dX8_call_96 (by decide) ?_
                    have e_71 := Option.some.inj hf
                    obtain ⟨rfl, rfl⟩ := Prod.mk.inj e_71
                    exact wd_iret hx hb hr hlocks hw dX8_call_98
              · replace hf := if_t c_67 hf
                refine lv_bipush (v := (-2)) hx hb dX8_call_71 (by decide) ?_
                have e_72 := Option.some.inj hf
                obtain ⟨rfl, rfl⟩ := Prod.mk.inj e_72
                exact wd_iret hx hb hr hlocks hw dX8_call_73
/-! DutyDeskModel.isCall(I)Z -/
def rm_X8_isCall : Room := { frames := 1, cells := 0, slots := 0, locals := 22 }
def f_X8_isCall (S : St) (p1 : Int32) : Option (Int32) :=
  (f_X8_in p1 0 ((gI S 13) - 1)).bind (fun r_2 => gz r_2 (some (r_2)))
set_option maxHeartbeats 4000000 in
set_option maxRecDepth 100000 in
theorem c_X8_isCall (G : GP) (l : Launch) (a : Nat → Nat) (R : va_W) (S : St) (p1 : Int32) (r0 : Int32) (hf : f_X8_isCall S p1 = some r0) : MC G l yX8_isCall wsX8_isCall rm_X8_isCall [.ref (a 0), .int p1] (mw G.2.1 a R S) (mw G.2.1 a R S) (some (.int r0)) 0 0 := by
  refine MC.mk (cc := cX8_isCall) (maxL := 2) (ret := (some .boolean)) (by decide) rfl (Nat.le_of_ble_eq_true rfl) ?_
  intro p e s m below meth c A ls ⟨hx, hb, hr, hml, hown, hlocks, _, hts⟩ hw hG hA hl
  have hl : lv_has ls 2 [(0, .ref (a 0)), (1, .int p1)] := hl
  have hin8 : ∀ w ∈ u_ws RX8 TX8 45, w ∈ wsX8_isCall := by decide +kernel
  rw [f_X8_isCall] at hf
  refine lv_iload_n hx hb dX8_isCall_0 rfl (lv_at hl 1 rfl) ?_
  refine lv_iconst (v := 0) hx hb dX8_isCall_1 (by decide) ?_
  refine lv_aload_n hx hb dX8_isCall_2 rfl (lv_at hl 0 rfl) ?_
  refine va_get (D := G.1) (ci := 8) (v := .int (gI S 13)) (C := RX8) (T := TX8) (N := 45) hx hb hts hin8 hown hG.1 hw.1 0 rfl rfl 27 (by decide) (hts (.fieldLink RX8 231 "DutyDeskModel" "calls" "I") (List.mem_of_getElem? (i := 1) rfl)) (fun _ h9 => h9) rfl dX8_isCall_3 ?_
  refine lv_iconst (v := 1) hx hb dX8_isCall_6 (by decide) ?_
  refine lv_isub hx hb dX8_isCall_7 ?_
  obtain ⟨r_2, h_1, hf⟩ := bind_of hf
  refine cS (As := [.int p1, .int 0, .int ((gI S 13) - 1)]) (rest := []) ⟨hx, hb, hml, hown, hts⟩ hG hA hw (c_X8_in G l _ p1 0 ((gI S 13) - 1) r_2 h_1) (va_cwS 3 hts gX8_isCall_X8_in rfl rfl rfl (by decide +kernel) ⟨Nat.le_of_ble_eq_true rfl, Nat.le_of_ble_eq_true rfl⟩) rfl hl.1 rfl (Nat.le_of_ble_eq_true rfl) dX8_isCall_8 ⟨Nat.zero_le _, Nat.zero_le _⟩ (fun H locs hw => ?_)
  obtain ⟨h_3, hf⟩ := gz_of hf
  have e_4 := Option.some.inj hf
  subst e_4
  exact wd_zret hx hb hr h_3 hlocks hw dX8_isCall_11
/-! DutyDeskModel.asked(I)I -/
def rm_X8_asked : Room := { frames := 2, cells := 0, slots := 0, locals := 43 }
def f_X8_asked (S : St) (p1 : Int32) : Option (Int32) :=
  (f_X8_isCall S p1).bind (fun r_2 => (if r_2 = 0 then
    some ((-2))
  else
    gd p1 150 ((if (gM S 21 p1.toNatClampNeg) = 0 then
    gd p1 150 (some ((gM S 23 p1.toNatClampNeg)))
  else
    some ((-1))))))
set_option maxHeartbeats 4000000 in
set_option maxRecDepth 100000 in
theorem c_X8_asked (G : GP) (l : Launch) (a : Nat → Nat) (R : va_W) (S : St) (p1 : Int32) (r0 : Int32) (hf : f_X8_asked S p1 = some r0) : MC G l yX8_asked wsX8_asked rm_X8_asked [.ref (a 0), .int p1] (mw G.2.1 a R S) (mw G.2.1 a R S) (some (.int r0)) 0 0 := by
  refine MC.mk (cc := cX8_asked) (maxL := 2) (ret := (some .int)) (by decide) rfl (Nat.le_of_ble_eq_true rfl) ?_
  intro p e s m below meth c A ls ⟨hx, hb, hr, hml, hown, hlocks, _, hts⟩ hw hG hA hl
  have hl : lv_has ls 2 [(0, .ref (a 0)), (1, .int p1)] := hl
  have hin8 : ∀ w ∈ u_ws RX8 TX8 45, w ∈ wsX8_asked := by decide +kernel
  rw [f_X8_asked] at hf
  refine lv_aload_n hx hb dX8_asked_0 rfl (lv_at hl 0 rfl) ?_
  refine lv_iload_n hx hb dX8_asked_1 rfl (lv_at hl 1 rfl) ?_
  obtain ⟨r_2, h_1, hf⟩ := bind_of hf
  refine cV (As := [.int p1]) (rest := []) ⟨hx, hb, hml, hown, hts⟩ hG hA hw (c_X8_isCall G l a R S p1 r_2 h_1) (cwV 1 hts gX8_asked_X8_isCall rfl rfl rfl (by decide +kernel) ⟨Nat.le_of_ble_eq_true rfl, Nat.le_of_ble_eq_true rfl⟩) (va_recv hG.1 hw.1 (ci := 8) (q0 := 0) rfl rfl) rfl hl.1 rfl (Nat.le_of_ble_eq_true rfl) dX8_asked_2 ⟨Nat.zero_le _, Nat.zero_le _⟩ (fun H locs hw => ?_)
  refine lv_if_ne (tgt := 13) hx hb dX8_asked_5 (by decide) (fun c_3 => ?_) (fun c_3 => ?_)
  · replace hf := if_f c_3 hf
    refine lv_aload_n hx hb dX8_asked_13 rfl (lv_at hl 0 rfl) ?_
    refine va_get (D := G.1) (ci := 8) (v := .ref (a 21)) (C := RX8) (T := TX8) (N := 45) hx hb hts hin8 hown hG.1 hw.1 0 rfl rfl 34 (by decide) (hts (.fieldLink RX8 76 "DutyDeskModel" "cState" "[I") (List.mem_of_getElem? (i := 1) rfl)) (fun _ h9 => h9) rfl dX8_asked_14 ?_
    refine lv_iload_n hx hb dX8_asked_17 rfl (lv_at hl 1 rfl) ?_
    obtain ⟨h_4, hf⟩ := gd_of hf
    refine va_iald hx hb hG.1 hw.1 21 1 (mw_atI (k := 21) rfl) rfl h_4 dX8_asked_18 ?_
    refine lv_if_ne (tgt := 31) hx hb dX8_asked_19 (by decide) (fun c_5 => ?_) (fun c_5 => ?_)
    · replace hf := if_f c_5 hf
      refine lv_iconst (v := (-1)) hx hb dX8_asked_31 (by decide) ?_
      have e_6 := Option.some.inj hf
      subst e_6
      exact wd_iret hx hb hr hlocks hw dX8_asked_32
    · replace hf := if_t c_5 hf
      refine lv_aload_n hx hb dX8_asked_22 rfl (lv_at hl 0 rfl) ?_
      refine va_get (D := G.1) (ci := 8) (v := .ref (a 23)) (C := RX8) (T := TX8) (N := 45) hx hb hts hin8 hown hG.1 hw.1 0 rfl rfl 36 (by decide) (hts (.fieldLink RX8 82 "DutyDeskModel" "cAsked" "[I") (List.mem_of_getElem? (i := 2) rfl)) (fun _ h9 => h9) rfl dX8_asked_23 ?_
      refine lv_iload_n hx hb dX8_asked_26 rfl (lv_at hl 1 rfl) ?_
      obtain ⟨h_7, hf⟩ := gd_of hf
      refine va_iald hx hb hG.1 hw.1 23 1 (mw_atI (k := 23) rfl) rfl h_7 dX8_asked_27 ?_
      refine lv_goto (tgt := 32) hx hb dX8_asked_28 (by decide) ?_
      have e_8 := Option.some.inj hf
      subst e_8
      exact wd_iret hx hb hr hlocks hw dX8_asked_32
  · replace hf := if_t c_3 hf
    refine lv_bipush (v := (-2)) hx hb dX8_asked_8 (by decide) ?_
    refine lv_goto (tgt := 32) hx hb dX8_asked_10 (by decide) ?_
    have e_9 := Option.some.inj hf
    subst e_9
    exact wd_iret hx hb hr hlocks hw dX8_asked_32
/-! DutyDeskModel.answer(IZ)I -/
def rm_X8_answer : Room := { frames := 7, cells := 0, slots := 0, locals := 158 }
def f_X8_answer_J103 (y_1 : Int32) (y_2 : Int32) (z_3 : Int32) (z_4 : Int32) (S_5 : St) : Option (Int32 × St) :=
  gd z_4 150 (bnd (sM S_5 26 (z_4.toNatClampNeg) z_3) fun S_7 => gd y_1 150 (gd y_1 150 ((f_X8_now S_7 (gM S_7 15 y_1.toNatClampNeg) 1).bind (fun r_11 => gd y_1 150 (gd y_1 150 (bnd (sM S_7 25 (y_1.toNatClampNeg) (((gM S_7 22 y_1.toNatClampNeg) * r_11) + (gM S_7 26 y_1.toNatClampNeg))) fun S_14 => gd y_1 150 (gd y_1 150 (gd ((1000 * (gM S_14 16 y_1.toNatClampNeg)) + (gM S_14 15 y_1.toNatClampNeg)) 6000 ((if (gM S_14 11 ((1000 * (gM S_14 16 y_1.toNatClampNeg)) + (gM S_14 15 y_1.toNatClampNeg)).toNatClampNeg) = y_2 then
    gd y_1 150 (bnd (sM S_14 27 (y_1.toNatClampNeg) (vp_nar .boolean 1)) fun S_23 => some (((-1), S_23)))
  else
    gd y_1 150 (bnd (sM S_14 27 (y_1.toNatClampNeg) (vp_nar .boolean 0)) fun S_20 => some (((-1), S_20)))))))))))))
def f_X8_answer (S : St) (p1 : Int32) (p2 : Int32) : Option (Int32 × St) :=
  (f_X8_isCall S p1).bind (fun r_26 => (if r_26 = 0 then
    some (((-2), S))
  else
    gd p1 150 ((if (gM S 21 p1.toNatClampNeg) = 0 then
    gd p1 150 (bnd (gM S 23 p1.toNatClampNeg) fun x_31 => (if p2 = 0 then
    gd p1 150 (gd p1 150 (bnd (sM S 22 (p1.toNatClampNeg) ((gM S 22 p1.toNatClampNeg) + 1)) fun S_35 => (f_X8_askNext S_35 p1).bind (fun S_37 => gd p1 150 (some ((gM S_37 23 p1.toNatClampNeg, S_37))))))
  else
    gd p1 150 (bnd (sM S 21 (p1.toNatClampNeg) 1) fun S_41 => gd p1 150 (bnd (sM S_41 24 (p1.toNatClampNeg) x_31) fun S_43 => gd x_31 24 (gd p1 150 (gd ((10 * (gM S_43 5 x_31.toNatClampNeg)) + (gM S_43 17 p1.toNatClampNeg)) 100 ((if (gM S_43 10 ((10 * (gM S_43 5 x_31.toNatClampNeg)) + (gM S_43 17 p1.toNatClampNeg)).toNatClampNeg) = (-1) then
    f_X8_answer_J103 p1 x_31 0 p1 S_43
  else
    gd x_31 24 (gd p1 150 (gd ((10 * (gM S_43 5 x_31.toNatClampNeg)) + (gM S_43 17 p1.toNatClampNeg)) 100 (f_X8_answer_J103 p1 x_31 (gM S_43 10 ((10 * (gM S_43 5 x_31.toNatClampNeg)) + (gM S_43 17 p1.toNatClampNeg)).toNatClampNeg) p1 S_43)))))))))))
  else
    some (((-4), S))))))
set_option maxHeartbeats 4000000 in
set_option maxRecDepth 100000 in
theorem c_X8_answer (G : GP) (l : Launch) (a : Nat → Nat) (R : va_W) (S : St) (p1 : Int32) (p2 : Int32) (r0 : Int32) (S9 : St) (hf : f_X8_answer S p1 p2 = some (r0, S9)) : MC G l yX8_answer wsX8_answer rm_X8_answer [.ref (a 0), .int p1, .int p2] (mw G.2.1 a R S) (mw G.2.1 a R S9) (some (.int r0)) 0 0 := by
  refine MC.mk (cc := cX8_answer) (maxL := 4) (ret := (some .int)) (by decide) rfl (Nat.le_of_ble_eq_true rfl) ?_
  intro p e s m below meth c A ls ⟨hx, hb, hr, hml, hown, hlocks, _, hts⟩ hw hG hA hl
  have hl : lv_has ls 4 [(0, .ref (a 0)), (1, .int p1), (2, .int p2)] := hl
  have hin8 : ∀ w ∈ u_ws RX8 TX8 45, w ∈ wsX8_answer := by decide +kernel
  rw [f_X8_answer] at hf
  have j103 : ∀ (y_1 : Int32) (y_2 : Int32) (z_3 : Int32) (z_4 : Int32) (S_5 : St) (H : Heap) (locs : List Loc) (ls : Array Slot), f_X8_answer_J103 y_1 y_2 z_3 z_4 S_5 = some (r0, S9) → Wd G A s H locs (mw G.2.1 a R S_5) → lv_has ls 4 [(0, .ref (a 0)), (1, .int y_1), (3, .int y_2)] → WQ p l e rm_X8_answer s m [.ref (a 0), .int p1, .int p2] below meth c G A (mw G.2.1 a R S9) (some (.int r0)) 0 0 H locs 0 0 (F0 m 103 ls [.int z_3, .int z_4, .ref (a 26)]) := by
    intro y_1 y_2 z_3 z_4 S_5 H locs ls hf hw hl
    rw [f_X8_answer_J103] at hf
    obtain ⟨h_6, hf⟩ := gd_of hf
    refine va_iast hx hb hG.1 hw.1 hw.2.1 hw.2.2 26 1 (mw_atI (k := 26) rfl) rfl h_6 dX8_answer_103 (fun H locs hP hD hS => ?_)
    obtain ⟨S_7, eS_7⟩ : ∃ z : St, z = sM S_5 26 (z_4.toNatClampNeg) z_3 := ⟨_, rfl⟩
    replace hf := bnd_of eS_7 hf
    have hw : Wd G A s H locs (mw G.2.1 a R S_7) := wd_eq (by rw [eS_7]; exact mw_upI (k := 26) rfl _) hP hD hS
    refine lv_aload_n hx hb dX8_answer_104 rfl (lv_at hl 0 rfl) ?_
    refine va_get (D := G.1) (ci := 8) (v := .ref (a 25)) (C := RX8) (T := TX8) (N := 45) hx hb hts hin8 hown hG.1 hw.1 0 rfl rfl 38 (by decide) (hts (.fieldLink RX8 88 "DutyDeskModel" "cMinutes" "[I") (List.mem_of_getElem? (i := 8) rfl)) (fun _ h9 => h9) rfl dX8_answer_105 ?_
    refine lv_iload_n hx hb dX8_answer_108 rfl (lv_at hl 1 rfl) ?_
    refine lv_aload_n hx hb dX8_answer_109 rfl (lv_at hl 0 rfl) ?_
    refine va_get (D := G.1) (ci := 8) (v := .ref (a 22)) (C := RX8) (T := TX8) (N := 45) hx hb hts hin8 hown hG.1 hw.1 0 rfl rfl 35 (by decide) (hts (.fieldLink RX8 79 "DutyDeskModel" "cRefused" "[I") (List.mem_of_getElem? (i := 9) rfl)) (fun _ h9 => h9) rfl dX8_answer_110 ?_
    refine lv_iload_n hx hb dX8_answer_113 rfl (lv_at hl 1 rfl) ?_
    obtain ⟨h_8, hf⟩ := gd_of hf
    refine va_iald hx hb hG.1 hw.1 22 1 (mw_atI (k := 22) rfl) rfl h_8 dX8_answer_114 ?_
    refine lv_aload_n hx hb dX8_answer_115 rfl (lv_at hl 0 rfl) ?_
    refine lv_aload_n hx hb dX8_answer_116 rfl (lv_at hl 0 rfl) ?_
    refine va_get (D := G.1) (ci := 8) (v := .ref (a 15)) (C := RX8) (T := TX8) (N := 45) hx hb hts hin8 hown hG.1 hw.1 0 rfl rfl 28 (by decide) (hts (.fieldLink RX8 58 "DutyDeskModel" "cDay" "[I") (List.mem_of_getElem? (i := 10) rfl)) (fun _ h9 => h9) rfl dX8_answer_117 ?_
    refine lv_iload_n hx hb dX8_answer_120 rfl (lv_at hl 1 rfl) ?_
    obtain ⟨h_9, hf⟩ := gd_of hf
    refine va_iald hx hb hG.1 hw.1 15 1 (mw_atI (k := 15) rfl) rfl h_9 dX8_answer_121 ?_
    refine lv_iconst (v := 1) hx hb dX8_answer_122 (by decide) ?_
    obtain ⟨r_11, h_10, hf⟩ := bind_of hf
    refine cV (As := [.int (gM S_7 15 y_1.toNatClampNeg), .int 1]) (rest := [.int (gM S_7 22 y_1.toNatClampNeg), .int y_1, .ref (a 25)]) ⟨hx, hb, hml, hown, hts⟩ hG hA hw (c_X8_now G l a R S_7 (gM S_7 15 y_1.toNatClampNeg) 1 r_11 h_10) (cwV 2 hts gX8_answer_X8_now rfl rfl rfl (by decide +kernel) ⟨Nat.le_of_ble_eq_true rfl, Nat.le_of_ble_eq_true rfl⟩) (va_recv hG.1 hw.1 (ci := 8) (q0 := 0) rfl rfl) rfl hl.1 rfl (Nat.le_of_ble_eq_true rfl) dX8_answer_123 ⟨Nat.zero_le _, Nat.zero_le _⟩ (fun H locs hw => ?_)
    refine lv_imul hx hb dX8_answer_126 ?_
    refine lv_aload_n hx hb dX8_answer_127 rfl (lv_at hl 0 rfl) ?_
    refine va_get (D := G.1) (ci := 8) (v := .ref (a 26)) (C := RX8) (T := TX8) (N := 45) hx hb hts hin8 hown hG.1 hw.1 0 rfl rfl 39 (by decide) (hts (.fieldLink RX8 91 "DutyDeskModel" "cTravel" "[I") (List.mem_of_getElem? (i := 4) rfl)) (fun _ h9 => h9) rfl dX8_answer_128 ?_
    refine lv_iload_n hx hb dX8_answer_131 rfl (lv_at hl 1 rfl) ?_
    obtain ⟨h_12, hf⟩ := gd_of hf
    refine va_iald hx hb hG.1 hw.1 26 1 (mw_atI (k := 26) rfl) rfl h_12 dX8_answer_132 ?_
    refine lv_iadd hx hb dX8_answer_133 ?_
    obtain ⟨h_13, hf⟩ := gd_of hf
    refine va_iast hx hb hG.1 hw.1 hw.2.1 hw.2.2 25 1 (mw_atI (k := 25) rfl) rfl h_13 dX8_answer_134 (fun H locs hP hD hS => ?_)
    obtain ⟨S_14, eS_14⟩ : ∃ z : St, z = sM S_7 25 (y_1.toNatClampNeg) (((gM S_7 22 y_1.toNatClampNeg) * r_11) + (gM S_7 26 y_1.toNatClampNeg)) := ⟨_, rfl⟩
    replace hf := bnd_of eS_14 hf
    have hw : Wd G A s H locs (mw G.2.1 a R S_14) := wd_eq (by rw [eS_14]; exact mw_upI (k := 25) rfl _) hP hD hS
    refine lv_aload_n hx hb dX8_answer_135 rfl (lv_at hl 0 rfl) ?_
    refine va_get (D := G.1) (ci := 8) (v := .ref (a 27)) (C := RX8) (T := TX8) (N := 45) hx hb hts hin8 hown hG.1 hw.1 0 rfl rfl 40 (by decide) (hts (.fieldLink RX8 94 "DutyDeskModel" "cDuty" "[Z") (List.mem_of_getElem? (i := 11) rfl)) (fun _ h9 => h9) rfl dX8_answer_136 ?_
    refine lv_iload_n hx hb dX8_answer_139 rfl (lv_at hl 1 rfl) ?_
    refine lv_aload_n hx hb dX8_answer_140 rfl (lv_at hl 0 rfl) ?_
    refine va_get (D := G.1) (ci := 8) (v := .ref (a 11)) (C := RX8) (T := TX8) (N := 45) hx hb hts hin8 hown hG.1 hw.1 0 rfl rfl 21 (by decide) (hts (.fieldLink RX8 46 "DutyDeskModel" "duty" "[I") (List.mem_of_getElem? (i := 12) rfl)) (fun _ h9 => h9) rfl dX8_answer_141 ?_
    refine lv_sipush (v := 1000) hx hb dX8_answer_144 (by decide) ?_
    refine lv_aload_n hx hb dX8_answer_147 rfl (lv_at hl 0 rfl) ?_
    refine va_get (D := G.1) (ci := 8) (v := .ref (a 16)) (C := RX8) (T := TX8) (N := 45) hx hb hts hin8 hown hG.1 hw.1 0 rfl rfl 29 (by decide) (hts (.fieldLink RX8 61 "DutyDeskModel" "cPanel" "[I") (List.mem_of_getElem? (i := 13) rfl)) (fun _ h9 => h9) rfl dX8_answer_148 ?_
    refine lv_iload_n hx hb dX8_answer_151 rfl (lv_at hl 1 rfl) ?_
    obtain ⟨h_15, hf⟩ := gd_of hf
    refine va_iald hx hb hG.1 hw.1 16 1 (mw_atI (k := 16) rfl) rfl h_15 dX8_answer_152 ?_
    refine lv_imul hx hb dX8_answer_153 ?_
    refine lv_aload_n hx hb dX8_answer_154 rfl (lv_at hl 0 rfl) ?_
    refine va_get (D := G.1) (ci := 8) (v := .ref (a 15)) (C := RX8) (T := TX8) (N := 45) hx hb hts hin8 hown hG.1 hw.1 0 rfl rfl 28 (by decide) (hts (.fieldLink RX8 58 "DutyDeskModel" "cDay" "[I") (List.mem_of_getElem? (i := 10) rfl)) (fun _ h9 => h9) rfl dX8_answer_155 ?_
    refine lv_iload_n hx hb dX8_answer_158 rfl (lv_at hl 1 rfl) ?_
    obtain ⟨h_16, hf⟩ := gd_of hf
    refine va_iald hx hb hG.1 hw.1 15 1 (mw_atI (k := 15) rfl) rfl h_16 dX8_answer_159 ?_
    refine lv_iadd hx hb dX8_answer_160 ?_
    obtain ⟨h_17, hf⟩ := gd_of hf
    refine va_iald hx hb hG.1 hw.1 11 1 (mw_atI (k := 11) rfl) rfl h_17 dX8_answer_161 ?_
    refine lv_iload_n hx hb dX8_answer_162 rfl (lv_at hl 2 rfl) ?_
    refine lv_icmp_ne (tgt := 170) hx hb dX8_answer_163 (by decide) (fun c_18 => ?_) (fun c_18 => ?_)
    · replace hf := if_f c_18 hf
      refine lv_iconst (v := 0) hx hb dX8_answer_170 (by decide) ?_
      obtain ⟨h_19, hf⟩ := gd_of hf
      refine va_zast hx hb hG.1 hw.1 hw.2.1 hw.2.2 27 3 (mw_atZ (k := 27) rfl) rfl h_19 dX8_answer_171 (fun H locs hP hD hS => ?_)
      obtain ⟨S_20, eS_20⟩ : ∃ z : St, z = sM S_14 27 (y_1.toNatClampNeg) (vp_nar .boolean 0) := ⟨_, rfl⟩
      replace hf := bnd_of eS_20 hf
      have hw : Wd G A s H locs (mw G.2.1 a R S_20) := wd_eq (by rw [eS_20]; exact mw_upZ (k := 27) rfl _) hP hD hS
      refine lv_iconst (v := (-1)) hx hb dX8_answer_172 (by decide) ?_
      have e_21 := Option.some.inj hf
      obtain ⟨rfl, rfl⟩ := Prod.mk.inj e_21
      exact wd_iret hx hb hr hlocks hw dX8_answer_173
    · replace hf := if_t c_18 hf
      refine lv_iconst (v := 1) hx hb dX8_answer_166 (by decide) ?_
      refine lv_goto (tgt := 171) hx hb dX8_answer_167 (by decide) ?_
      obtain ⟨h_22, hf⟩ := gd_of hf
      refine va_zast hx hb hG.1 hw.1 hw.2.1 hw.2.2 27 3 (mw_atZ (k := 27) rfl) rfl h_22 dX8_answer_171 (fun H locs hP hD hS => ?_)
      obtain ⟨S_23, eS_23⟩ : ∃ z : St, z = sM S_14 27 (y_1.toNatClampNeg) (vp_nar .boolean 1) := ⟨_, rfl⟩
      replace hf := bnd_of eS_23 hf
      have hw : Wd G A s H locs (mw G.2.1 a R S_23) := wd_eq (by rw [eS_23]; exact mw_upZ (k := 27) rfl _) hP hD hS
      refine lv_iconst (v := (-1)) hx hb dX8_answer_172 (by decide) ?_
      have e_24 := Option.some.inj hf
      obtain ⟨rfl, rfl⟩ := Prod.mk.inj e_24
      exact wd_iret hx hb hr hlocks hw dX8_answer_173
  refine lv_aload_n hx hb dX8_answer_0 rfl (lv_at hl 0 rfl) ?_
  refine lv_iload_n hx hb dX8_answer_1 rfl (lv_at hl 1 rfl) ?_
  obtain ⟨r_26, h_25, hf⟩ := bind_of hf
  refine cV (As := [.int p1]) (rest := []) ⟨hx, hb, hml, hown, hts⟩ hG hA hw (c_X8_isCall G l a R S p1 r_26 h_25) (cwV 1 hts gX8_answer_X8_isCall rfl rfl rfl (by decide +kernel) ⟨Nat.le_of_ble_eq_true rfl, Nat.le_of_ble_eq_true rfl⟩) (va_recv hG.1 hw.1 (ci := 8) (q0 := 0) rfl rfl) rfl hl.1 rfl (Nat.le_of_ble_eq_true rfl) dX8_answer_2 ⟨Nat.zero_le _, Nat.zero_le _⟩ (fun H locs hw => ?_)
  refine lv_if_ne (tgt := 11) hx hb dX8_answer_5 (by decide) (fun c_27 => ?_) (fun c_27 => ?_)
  · replace hf := if_f c_27 hf
    refine lv_aload_n hx hb dX8_answer_11 rfl (lv_at hl 0 rfl) ?_
    refine va_get (D := G.1) (ci := 8) (v := .ref (a 21)) (C := RX8) (T := TX8) (N := 45) hx hb hts hin8 hown hG.1 hw.1 0 rfl rfl 34 (by decide) (hts (.fieldLink RX8 76 "DutyDeskModel" "cState" "[I") (List.mem_of_getElem? (i := 1) rfl)) (fun _ h9 => h9) rfl dX8_answer_12 ?_
    refine lv_iload_n hx hb dX8_answer_15 rfl (lv_at hl 1 rfl) ?_
    obtain ⟨h_28, hf⟩ := gd_of hf
    refine va_iald hx hb hG.1 hw.1 21 1 (mw_atI (k := 21) rfl) rfl h_28 dX8_answer_16 ?_
    refine lv_if_eq (tgt := 23) hx hb dX8_answer_17 (by decide) (fun c_29 => ?_) (fun c_29 => ?_)
    · replace hf := if_t c_29 hf
      refine lv_aload_n hx hb dX8_answer_23 rfl (lv_at hl 0 rfl) ?_
      refine va_get (D := G.1) (ci := 8) (v := .ref (a 23)) (C := RX8) (T := TX8) (N := 45) hx hb hts hin8 hown hG.1 hw.1 0 rfl rfl 36 (by decide) (hts (.fieldLink RX8 82 "DutyDeskModel" "cAsked" "[I") (List.mem_of_getElem? (i := 2) rfl)) (fun _ h9 => h9) rfl dX8_answer_24 ?_
      refine lv_iload_n hx hb dX8_answer_27 rfl (lv_at hl 1 rfl) ?_
      obtain ⟨h_30, hf⟩ := gd_of hf
      refine va_iald hx hb hG.1 hw.1 23 1 (mw_atI (k := 23) rfl) rfl h_30 dX8_answer_28 ?_
      refine lv_topi (fun x_31 ex_31 => ?_)
      replace hf := bnd_of ex_31 hf
      refine lv_istore_n (lv' := [(3, .int x_31), (0, .ref (a 0)), (1, .int p1), (2, .int p2)]) hx hb dX8_answer_29 rfl hl (by decide) rfl (fun ls hl => ?_)
      refine lv_iload_n hx hb dX8_answer_30 rfl (lv_at hl 3 rfl) ?_
      refine lv_if_eq (tgt := 174) hx hb dX8_answer_31 (by decide) (fun c_32 => ?_) (fun c_32 => ?_)
      · replace hf := if_t c_32 hf
        refine lv_aload_n hx hb dX8_answer_174 rfl (lv_at hl 1 rfl) ?_
        refine va_get (D := G.1) (ci := 8) (v := .ref (a 22)) (C := RX8) (T := TX8) (N := 45) hx hb hts hin8 hown hG.1 hw.1 0 rfl rfl 35 (by decide) (hts (.fieldLink RX8 79 "DutyDeskModel" "cRefused" "[I") (List.mem_of_getElem? (i := 9) rfl)) (fun _ h9 => h9) rfl dX8_answer_175 ?_
        refine lv_iload_n hx hb dX8_answer_178 rfl (lv_at hl 2 rfl) ?_
        refine lv_dup2_11 hx hb dX8_answer_179 rfl rfl ?_
        obtain ⟨h_33, hf⟩ := gd_of hf
        refine va_iald hx hb hG.1 hw.1 22 1 (mw_atI (k := 22) rfl) rfl h_33 dX8_answer_180 ?_
        refine lv_iconst (v := 1) hx hb dX8_answer_181 (by decide) ?_
        refine lv_iadd hx hb dX8_answer_182 ?_
        obtain ⟨h_34, hf⟩ := gd_of hf
        refine va_iast hx hb hG.1 hw.1 hw.2.1 hw.2.2 22 1 (mw_atI (k := 22) rfl) rfl h_34 dX8_answer_183 (fun H locs hP hD hS => ?_)
        obtain ⟨S_35, eS_35⟩ : ∃ z : St, z = sM S 22 (p1.toNatClampNeg) ((gM S 22 p1.toNatClampNeg) + 1) := ⟨_, rfl⟩
        replace hf := bnd_of eS_35 hf
        have hw : Wd G A s H locs (mw G.2.1 a R S_35) := wd_eq (by rw [eS_35]; exact mw_upI (k := 22) rfl _) hP hD hS
        refine lv_aload_n hx hb dX8_answer_184 rfl (lv_at hl 1 rfl) ?_
        refine lv_iload_n hx hb dX8_answer_185 rfl (lv_at hl 2 rfl) ?_
        obtain ⟨S_37, h_36, hf⟩ := bind_of hf
        refine cV (As := [.int p1]) (rest := []) ⟨hx, hb, hml, hown, hts⟩ hG hA hw (c_X8_askNext G l a R S_35 p1 S_37 h_36) (cwV 1 hts gX8_answer_X8_askNext rfl rfl rfl (by decide +kernel) ⟨Nat.le_of_ble_eq_true rfl, Nat.le_of_ble_eq_true rfl⟩) (va_recv hG.1 hw.1 (ci := 8) (q0 := 0) rfl rfl) rfl hl.1 rfl (Nat.le_of_ble_eq_true rfl) dX8_answer_186 ⟨Nat.zero_le _, Nat.zero_le _⟩ (fun H locs hw => ?_)
        refine lv_aload_n hx hb dX8_answer_189 rfl (lv_at hl 1 rfl) ?_
        refine va_get (D := G.1) (ci := 8) (v := .ref (a 23)) (C := RX8) (T := TX8) (N := 45) hx hb hts hin8 hown hG.1 hw.1 0 rfl rfl 36 (by decide) (hts (.fieldLink RX8 82 "DutyDeskModel" "cAsked" "[I") (List.mem_of_getElem? (i := 2) rfl)) (fun _ h9 => h9) rfl dX8_answer_190 ?_
        refine lv_iload_n hx hb dX8_answer_193 rfl (lv_at hl 2 rfl) ?_
        obtain ⟨h_38, hf⟩ := gd_of hf
        refine va_iald hx hb hG.1 hw.1 23 1 (mw_atI (k := 23) rfl) rfl h_38 dX8_answer_194 ?_
        have e_39 := Option.some.inj hf
        obtain ⟨rfl, rfl⟩ := Prod.mk.inj e_39
        exact wd_iret hx hb hr hlocks hw dX8_answer_195
      · replace hf := if_f c_32 hf
        refine lv_aload_n hx hb dX8_answer_34 rfl (lv_at hl 1 rfl) ?_
        refine va_get (D := G.1) (ci := 8) (v := .ref (a 21)) (C := RX8) (T := TX8) (N := 45) hx hb hts hin8 hown hG.1 hw.1 0 rfl rfl 34 (by decide) (hts (.fieldLink RX8 76 "DutyDeskModel" "cState" "[I") (List.mem_of_getElem? (i := 1) rfl)) (fun _ h9 => h9) rfl dX8_answer_35 ?_
        refine lv_iload_n hx hb dX8_answer_38 rfl (lv_at hl 2 rfl) ?_
        refine lv_iconst (v := 1) hx hb dX8_answer_39 (by decide) ?_
        obtain ⟨h_40, hf⟩ := gd_of hf
        refine va_iast hx hb hG.1 hw.1 hw.2.1 hw.2.2 21 1 (mw_atI (k := 21) rfl) rfl h_40 dX8_answer_40 (fun H locs hP hD hS => ?_)
        obtain ⟨S_41, eS_41⟩ : ∃ z : St, z = sM S 21 (p1.toNatClampNeg) 1 := ⟨_, rfl⟩
        replace hf := bnd_of eS_41 hf
        have hw : Wd G A s H locs (mw G.2.1 a R S_41) := wd_eq (by rw [eS_41]; exact mw_upI (k := 21) rfl _) hP hD hS
        refine lv_aload_n hx hb dX8_answer_41 rfl (lv_at hl 1 rfl) ?_
        refine va_get (D := G.1) (ci := 8) (v := .ref (a 24)) (C := RX8) (T := TX8) (N := 45) hx hb hts hin8 hown hG.1 hw.1 0 rfl rfl 37 (by decide) (hts (.fieldLink RX8 85 "DutyDeskModel" "cTaker" "[I") (List.mem_of_getElem? (i := 3) rfl)) (fun _ h9 => h9) rfl dX8_answer_42 ?_
        refine lv_iload_n hx hb dX8_answer_45 rfl (lv_at hl 2 rfl) ?_
        refine lv_iload_n hx hb dX8_answer_46 rfl (lv_at hl 0 rfl) ?_
        obtain ⟨h_42, hf⟩ := gd_of hf
        refine va_iast hx hb hG.1 hw.1 hw.2.1 hw.2.2 24 1 (mw_atI (k := 24) rfl) rfl h_42 dX8_answer_47 (fun H locs hP hD hS => ?_)
        obtain ⟨S_43, eS_43⟩ : ∃ z : St, z = sM S_41 24 (p1.toNatClampNeg) x_31 := ⟨_, rfl⟩
        replace hf := bnd_of eS_43 hf
        have hw : Wd G A s H locs (mw G.2.1 a R S_43) := wd_eq (by rw [eS_43]; exact mw_upI (k := 24) rfl _) hP hD hS
        refine lv_aload_n hx hb dX8_answer_48 rfl (lv_at hl 1 rfl) ?_
        refine va_get (D := G.1) (ci := 8) (v := .ref (a 26)) (C := RX8) (T := TX8) (N := 45) hx hb hts hin8 hown hG.1 hw.1 0 rfl rfl 39 (by decide) (hts (.fieldLink RX8 91 "DutyDeskModel" "cTravel" "[I") (List.mem_of_getElem? (i := 4) rfl)) (fun _ h9 => h9) rfl dX8_answer_49 ?_
        refine lv_iload_n hx hb dX8_answer_52 rfl (lv_at hl 2 rfl) ?_
        refine lv_aload_n hx hb dX8_answer_53 rfl (lv_at hl 1 rfl) ?_
        refine va_get (D := G.1) (ci := 8) (v := .ref (a 10)) (C := RX8) (T := TX8) (N := 45) hx hb hts hin8 hown hG.1 hw.1 0 rfl rfl 20 (by decide) (hts (.fieldLink RX8 43 "DutyDeskModel" "travel" "[I") (List.mem_of_getElem? (i := 5) rfl)) (fun _ h9 => h9) rfl dX8_answer_54 ?_
        refine lv_bipush (v := 10) hx hb dX8_answer_57 (by decide) ?_
        refine lv_aload_n hx hb dX8_answer_59 rfl (lv_at hl 1 rfl) ?_
        refine va_get (D := G.1) (ci := 8) (v := .ref (a 5)) (C := RX8) (T := TX8) (N := 45) hx hb hts hin8 hown hG.1 hw.1 0 rfl rfl 15 (by decide) (hts (.fieldLink RX8 28 "DutyDeskModel" "town" "[I") (List.mem_of_getElem? (i := 6) rfl)) (fun _ h9 => h9) rfl dX8_answer_60 ?_
        refine lv_iload_n hx hb dX8_answer_63 rfl (lv_at hl 0 rfl) ?_
        obtain ⟨h_44, hf⟩ := gd_of hf
        refine va_iald hx hb hG.1 hw.1 5 1 (mw_atI (k := 5) rfl) rfl h_44 dX8_answer_64 ?_
        refine lv_imul hx hb dX8_answer_65 ?_
        refine lv_aload_n hx hb dX8_answer_66 rfl (lv_at hl 1 rfl) ?_
        refine va_get (D := G.1) (ci := 8) (v := .ref (a 17)) (C := RX8) (T := TX8) (N := 45) hx hb hts hin8 hown hG.1 hw.1 0 rfl rfl 30 (by decide) (hts (.fieldLink RX8 64 "DutyDeskModel" "cTown" "[I") (List.mem_of_getElem? (i := 7) rfl)) (fun _ h9 => h9) rfl dX8_answer_67 ?_
        refine lv_iload_n hx hb dX8_answer_70 rfl (lv_at hl 2 rfl) ?_
        obtain ⟨h_45, hf⟩ := gd_of hf
        refine va_iald hx hb hG.1 hw.1 17 1 (mw_atI (k := 17) rfl) rfl h_45 dX8_answer_71 ?_
        refine lv_iadd hx hb dX8_answer_72 ?_
        obtain ⟨h_46, hf⟩ := gd_of hf
        refine va_iald hx hb hG.1 hw.1 10 1 (mw_atI (k := 10) rfl) rfl h_46 dX8_answer_73 ?_
        refine lv_iconst (v := (-1)) hx hb dX8_answer_74 (by decide) ?_
        refine lv_icmp_ne (tgt := 82) hx hb dX8_answer_75 (by decide) (fun c_47 => ?_) (fun c_47 => ?_)
        · replace hf := if_f c_47 hf
          refine lv_aload_n hx hb dX8_answer_82 rfl (lv_at hl 1 rfl) ?_
          refine va_get (D := G.1) (ci := 8) (v := .ref (a 10)) (C := RX8) (T := TX8) (N := 45) hx hb hts hin8 hown hG.1 hw.1 0 rfl rfl 20 (by decide) (hts (.fieldLink RX8 43 "DutyDeskModel" "travel" "[I") (List.mem_of_getElem? (i := 5) rfl)) (fun _ h9 => h9) rfl dX8_answer_83 ?_
          refine lv_bipush (v := 10) hx hb dX8_answer_86 (by decide) ?_
          refine lv_aload_n hx hb dX8_answer_88 rfl (lv_at hl 1 rfl) ?_
          refine va_get (D := G.1) (ci := 8) (v := .ref (a 5)) (C := RX8) (T := TX8) (N := 45) hx hb hts hin8 hown hG.1 hw.1 0 rfl rfl 15 (by decide) (hts (.fieldLink RX8 28 "DutyDeskModel" "town" "[I") (List.mem_of_getElem? (i := 6) rfl)) (fun _ h9 => h9) rfl dX8_answer_89 ?_
          refine lv_iload_n hx hb dX8_answer_92 rfl (lv_at hl 0 rfl) ?_
          obtain ⟨h_48, hf⟩ := gd_of hf
          refine va_iald hx hb hG.1 hw.1 5 1 (mw_atI (k := 5) rfl) rfl h_48 dX8_answer_93 ?_
          refine lv_imul hx hb dX8_answer_94 ?_
          refine lv_aload_n hx hb dX8_answer_95 rfl (lv_at hl 1 rfl) ?_
          refine va_get (D := G.1) (ci := 8) (v := .ref (a 17)) (C := RX8) (T := TX8) (N := 45) hx hb hts hin8 hown hG.1 hw.1 0 rfl rfl 30 (by decide) (hts (.fieldLink RX8 64 "DutyDeskModel" "cTown" "[I") (List.mem_of_getElem? (i := 7) rfl)) (fun _ h9 => h9) rfl dX8_answer_96 ?_
          refine lv_iload_n hx hb dX8_answer_99 rfl (lv_at hl 2 rfl) ?_
          obtain ⟨h_49, hf⟩ := gd_of hf
          refine va_iald hx hb hG.1 hw.1 17 1 (mw_atI (k := 17) rfl) rfl h_49 dX8_answer_100 ?_
          refine lv_iadd hx hb dX8_answer_101 ?_
          obtain ⟨h_50, hf⟩ := gd_of hf
          refine va_iald hx hb hG.1 hw.1 10 1 (mw_atI (k := 10) rfl) rfl h_50 dX8_answer_102 ?_
          exact j103 p1 x_31 (gM S_43 10 ((10 * (gM S_43 5 x_31.toNatClampNeg)) + (gM S_43 17 p1.toNatClampNeg)).toNatClampNeg) p1 S_43 _ _ _ hf hw (lv_sub hl [1, 2, 0] rfl)
        · replace hf := if_t c_47 hf
          refine lv_iconst (v := 0) hx hb dX8_answer_78 (by decide) ?_
          refine lv_goto (tgt := 103) hx hb dX8_answer_79 (by decide) ?_
          exact j103 p1 x_31 0 p1 S_43 _ _ _ hf hw (lv_sub hl [1, 2, 0] rfl)
    · replace hf := if_f c_29 hf
      refine lv_bipush (v := (-4)) hx hb dX8_answer_20 (by decide) ?_
      have e_51 := Option.some.inj hf
      obtain ⟨rfl, rfl⟩ := Prod.mk.inj e_51
      exact wd_iret hx hb hr hlocks hw dX8_answer_22
  · replace hf := if_t c_27 hf
    refine lv_bipush (v := (-2)) hx hb dX8_answer_8 (by decide) ?_
    have e_52 := Option.some.inj hf
    obtain ⟨rfl, rfl⟩ := Prod.mk.inj e_52
    exact wd_iret hx hb hr hlocks hw dX8_answer_10
/-! DutyDeskModel.told(II)I -/
def rm_X8_told : Room := { frames := 3, cells := 0, slots := 0, locals := 64 }
def f_X8_told_J26 (S : St) (y_1 : Int32) (y_2 : Int32) (z_3 : Int32) : Option (Int32) :=
  (if y_2 = 0 then
    gd y_1 150 (some ((gM S 21 y_1.toNatClampNeg)))
  else
    (if y_2 = 1 then
    gd y_1 150 (some ((gM S 22 y_1.toNatClampNeg)))
  else
    (if y_2 = 2 then
    gd y_1 150 (some ((gM S 24 y_1.toNatClampNeg)))
  else
    (if y_2 = 3 then
    (if z_3 = 0 then
    some ((-1))
  else
    gd y_1 150 (some ((gM S 25 y_1.toNatClampNeg))))
  else
    (if y_2 = 4 then
    (if z_3 = 0 then
    some ((-1))
  else
    gd y_1 150 (gd y_1 150 ((f_X8_now S (gM S 15 y_1.toNatClampNeg) 0).bind (fun r_23 => (if (gM S 25 y_1.toNatClampNeg) ≤ r_23 then
    some (0)
  else
    some (1))))))
  else
    (if y_2 = 5 then
    (if z_3 = 0 then
    some ((-1))
  else
    gd y_1 150 ((if (gM S 27 y_1.toNatClampNeg) = 0 then
    some (0)
  else
    some (1))))
  else
    some ((-9))))))))
def f_X8_told (S : St) (p1 : Int32) (p2 : Int32) : Option (Int32) :=
  (f_X8_isCall S p1).bind (fun r_37 => (if r_37 = 0 then
    some ((-9))
  else
    gd p1 150 ((if (gM S 21 p1.toNatClampNeg) = 1 then
    f_X8_told_J26 S p1 p2 1
  else
    f_X8_told_J26 S p1 p2 0))))
set_option maxHeartbeats 4000000 in
set_option maxRecDepth 100000 in
theorem c_X8_told (G : GP) (l : Launch) (a : Nat → Nat) (R : va_W) (S : St) (p1 : Int32) (p2 : Int32) (r0 : Int32) (hf : f_X8_told S p1 p2 = some r0) : MC G l yX8_told wsX8_told rm_X8_told [.ref (a 0), .int p1, .int p2] (mw G.2.1 a R S) (mw G.2.1 a R S) (some (.int r0)) 0 0 := by
  refine MC.mk (cc := cX8_told) (maxL := 4) (ret := (some .int)) (by decide) rfl (Nat.le_of_ble_eq_true rfl) ?_
  intro p e s m below meth c A ls ⟨hx, hb, hr, hml, hown, hlocks, _, hts⟩ hw hG hA hl
  have hl : lv_has ls 4 [(0, .ref (a 0)), (1, .int p1), (2, .int p2)] := hl
  have hin8 : ∀ w ∈ u_ws RX8 TX8 45, w ∈ wsX8_told := by decide +kernel
  rw [f_X8_told] at hf
  have j26 : ∀ (y_1 : Int32) (y_2 : Int32) (z_3 : Int32) (H : Heap) (locs : List Loc) (ls : Array Slot), f_X8_told_J26 S y_1 y_2 z_3 = some r0 → Wd G A s H locs (mw G.2.1 a R S) → lv_has ls 4 [(0, .ref (a 0)), (1, .int y_1), (2, .int y_2)] → WQ p l e rm_X8_told s m [.ref (a 0), .int p1, .int p2] below meth c G A (mw G.2.1 a R S) (some (.int r0)) 0 0 H locs 0 0 (F0 m 26 ls [.int z_3]) := by
    intro y_1 y_2 z_3 H locs ls hf hw hl
    rw [f_X8_told_J26] at hf
    refine lv_istore_n (lv' := [(3, .int z_3), (0, .ref (a 0)), (1, .int y_1), (2, .int y_2)]) hx hb dX8_told_26 rfl hl (by decide) rfl (fun ls hl => ?_)
    refine lv_iload_n hx hb dX8_told_27 rfl (lv_at hl 3 rfl) ?_
    by_cases c_4 : y_2 = 0
    · replace hf := if_t c_4 hf
      refine lv_tableIn (off := 40) (tgt := 68) hx hb dX8_told_28 (by rw [c_4]; decide) (by rw [c_4]; decide) (by rw [c_4]; rfl) (by decide) ?_
      refine lv_aload_n hx hb dX8_told_68 rfl (lv_at hl 1 rfl) ?_
      refine va_get (D := G.1) (ci := 8) (v := .ref (a 21)) (C := RX8) (T := TX8) (N := 45) hx hb hts hin8 hown hG.1 hw.1 0 rfl rfl 34 (by decide) (hts (.fieldLink RX8 76 "DutyDeskModel" "cState" "[I") (List.mem_of_getElem? (i := 1) rfl)) (fun _ h9 => h9) rfl dX8_told_69 ?_
      refine lv_iload_n hx hb dX8_told_72 rfl (lv_at hl 2 rfl) ?_
      obtain ⟨h_5, hf⟩ := gd_of hf
      refine va_iald hx hb hG.1 hw.1 21 1 (mw_atI (k := 21) rfl) rfl h_5 dX8_told_73 ?_
      have e_6 := Option.some.inj hf
      subst e_6
      exact wd_iret hx hb hr hlocks hw dX8_told_74
    · replace hf := if_f c_4 hf
      by_cases c_7 : y_2 = 1
      · replace hf := if_t c_7 hf
        refine lv_tableIn (off := 47) (tgt := 75) hx hb dX8_told_28 (by rw [c_7]; decide) (by rw [c_7]; decide) (by rw [c_7]; rfl) (by decide) ?_
        refine lv_aload_n hx hb dX8_told_75 rfl (lv_at hl 1 rfl) ?_
        refine va_get (D := G.1) (ci := 8) (v := .ref (a 22)) (C := RX8) (T := TX8) (N := 45) hx hb hts hin8 hown hG.1 hw.1 0 rfl rfl 35 (by decide) (hts (.fieldLink RX8 79 "DutyDeskModel" "cRefused" "[I") (List.mem_of_getElem? (i := 2) rfl)) (fun _ h9 => h9) rfl dX8_told_76 ?_
        refine lv_iload_n hx hb dX8_told_79 rfl (lv_at hl 2 rfl) ?_
        obtain ⟨h_8, hf⟩ := gd_of hf
        refine va_iald hx hb hG.1 hw.1 22 1 (mw_atI (k := 22) rfl) rfl h_8 dX8_told_80 ?_
        have e_9 := Option.some.inj hf
        subst e_9
        exact wd_iret hx hb hr hlocks hw dX8_told_81
      · replace hf := if_f c_7 hf
        by_cases c_10 : y_2 = 2
        · replace hf := if_t c_10 hf
          refine lv_tableIn (off := 54) (tgt := 82) hx hb dX8_told_28 (by rw [c_10]; decide) (by rw [c_10]; decide) (by rw [c_10]; rfl) (by decide) ?_
          refine lv_aload_n hx hb dX8_told_82 rfl (lv_at hl 1 rfl) ?_
          refine va_get (D := G.1) (ci := 8) (v := .ref (a 24)) (C := RX8) (T := TX8) (N := 45) hx hb hts hin8 hown hG.1 hw.1 0 rfl rfl 37 (by decide) (hts (.fieldLink RX8 85 "DutyDeskModel" "cTaker" "[I") (List.mem_of_getElem? (i := 3) rfl)) (fun _ h9 => h9) rfl dX8_told_83 ?_
          refine lv_iload_n hx hb dX8_told_86 rfl (lv_at hl 2 rfl) ?_
          obtain ⟨h_11, hf⟩ := gd_of hf
          refine va_iald hx hb hG.1 hw.1 24 1 (mw_atI (k := 24) rfl) rfl h_11 dX8_told_87 ?_
          have e_12 := Option.some.inj hf
          subst e_12
          exact wd_iret hx hb hr hlocks hw dX8_told_88
        · replace hf := if_f c_10 hf
          by_cases c_13 : y_2 = 3
          · replace hf := if_t c_13 hf
            refine lv_tableIn (off := 61) (tgt := 89) hx hb dX8_told_28 (by rw [c_13]; decide) (by rw [c_13]; decide) (by rw [c_13]; rfl) (by decide) ?_
            refine lv_iload_n hx hb dX8_told_89 rfl (lv_at hl 0 rfl) ?_
            refine lv_if_eq (tgt := 102) hx hb dX8_told_90 (by decide) (fun c_14 => ?_) (fun c_14 => ?_)
            · replace hf := if_t c_14 hf
              refine lv_iconst (v := (-1)) hx hb dX8_told_102 (by decide) ?_
              have e_15 := Option.some.inj hf
              subst e_15
              exact wd_iret hx hb hr hlocks hw dX8_told_103
            · replace hf := if_f c_14 hf
              refine lv_aload_n hx hb dX8_told_93 rfl (lv_at hl 1 rfl) ?_
              refine va_get (D := G.1) (ci := 8) (v := .ref (a 25)) (C := RX8) (T := TX8) (N := 45) hx hb hts hin8 hown hG.1 hw.1 0 rfl rfl 38 (by decide) (hts (.fieldLink RX8 88 "DutyDeskModel" "cMinutes" "[I") (List.mem_of_getElem? (i := 4) rfl)) (fun _ h9 => h9) rfl dX8_told_94 ?_
              refine lv_iload_n hx hb dX8_told_97 rfl (lv_at hl 2 rfl) ?_
              obtain ⟨h_16, hf⟩ := gd_of hf
              refine va_iald hx hb hG.1 hw.1 25 1 (mw_atI (k := 25) rfl) rfl h_16 dX8_told_98 ?_
              refine lv_goto (tgt := 103) hx hb dX8_told_99 (by decide) ?_
              have e_17 := Option.some.inj hf
              subst e_17
              exact wd_iret hx hb hr hlocks hw dX8_told_103
          · replace hf := if_f c_13 hf
            by_cases c_18 : y_2 = 4
            · replace hf := if_t c_18 hf
              refine lv_tableIn (off := 76) (tgt := 104) hx hb dX8_told_28 (by rw [c_18]; decide) (by rw [c_18]; decide) (by rw [c_18]; rfl) (by decide) ?_
              refine lv_iload_n hx hb dX8_told_104 rfl (lv_at hl 0 rfl) ?_
              refine lv_if_ne (tgt := 112) hx hb dX8_told_105 (by decide) (fun c_19 => ?_) (fun c_19 => ?_)
              · replace hf := if_f c_19 hf
                refine lv_aload_n hx hb dX8_told_112 rfl (lv_at hl 1 rfl) ?_
                refine va_get (D := G.1) (ci := 8) (v := .ref (a 25)) (C := RX8) (T := TX8) (N := 45) hx hb hts hin8 hown hG.1 hw.1 0 rfl rfl 38 (by decide) (hts (.fieldLink RX8 88 "DutyDeskModel" "cMinutes" "[I") (List.mem_of_getElem? (i := 4) rfl)) (fun _ h9 => h9) rfl dX8_told_113 ?_
                refine lv_iload_n hx hb dX8_told_116 rfl (lv_at hl 2 rfl) ?_
                obtain ⟨h_20, hf⟩ := gd_of hf
                refine va_iald hx hb hG.1 hw.1 25 1 (mw_atI (k := 25) rfl) rfl h_20 dX8_told_117 ?_
                refine lv_aload_n hx hb dX8_told_118 rfl (lv_at hl 1 rfl) ?_
                refine lv_aload_n hx hb dX8_told_119 rfl (lv_at hl 1 rfl) ?_
                refine va_get (D := G.1) (ci := 8) (v := .ref (a 15)) (C := RX8) (T := TX8) (N := 45) hx hb hts hin8 hown hG.1 hw.1 0 rfl rfl 28 (by decide) (hts (.fieldLink RX8 58 "DutyDeskModel" "cDay" "[I") (List.mem_of_getElem? (i := 5) rfl)) (fun _ h9 => h9) rfl dX8_told_120 ?_
                refine lv_iload_n hx hb dX8_told_123 rfl (lv_at hl 2 rfl) ?_
                obtain ⟨h_21, hf⟩ := gd_of hf
                refine va_iald hx hb hG.1 hw.1 15 1 (mw_atI (k := 15) rfl) rfl h_21 dX8_told_124 ?_
                refine lv_iconst (v := 0) hx hb dX8_told_125 (by decide) ?_
                obtain ⟨r_23, h_22, hf⟩ := bind_of hf
                refine cV (As := [.int (gM S 15 y_1.toNatClampNeg), .int 0]) (rest := [.int (gM S 25 y_1.toNatClampNeg)]) ⟨hx, hb, hml, hown, hts⟩ hG hA hw (c_X8_now G l a R S (gM S 15 y_1.toNatClampNeg) 0 r_23 h_22) (cwV 2 hts gX8_told_X8_now rfl rfl rfl (by decide +kernel) ⟨Nat.le_of_ble_eq_true rfl, Nat.le_of_ble_eq_true rfl⟩) (va_recv hG.1 hw.1 (ci := 8) (q0 := 0) rfl rfl) rfl hl.1 rfl (Nat.le_of_ble_eq_true rfl) dX8_told_126 ⟨Nat.zero_le _, Nat.zero_le _⟩ (fun H locs hw => ?_)
                refine lv_icmp_le (tgt := 136) hx hb dX8_told_129 (by decide) (fun c_24 => ?_) (fun c_24 => ?_)
                · replace hf := if_t c_24 hf
                  refine lv_iconst (v := 0) hx hb dX8_told_136 (by decide) ?_
                  have e_25 := Option.some.inj hf
                  subst e_25
                  exact wd_iret hx hb hr hlocks hw dX8_told_137
                · replace hf := if_f c_24 hf
                  refine lv_iconst (v := 1) hx hb dX8_told_132 (by decide) ?_
                  refine lv_goto (tgt := 137) hx hb dX8_told_133 (by decide) ?_
                  have e_26 := Option.some.inj hf
                  subst e_26
                  exact wd_iret hx hb hr hlocks hw dX8_told_137
              · replace hf := if_t c_19 hf
                refine lv_iconst (v := (-1)) hx hb dX8_told_108 (by decide) ?_
                refine lv_goto (tgt := 137) hx hb dX8_told_109 (by decide) ?_
                have e_27 := Option.some.inj hf
                subst e_27
                exact wd_iret hx hb hr hlocks hw dX8_told_137
            · replace hf := if_f c_18 hf
              by_cases c_28 : y_2 = 5
              · replace hf := if_t c_28 hf
                refine lv_tableIn (off := 110) (tgt := 138) hx hb dX8_told_28 (by rw [c_28]; decide) (by rw [c_28]; decide) (by rw [c_28]; rfl) (by decide) ?_
                refine lv_iload_n hx hb dX8_told_138 rfl (lv_at hl 0 rfl) ?_
                refine lv_if_ne (tgt := 146) hx hb dX8_told_139 (by decide) (fun c_29 => ?_) (fun c_29 => ?_)
                · replace hf := if_f c_29 hf
                  refine lv_aload_n hx hb dX8_told_146 rfl (lv_at hl 1 rfl) ?_
                  refine va_get (D := G.1) (ci := 8) (v := .ref (a 27)) (C := RX8) (T := TX8) (N := 45) hx hb hts hin8 hown hG.1 hw.1 0 rfl rfl 40 (by decide) (hts (.fieldLink RX8 94 "DutyDeskModel" "cDuty" "[Z") (List.mem_of_getElem? (i := 6) rfl)) (fun _ h9 => h9) rfl dX8_told_147 ?_
                  refine lv_iload_n hx hb dX8_told_150 rfl (lv_at hl 2 rfl) ?_
                  obtain ⟨h_30, hf⟩ := gd_of hf
                  refine va_zald hx hb hG.1 hw.1 27 3 (mw_atZ (k := 27) rfl) rfl h_30 dX8_told_151 ?_
                  refine lv_if_eq (tgt := 159) hx hb dX8_told_152 (by decide) (fun c_31 => ?_) (fun c_31 => ?_)
                  · replace hf := if_t c_31 hf
                    refine lv_iconst (v := 0) hx hb dX8_told_159 (by decide) ?_
                    have e_32 := Option.some.inj hf
                    subst e_32
                    exact wd_iret hx hb hr hlocks hw dX8_told_160
                  · replace hf := if_f c_31 hf
                    refine lv_iconst (v := 1) hx hb dX8_told_155 (by decide) ?_
                    refine lv_goto (tgt := 160) hx hb dX8_told_156 (by decide) ?_
                    have e_33 := Option.some.inj hf
                    subst e_33
                    exact wd_iret hx hb hr hlocks hw dX8_told_160
                · replace hf := if_t c_29 hf
                  refine lv_iconst (v := (-1)) hx hb dX8_told_142 (by decide) ?_
                  refine lv_goto (tgt := 160) hx hb dX8_told_143 (by decide) ?_
                  have e_34 := Option.some.inj hf
                  subst e_34
                  exact wd_iret hx hb hr hlocks hw dX8_told_160
              · replace hf := if_f c_28 hf
                have nc_4 := lv_neT c_4 (show Int32.toInt 0 = 0 from rfl)
                have nc_7 := lv_neT c_7 (show Int32.toInt 1 = 1 from rfl)
                have nc_10 := lv_neT c_10 (show Int32.toInt 2 = 2 from rfl)
                have nc_13 := lv_neT c_13 (show Int32.toInt 3 = 3 from rfl)
                have nc_18 := lv_neT c_18 (show Int32.toInt 4 = 4 from rfl)
                have nc_28 := lv_neT c_28 (show Int32.toInt 5 = 5 from rfl)
                refine lv_tableOut (tgt := 161) hx hb dX8_told_28 (by omega) (by decide) ?_
                refine lv_bipush (v := (-9)) hx hb dX8_told_161 (by decide) ?_
                have e_35 := Option.some.inj hf
                subst e_35
                exact wd_iret hx hb hr hlocks hw dX8_told_163
  refine lv_aload_n hx hb dX8_told_0 rfl (lv_at hl 0 rfl) ?_
  refine lv_iload_n hx hb dX8_told_1 rfl (lv_at hl 1 rfl) ?_
  obtain ⟨r_37, h_36, hf⟩ := bind_of hf
  refine cV (As := [.int p1]) (rest := []) ⟨hx, hb, hml, hown, hts⟩ hG hA hw (c_X8_isCall G l a R S p1 r_37 h_36) (cwV 1 hts gX8_told_X8_isCall rfl rfl rfl (by decide +kernel) ⟨Nat.le_of_ble_eq_true rfl, Nat.le_of_ble_eq_true rfl⟩) (va_recv hG.1 hw.1 (ci := 8) (q0 := 0) rfl rfl) rfl hl.1 rfl (Nat.le_of_ble_eq_true rfl) dX8_told_2 ⟨Nat.zero_le _, Nat.zero_le _⟩ (fun H locs hw => ?_)
  refine lv_if_ne (tgt := 11) hx hb dX8_told_5 (by decide) (fun c_38 => ?_) (fun c_38 => ?_)
  · replace hf := if_f c_38 hf
    refine lv_aload_n hx hb dX8_told_11 rfl (lv_at hl 0 rfl) ?_
    refine va_get (D := G.1) (ci := 8) (v := .ref (a 21)) (C := RX8) (T := TX8) (N := 45) hx hb hts hin8 hown hG.1 hw.1 0 rfl rfl 34 (by decide) (hts (.fieldLink RX8 76 "DutyDeskModel" "cState" "[I") (List.mem_of_getElem? (i := 1) rfl)) (fun _ h9 => h9) rfl dX8_told_12 ?_
    refine lv_iload_n hx hb dX8_told_15 rfl (lv_at hl 1 rfl) ?_
    obtain ⟨h_39, hf⟩ := gd_of hf
    refine va_iald hx hb hG.1 hw.1 21 1 (mw_atI (k := 21) rfl) rfl h_39 dX8_told_16 ?_
    refine lv_iconst (v := 1) hx hb dX8_told_17 (by decide) ?_
    refine lv_icmp_ne (tgt := 25) hx hb dX8_told_18 (by decide) (fun c_40 => ?_) (fun c_40 => ?_)
    · replace hf := if_f c_40 hf
      refine lv_iconst (v := 0) hx hb dX8_told_25 (by decide) ?_
      exact j26 p1 p2 0 _ _ _ hf hw (lv_sub hl [0, 1, 2] rfl)
    · replace hf := if_t c_40 hf
      refine lv_iconst (v := 1) hx hb dX8_told_21 (by decide) ?_
      refine lv_goto (tgt := 26) hx hb dX8_told_22 (by decide) ?_
      exact j26 p1 p2 1 _ _ _ hf hw (lv_sub hl [0, 1, 2] rfl)
  · replace hf := if_t c_38 hf
    refine lv_bipush (v := (-9)) hx hb dX8_told_8 (by decide) ?_
    have e_41 := Option.some.inj hf
    subst e_41
    exact wd_iret hx hb hr hlocks hw dX8_told_10
/-! DutyDeskModel.barred(II)I -/
def rm_X8_barred : Room := { frames := 4, cells := 0, slots := 0, locals := 88 }
def f_X8_barred (S : St) (p1 : Int32) (p2 : Int32) : Option (Int32) :=
  (f_X8_isCall S p1).bind (fun r_2 => (if r_2 = 0 then
    some ((-2))
  else
    (f_X8_isLawyer S p2).bind (fun r_6 => (if r_6 = 0 then
    some ((-2))
  else
    (f_X8_barsOf S p1 p2).bind (fun r_10 => some (r_10))))))
set_option maxHeartbeats 4000000 in
set_option maxRecDepth 100000 in
theorem c_X8_barred (G : GP) (l : Launch) (a : Nat → Nat) (R : va_W) (S : St) (p1 : Int32) (p2 : Int32) (r0 : Int32) (hf : f_X8_barred S p1 p2 = some r0) : MC G l yX8_barred wsX8_barred rm_X8_barred [.ref (a 0), .int p1, .int p2] (mw G.2.1 a R S) (mw G.2.1 a R S) (some (.int r0)) 0 0 := by
  refine MC.mk (cc := cX8_barred) (maxL := 3) (ret := (some .int)) (by decide) rfl (Nat.le_of_ble_eq_true rfl) ?_
  intro p e s m below meth c A ls ⟨hx, hb, hr, hml, hown, hlocks, _, hts⟩ hw hG hA hl
  have hl : lv_has ls 3 [(0, .ref (a 0)), (1, .int p1), (2, .int p2)] := hl
  rw [f_X8_barred] at hf
  refine lv_aload_n hx hb dX8_barred_0 rfl (lv_at hl 0 rfl) ?_
  refine lv_iload_n hx hb dX8_barred_1 rfl (lv_at hl 1 rfl) ?_
  obtain ⟨r_2, h_1, hf⟩ := bind_of hf
  refine cV (As := [.int p1]) (rest := []) ⟨hx, hb, hml, hown, hts⟩ hG hA hw (c_X8_isCall G l a R S p1 r_2 h_1) (cwV 1 hts gX8_barred_X8_isCall rfl rfl rfl (by decide +kernel) ⟨Nat.le_of_ble_eq_true rfl, Nat.le_of_ble_eq_true rfl⟩) (va_recv hG.1 hw.1 (ci := 8) (q0 := 0) rfl rfl) rfl hl.1 rfl (Nat.le_of_ble_eq_true rfl) dX8_barred_2 ⟨Nat.zero_le _, Nat.zero_le _⟩ (fun H locs hw => ?_)
  refine lv_if_eq (tgt := 25) hx hb dX8_barred_5 (by decide) (fun c_3 => ?_) (fun c_3 => ?_)
  · replace hf := if_t c_3 hf
    refine lv_bipush (v := (-2)) hx hb dX8_barred_25 (by decide) ?_
    have e_4 := Option.some.inj hf
    subst e_4
    exact wd_iret hx hb hr hlocks hw dX8_barred_27
  · replace hf := if_f c_3 hf
    refine lv_aload_n hx hb dX8_barred_8 rfl (lv_at hl 0 rfl) ?_
    refine lv_iload_n hx hb dX8_barred_9 rfl (lv_at hl 2 rfl) ?_
    obtain ⟨r_6, h_5, hf⟩ := bind_of hf
    refine cV (As := [.int p2]) (rest := []) ⟨hx, hb, hml, hown, hts⟩ hG hA hw (c_X8_isLawyer G l a R S p2 r_6 h_5) (cwV 1 hts gX8_barred_X8_isLawyer rfl rfl rfl (by decide +kernel) ⟨Nat.le_of_ble_eq_true rfl, Nat.le_of_ble_eq_true rfl⟩) (va_recv hG.1 hw.1 (ci := 8) (q0 := 0) rfl rfl) rfl hl.1 rfl (Nat.le_of_ble_eq_true rfl) dX8_barred_10 ⟨Nat.zero_le _, Nat.zero_le _⟩ (fun H locs hw => ?_)
    refine lv_if_eq (tgt := 25) hx hb dX8_barred_13 (by decide) (fun c_7 => ?_) (fun c_7 => ?_)
    · replace hf := if_t c_7 hf
      refine lv_bipush (v := (-2)) hx hb dX8_barred_25 (by decide) ?_
      have e_8 := Option.some.inj hf
      subst e_8
      exact wd_iret hx hb hr hlocks hw dX8_barred_27
    · replace hf := if_f c_7 hf
      refine lv_aload_n hx hb dX8_barred_16 rfl (lv_at hl 0 rfl) ?_
      refine lv_iload_n hx hb dX8_barred_17 rfl (lv_at hl 1 rfl) ?_
      refine lv_iload_n hx hb dX8_barred_18 rfl (lv_at hl 2 rfl) ?_
      obtain ⟨r_10, h_9, hf⟩ := bind_of hf
      refine cV (As := [.int p1, .int p2]) (rest := []) ⟨hx, hb, hml, hown, hts⟩ hG hA hw (c_X8_barsOf G l a R S p1 p2 r_10 h_9) (cwV 2 hts gX8_barred_X8_barsOf rfl rfl rfl (by decide +kernel) ⟨Nat.le_of_ble_eq_true rfl, Nat.le_of_ble_eq_true rfl⟩) (va_recv hG.1 hw.1 (ci := 8) (q0 := 0) rfl rfl) rfl hl.1 rfl (Nat.le_of_ble_eq_true rfl) dX8_barred_19 ⟨Nat.zero_le _, Nat.zero_le _⟩ (fun H locs hw => ?_)
      refine lv_goto (tgt := 27) hx hb dX8_barred_22 (by decide) ?_
      have e_11 := Option.some.inj hf
      subst e_11
      exact wd_iret hx hb hr hlocks hw dX8_barred_27
/-! DutyDeskModel.lineOf(III)I -/
def rm_X8_lineOf (d : Nat) : Room := { frames := 2 + d, cells := 0, slots := 0, locals := 42 + 25 * d }
def f_X8_lineOf : Nat → St → Int32 → Int32 → Int32 → Option (Int32)
  | 0, _, _, _, _ => none
  | d + 1, S, p1, p2, p3 =>
  bnd (f_X8_lineOf d) fun self => gd p1 150 ((f_X8_forceOf S (gM S 15 p1.toNatClampNeg) p2).bind (fun r_3 => (if p3 = 0 then
    gd p1 150 ((if (gM S 27 p1.toNatClampNeg) = 0 then
    some (0)
  else
    (f_X8_ruleOf S r_3 4).bind (fun r_9 => some (r_9))))
  else
    (if p3 = 1 then
    (f_X8_ruleOf S r_3 5).bind (fun r_13 => some (r_13))
  else
    (if p3 = 2 then
    (f_X8_ruleOf S r_3 6).bind (fun r_17 => gd p1 150 (some (((r_17 * 2) * (gM S 26 p1.toNatClampNeg)))))
  else
    (if p3 = 3 then
    gd p1 150 ((f_X8_ruleOf S r_3 0).bind (fun r_23 => (if (gM S 25 p1.toNatClampNeg) ≤ r_23 then
    some (0)
  else
    (f_X8_ruleOf S r_3 7).bind (fun r_27 => some ((-r_27))))))
  else
    (self S p1 p2 0).bind (fun r_30 => (self S p1 p2 1).bind (fun r_32 => (self S p1 p2 2).bind (fun r_34 => (self S p1 p2 3).bind (fun r_36 => bnd (((r_30 + r_32) + r_34) + r_36) fun x_37 => (f_X8_ruleOf S r_3 8).bind (fun r_39 => (if x_37 ≤ r_39 then
    some (0)
  else
    (f_X8_ruleOf S r_3 8).bind (fun r_43 => some ((r_43 - x_37)))))))))))))))
set_option maxHeartbeats 4000000 in
set_option maxRecDepth 100000 in
theorem c_X8_lineOf (G : GP) (l : Launch) (a : Nat → Nat) (R : va_W) : ∀ (d : Nat) (S : St) (p1 : Int32) (p2 : Int32) (p3 : Int32) (r0 : Int32), f_X8_lineOf d S p1 p2 p3 = some r0 → MC G l yX8_lineOf wsX8_lineOf (rm_X8_lineOf d) [.ref (a 0), .int p1, .int p2, .int p3] (mw G.2.1 a R S) (mw G.2.1 a R S) (some (.int r0)) 0 0 := by
  intro d
  induction d with
  | zero =>
    intro S p1 p2 p3 r0 hf
    rw [f_X8_lineOf] at hf
    cases hf
  | succ d ih =>
  intro S p1 p2 p3 r0 hf
  refine MC.mk (cc := cX8_lineOf) (maxL := 6) (ret := (some .int)) (by decide) rfl (Nat.le_of_ble_eq_true rfl) ?_
  intro p e s m below meth c A ls ⟨hx, hb, hr, hml, hown, hlocks, _, hts⟩ hw hG hA hl
  have hl : lv_has ls 6 [(0, .ref (a 0)), (1, .int p1), (2, .int p2), (3, .int p3)] := hl
  have hin8 : ∀ w ∈ u_ws RX8 TX8 45, w ∈ wsX8_lineOf := by decide +kernel
  rw [f_X8_lineOf] at hf
  generalize f_X8_lineOf d = self at hf ih
  replace hf := bnd_of rfl hf
  refine lv_aload_n hx hb dX8_lineOf_0 rfl (lv_at hl 0 rfl) ?_
  refine lv_aload_n hx hb dX8_lineOf_1 rfl (lv_at hl 0 rfl) ?_
  refine va_get (D := G.1) (ci := 8) (v := .ref (a 15)) (C := RX8) (T := TX8) (N := 45) hx hb hts hin8 hown hG.1 hw.1 0 rfl rfl 28 (by decide) (hts (.fieldLink RX8 58 "DutyDeskModel" "cDay" "[I") (List.mem_of_getElem? (i := 1) rfl)) (fun _ h9 => h9) rfl dX8_lineOf_2 ?_
  refine lv_iload_n hx hb dX8_lineOf_5 rfl (lv_at hl 1 rfl) ?_
  obtain ⟨h_1, hf⟩ := gd_of hf
  refine va_iald hx hb hG.1 hw.1 15 1 (mw_atI (k := 15) rfl) rfl h_1 dX8_lineOf_6 ?_
  refine lv_iload_n hx hb dX8_lineOf_7 rfl (lv_at hl 2 rfl) ?_
  obtain ⟨r_3, h_2, hf⟩ := bind_of hf
  refine cV (As := [.int (gM S 15 p1.toNatClampNeg), .int p2]) (rest := []) ⟨hx, hb, hml, hown, hts⟩ hG hA hw (c_X8_forceOf G l a R S (gM S 15 p1.toNatClampNeg) p2 r_3 h_2) (cwV 2 hts gX8_lineOf_X8_forceOf rfl rfl rfl (by decide +kernel) ⟨by simp only [rm_X8_forceOf, rm_X8_lineOf]; omega, by simp only [rm_X8_forceOf, rm_X8_lineOf]; omega⟩) (va_recv hG.1 hw.1 (ci := 8) (q0 := 0) rfl rfl) rfl hl.1 rfl (Nat.le_of_ble_eq_true rfl) dX8_lineOf_8 ⟨Nat.zero_le _, Nat.zero_le _⟩ (fun H locs hw => ?_)
  refine lv_istore (lv' := [(4, .int r_3), (0, .ref (a 0)), (1, .int p1), (2, .int p2), (3, .int p3)]) hx hb dX8_lineOf_11 hl (by decide) rfl (fun ls hl => ?_)
  refine lv_iload_n hx hb dX8_lineOf_13 rfl (lv_at hl 4 rfl) ?_
  by_cases c_4 : p3 = 0
  · replace hf := if_t c_4 hf
    refine lv_tableIn (off := 30) (tgt := 44) hx hb dX8_lineOf_14 (by rw [c_4]; decide) (by rw [c_4]; decide) (by rw [c_4]; rfl) (by decide) ?_
    refine lv_aload_n hx hb dX8_lineOf_44 rfl (lv_at hl 1 rfl) ?_
    refine va_get (D := G.1) (ci := 8) (v := .ref (a 27)) (C := RX8) (T := TX8) (N := 45) hx hb hts hin8 hown hG.1 hw.1 0 rfl rfl 40 (by decide) (hts (.fieldLink RX8 94 "DutyDeskModel" "cDuty" "[Z") (List.mem_of_getElem? (i := 2) rfl)) (fun _ h9 => h9) rfl dX8_lineOf_45 ?_
    refine lv_iload_n hx hb dX8_lineOf_48 rfl (lv_at hl 2 rfl) ?_
    obtain ⟨h_5, hf⟩ := gd_of hf
    refine va_zald hx hb hG.1 hw.1 27 3 (mw_atZ (k := 27) rfl) rfl h_5 dX8_lineOf_49 ?_
    refine lv_if_eq (tgt := 63) hx hb dX8_lineOf_50 (by decide) (fun c_6 => ?_) (fun c_6 => ?_)
    · replace hf := if_t c_6 hf
      refine lv_iconst (v := 0) hx hb dX8_lineOf_63 (by decide) ?_
      have e_7 := Option.some.inj hf
      subst e_7
      exact wd_iret hx hb hr hlocks hw dX8_lineOf_64
    · replace hf := if_f c_6 hf
      refine lv_aload_n hx hb dX8_lineOf_53 rfl (lv_at hl 1 rfl) ?_
      refine lv_iload hx hb dX8_lineOf_54 (lv_at hl 0 rfl) ?_
      refine lv_iconst (v := 4) hx hb dX8_lineOf_56 (by decide) ?_
      obtain ⟨r_9, h_8, hf⟩ := bind_of hf
      refine cV (As := [.int r_3, .int 4]) (rest := []) ⟨hx, hb, hml, hown, hts⟩ hG hA hw (c_X8_ruleOf G l a R S r_3 4 r_9 h_8) (cwV 2 hts gX8_lineOf_X8_ruleOf rfl rfl rfl (by decide +kernel) ⟨by simp only [rm_X8_ruleOf, rm_X8_lineOf]; omega, by simp only [rm_X8_ruleOf, rm_X8_lineOf]; omega⟩) (va_recv hG.1 hw.1 (ci := 8) (q0 := 0) rfl rfl) rfl hl.1 rfl (Nat.le_of_ble_eq_true rfl) dX8_lineOf_57 ⟨Nat.zero_le _, Nat.zero_le _⟩ (fun H locs hw => ?_)
      refine lv_goto (tgt := 64) hx hb dX8_lineOf_60 (by decide) ?_
      have e_10 := Option.some.inj hf
      subst e_10
      exact wd_iret hx hb hr hlocks hw dX8_lineOf_64
  · replace hf := if_f c_4 hf
    by_cases c_11 : p3 = 1
    · replace hf := if_t c_11 hf
      refine lv_tableIn (off := 51) (tgt := 65) hx hb dX8_lineOf_14 (by rw [c_11]; decide) (by rw [c_11]; decide) (by rw [c_11]; rfl) (by decide) ?_
      refine lv_aload_n hx hb dX8_lineOf_65 rfl (lv_at hl 1 rfl) ?_
      refine lv_iload hx hb dX8_lineOf_66 (lv_at hl 0 rfl) ?_
      refine lv_iconst (v := 5) hx hb dX8_lineOf_68 (by decide) ?_
      obtain ⟨r_13, h_12, hf⟩ := bind_of hf
      refine cV (As := [.int r_3, .int 5]) (rest := []) ⟨hx, hb, hml, hown, hts⟩ hG hA hw (c_X8_ruleOf G l a R S r_3 5 r_13 h_12) (cwV 2 hts gX8_lineOf_X8_ruleOf rfl rfl rfl (by decide +kernel) ⟨by simp only [rm_X8_ruleOf, rm_X8_lineOf]; omega, by simp only [rm_X8_ruleOf, rm_X8_lineOf]; omega⟩) (va_recv hG.1 hw.1 (ci := 8) (q0 := 0) rfl rfl) rfl hl.1 rfl (Nat.le_of_ble_eq_true rfl) dX8_lineOf_69 ⟨Nat.zero_le _, Nat.zero_le _⟩ (fun H locs hw => ?_)
      have e_14 := Option.some.inj hf
      subst e_14
      exact wd_iret hx hb hr hlocks hw dX8_lineOf_72
    · replace hf := if_f c_11 hf
      by_cases c_15 : p3 = 2
      · replace hf := if_t c_15 hf
        refine lv_tableIn (off := 59) (tgt := 73) hx hb dX8_lineOf_14 (by rw [c_15]; decide) (by rw [c_15]; decide) (by rw [c_15]; rfl) (by decide) ?_
        refine lv_aload_n hx hb dX8_lineOf_73 rfl (lv_at hl 1 rfl) ?_
        refine lv_iload hx hb dX8_lineOf_74 (lv_at hl 0 rfl) ?_
        refine lv_bipush (v := 6) hx hb dX8_lineOf_76 (by decide) ?_
        obtain ⟨r_17, h_16, hf⟩ := bind_of hf
        refine cV (As := [.int r_3, .int 6]) (rest := []) ⟨hx, hb, hml, hown, hts⟩ hG hA hw (c_X8_ruleOf G l a R S r_3 6 r_17 h_16) (cwV 2 hts gX8_lineOf_X8_ruleOf rfl rfl rfl (by decide +kernel) ⟨by simp only [rm_X8_ruleOf, rm_X8_lineOf]; omega, by simp only [rm_X8_ruleOf, rm_X8_lineOf]; omega⟩) (va_recv hG.1 hw.1 (ci := 8) (q0 := 0) rfl rfl) rfl hl.1 rfl (Nat.le_of_ble_eq_true rfl) dX8_lineOf_78 ⟨Nat.zero_le _, Nat.zero_le _⟩ (fun H locs hw => ?_)
        refine lv_iconst (v := 2) hx hb dX8_lineOf_81 (by decide) ?_
        refine lv_imul hx hb dX8_lineOf_82 ?_
        refine lv_aload_n hx hb dX8_lineOf_83 rfl (lv_at hl 1 rfl) ?_
        refine va_get (D := G.1) (ci := 8) (v := .ref (a 26)) (C := RX8) (T := TX8) (N := 45) hx hb hts hin8 hown hG.1 hw.1 0 rfl rfl 39 (by decide) (hts (.fieldLink RX8 91 "DutyDeskModel" "cTravel" "[I") (List.mem_of_getElem? (i := 3) rfl)) (fun _ h9 => h9) rfl dX8_lineOf_84 ?_
        refine lv_iload_n hx hb dX8_lineOf_87 rfl (lv_at hl 2 rfl) ?_
        obtain ⟨h_18, hf⟩ := gd_of hf
        refine va_iald hx hb hG.1 hw.1 26 1 (mw_atI (k := 26) rfl) rfl h_18 dX8_lineOf_88 ?_
        refine lv_imul hx hb dX8_lineOf_89 ?_
        have e_19 := Option.some.inj hf
        subst e_19
        exact wd_iret hx hb hr hlocks hw dX8_lineOf_90
      · replace hf := if_f c_15 hf
        by_cases c_20 : p3 = 3
        · replace hf := if_t c_20 hf
          refine lv_tableIn (off := 77) (tgt := 91) hx hb dX8_lineOf_14 (by rw [c_20]; decide) (by rw [c_20]; decide) (by rw [c_20]; rfl) (by decide) ?_
          refine lv_aload_n hx hb dX8_lineOf_91 rfl (lv_at hl 1 rfl) ?_
          refine va_get (D := G.1) (ci := 8) (v := .ref (a 25)) (C := RX8) (T := TX8) (N := 45) hx hb hts hin8 hown hG.1 hw.1 0 rfl rfl 38 (by decide) (hts (.fieldLink RX8 88 "DutyDeskModel" "cMinutes" "[I") (List.mem_of_getElem? (i := 4) rfl)) (fun _ h9 => h9) rfl dX8_lineOf_92 ?_
          refine lv_iload_n hx hb dX8_lineOf_95 rfl (lv_at hl 2 rfl) ?_
          obtain ⟨h_21, hf⟩ := gd_of hf
          refine va_iald hx hb hG.1 hw.1 25 1 (mw_atI (k := 25) rfl) rfl h_21 dX8_lineOf_96 ?_
          refine lv_aload_n hx hb dX8_lineOf_97 rfl (lv_at hl 1 rfl) ?_
          refine lv_iload hx hb dX8_lineOf_98 (lv_at hl 0 rfl) ?_
          refine lv_iconst (v := 0) hx hb dX8_lineOf_100 (by decide) ?_
          obtain ⟨r_23, h_22, hf⟩ := bind_of hf
          refine cV (As := [.int r_3, .int 0]) (rest := [.int (gM S 25 p1.toNatClampNeg)]) ⟨hx, hb, hml, hown, hts⟩ hG hA hw (c_X8_ruleOf G l a R S r_3 0 r_23 h_22) (cwV 2 hts gX8_lineOf_X8_ruleOf rfl rfl rfl (by decide +kernel) ⟨by simp only [rm_X8_ruleOf, rm_X8_lineOf]; omega, by simp only [rm_X8_ruleOf, rm_X8_lineOf]; omega⟩) (va_recv hG.1 hw.1 (ci := 8) (q0 := 0) rfl rfl) rfl hl.1 rfl (Nat.le_of_ble_eq_true rfl) dX8_lineOf_101 ⟨Nat.zero_le _, Nat.zero_le _⟩ (fun H locs hw => ?_)
          refine lv_icmp_le (tgt := 119) hx hb dX8_lineOf_104 (by decide) (fun c_24 => ?_) (fun c_24 => ?_)
          · replace hf := if_t c_24 hf
            refine lv_iconst (v := 0) hx hb dX8_lineOf_119 (by decide) ?_
            have e_25 := Option.some.inj hf
            subst e_25
            exact wd_iret hx hb hr hlocks hw dX8_lineOf_120
          · replace hf := if_f c_24 hf
            refine lv_aload_n hx hb dX8_lineOf_107 rfl (lv_at hl 1 rfl) ?_
            refine lv_iload hx hb dX8_lineOf_108 (lv_at hl 0 rfl) ?_
            refine lv_bipush (v := 7) hx hb dX8_lineOf_110 (by decide) ?_
            obtain ⟨r_27, h_26, hf⟩ := bind_of hf
            refine cV (As := [.int r_3, .int 7]) (rest := []) ⟨hx, hb, hml, hown, hts⟩ hG hA hw (c_X8_ruleOf G l a R S r_3 7 r_27 h_26) (cwV 2 hts gX8_lineOf_X8_ruleOf rfl rfl rfl (by decide +kernel) ⟨by simp only [rm_X8_ruleOf, rm_X8_lineOf]; omega, by simp only [rm_X8_ruleOf, rm_X8_lineOf]; omega⟩) (va_recv hG.1 hw.1 (ci := 8) (q0 := 0) rfl rfl) rfl hl.1 rfl (Nat.le_of_ble_eq_true rfl) dX8_lineOf_112 ⟨Nat.zero_le _, Nat.zero_le _⟩ (fun H locs hw => ?_)
            refine lv_ineg hx hb dX8_lineOf_115 ?_
            refine lv_goto (tgt := 120) hx hb dX8_lineOf_116 (by decide) ?_
            have e_28 := Option.some.inj hf
            subst e_28
            exact wd_iret hx hb hr hlocks hw dX8_lineOf_120
        · replace hf := if_f c_20 hf
          have nc_4 := lv_neT c_4 (show Int32.toInt 0 = 0 from rfl)
          have nc_11 := lv_neT c_11 (show Int32.toInt 1 = 1 from rfl)
          have nc_15 := lv_neT c_15 (show Int32.toInt 2 = 2 from rfl)
          have nc_20 := lv_neT c_20 (show Int32.toInt 3 = 3 from rfl)
          refine lv_tableOut (tgt := 121) hx hb dX8_lineOf_14 (by omega) (by decide) ?_
          refine lv_aload_n hx hb dX8_lineOf_121 rfl (lv_at hl 1 rfl) ?_
          refine lv_iload_n hx hb dX8_lineOf_122 rfl (lv_at hl 2 rfl) ?_
          refine lv_iload_n hx hb dX8_lineOf_123 rfl (lv_at hl 3 rfl) ?_
          refine lv_iconst (v := 0) hx hb dX8_lineOf_124 (by decide) ?_
          obtain ⟨r_30, h_29, hf⟩ := bind_of hf
          refine cV (As := [.int p1, .int p2, .int 0]) (rest := []) ⟨hx, hb, hml, hown, hts⟩ hG hA hw (ih S p1 p2 0 r_30 h_29) (cwV 3 hts gX8_lineOf_X8_lineOf rfl rfl rfl (by decide +kernel) ⟨by simp only [rm_X8_lineOf, rm_X8_lineOf]; omega, by simp only [rm_X8_lineOf, rm_X8_lineOf]; omega⟩) (va_recv hG.1 hw.1 (ci := 8) (q0 := 0) rfl rfl) rfl hl.1 rfl (Nat.le_of_ble_eq_true rfl) dX8_lineOf_125 ⟨Nat.zero_le _, Nat.zero_le _⟩ (fun H locs hw => ?_)
          refine lv_aload_n hx hb dX8_lineOf_128 rfl (lv_at hl 1 rfl) ?_
          refine lv_iload_n hx hb dX8_lineOf_129 rfl (lv_at hl 2 rfl) ?_
          refine lv_iload_n hx hb dX8_lineOf_130 rfl (lv_at hl 3 rfl) ?_
          refine lv_iconst (v := 1) hx hb dX8_lineOf_131 (by decide) ?_
          obtain ⟨r_32, h_31, hf⟩ := bind_of hf
          refine cV (As := [.int p1, .int p2, .int 1]) (rest := [.int r_30]) ⟨hx, hb, hml, hown, hts⟩ hG hA hw (ih S p1 p2 1 r_32 h_31) (cwV 3 hts gX8_lineOf_X8_lineOf rfl rfl rfl (by decide +kernel) ⟨by simp only [rm_X8_lineOf, rm_X8_lineOf]; omega, by simp only [rm_X8_lineOf, rm_X8_lineOf]; omega⟩) (va_recv hG.1 hw.1 (ci := 8) (q0 := 0) rfl rfl) rfl hl.1 rfl (Nat.le_of_ble_eq_true rfl) dX8_lineOf_132 ⟨Nat.zero_le _, Nat.zero_le _⟩ (fun H locs hw => ?_)
          refine lv_iadd hx hb dX8_lineOf_135 ?_
          refine lv_aload_n hx hb dX8_lineOf_136 rfl (lv_at hl 1 rfl) ?_
          refine lv_iload_n hx hb dX8_lineOf_137 rfl (lv_at hl 2 rfl) ?_
          refine lv_iload_n hx hb dX8_lineOf_138 rfl (lv_at hl 3 rfl) ?_
          refine lv_iconst (v := 2) hx hb dX8_lineOf_139 (by decide) ?_
          obtain ⟨r_34, h_33, hf⟩ := bind_of hf
          refine cV (As := [.int p1, .int p2, .int 2]) (rest := [.int (r_30 + r_32)]) ⟨hx, hb, hml, hown, hts⟩ hG hA hw (ih S p1 p2 2 r_34 h_33) (cwV 3 hts gX8_lineOf_X8_lineOf rfl rfl rfl (by decide +kernel) ⟨by simp only [rm_X8_lineOf, rm_X8_lineOf]; omega, by simp only [rm_X8_lineOf, rm_X8_lineOf]; omega⟩) (va_recv hG.1 hw.1 (ci := 8) (q0 := 0) rfl rfl) rfl hl.1 rfl (Nat.le_of_ble_eq_true rfl) dX8_lineOf_140 ⟨Nat.zero_le _, Nat.zero_le _⟩ (fun H locs hw => ?_)
          refine lv_iadd hx hb dX8_lineOf_143 ?_
          refine lv_aload_n hx hb dX8_lineOf_144 rfl (lv_at hl 1 rfl) ?_
          refine lv_iload_n hx hb dX8_lineOf_145 rfl (lv_at hl 2 rfl) ?_
          refine lv_iload_n hx hb dX8_lineOf_146 rfl (lv_at hl 3 rfl) ?_
          refine lv_iconst (v := 3) hx hb dX8_lineOf_147 (by decide) ?_
          obtain ⟨r_36, h_35, hf⟩ := bind_of hf
          refine cV (As := [.int p1, .int p2, .int 3]) (rest := [.int ((r_30 + r_32) + r_34)]) ⟨hx, hb, hml, hown, hts⟩ hG hA hw (ih S p1 p2 3 r_36 h_35) (cwV 3 hts gX8_lineOf_X8_lineOf rfl rfl rfl (by decide +kernel) ⟨by simp only [rm_X8_lineOf, rm_X8_lineOf]; omega, by simp only [rm_X8_lineOf, rm_X8_lineOf]; omega⟩) (va_recv hG.1 hw.1 (ci := 8) (q0 := 0) rfl rfl) rfl hl.1 rfl (Nat.le_of_ble_eq_true rfl) dX8_lineOf_148 ⟨Nat.zero_le _, Nat.zero_le _⟩ (fun H locs hw => ?_)
          refine lv_iadd hx hb dX8_lineOf_151 ?_
          refine lv_topi (fun x_37 ex_37 => ?_)
          replace hf := bnd_of ex_37 hf
          refine lv_istore (lv' := [(5, .int x_37), (4, .int r_3), (0, .ref (a 0)), (1, .int p1), (2, .int p2), (3, .int p3)]) hx hb dX8_lineOf_152 hl (by decide) rfl (fun ls hl => ?_)
          refine lv_iload hx hb dX8_lineOf_154 (lv_at hl 0 rfl) ?_
          refine lv_aload_n hx hb dX8_lineOf_156 rfl (lv_at hl 2 rfl) ?_
          refine lv_iload hx hb dX8_lineOf_157 (lv_at hl 1 rfl) ?_
          refine lv_bipush (v := 8) hx hb dX8_lineOf_159 (by decide) ?_
          obtain ⟨r_39, h_38, hf⟩ := bind_of hf
          refine cV (As := [.int r_3, .int 8]) (rest := [.int x_37]) ⟨hx, hb, hml, hown, hts⟩ hG hA hw (c_X8_ruleOf G l a R S r_3 8 r_39 h_38) (cwV 2 hts gX8_lineOf_X8_ruleOf rfl rfl rfl (by decide +kernel) ⟨by simp only [rm_X8_ruleOf, rm_X8_lineOf]; omega, by simp only [rm_X8_ruleOf, rm_X8_lineOf]; omega⟩) (va_recv hG.1 hw.1 (ci := 8) (q0 := 0) rfl rfl) rfl hl.1 rfl (Nat.le_of_ble_eq_true rfl) dX8_lineOf_161 ⟨Nat.zero_le _, Nat.zero_le _⟩ (fun H locs hw => ?_)
          refine lv_icmp_le (tgt := 181) hx hb dX8_lineOf_164 (by decide) (fun c_40 => ?_) (fun c_40 => ?_)
          · replace hf := if_t c_40 hf
            refine lv_iconst (v := 0) hx hb dX8_lineOf_181 (by decide) ?_
            have e_41 := Option.some.inj hf
            subst e_41
            exact wd_iret hx hb hr hlocks hw dX8_lineOf_182
          · replace hf := if_f c_40 hf
            refine lv_aload_n hx hb dX8_lineOf_167 rfl (lv_at hl 2 rfl) ?_
            refine lv_iload hx hb dX8_lineOf_168 (lv_at hl 1 rfl) ?_
            refine lv_bipush (v := 8) hx hb dX8_lineOf_170 (by decide) ?_
            obtain ⟨r_43, h_42, hf⟩ := bind_of hf
            refine cV (As := [.int r_3, .int 8]) (rest := []) ⟨hx, hb, hml, hown, hts⟩ hG hA hw (c_X8_ruleOf G l a R S r_3 8 r_43 h_42) (cwV 2 hts gX8_lineOf_X8_ruleOf rfl rfl rfl (by decide +kernel) ⟨by simp only [rm_X8_ruleOf, rm_X8_lineOf]; omega, by simp only [rm_X8_ruleOf, rm_X8_lineOf]; omega⟩) (va_recv hG.1 hw.1 (ci := 8) (q0 := 0) rfl rfl) rfl hl.1 rfl (Nat.le_of_ble_eq_true rfl) dX8_lineOf_172 ⟨Nat.zero_le _, Nat.zero_le _⟩ (fun H locs hw => ?_)
            refine lv_iload hx hb dX8_lineOf_175 (lv_at hl 0 rfl) ?_
            refine lv_isub hx hb dX8_lineOf_177 ?_
            refine lv_goto (tgt := 182) hx hb dX8_lineOf_178 (by decide) ?_
            have e_44 := Option.some.inj hf
            subst e_44
            exact wd_iret hx hb hr hlocks hw dX8_lineOf_182
/-! DutyDeskModel.claimOf(II)I -/
def rm_X8_claimOf : Room := { frames := 5, cells := 0, slots := 0, locals := 117 }
def f_X8_claimOf_L5 (S : St) (p1 : Int32) (p2 : Int32) : (Int32 × Int32) → Option ((Int32 × Int32) ⊕ (Int32))
  | (v_1, v_2) =>
  (if 5 ≤ v_2 then
    (if 0 ≤ v_1 then
    some (.inr (v_1))
  else
    some (.inr (0)))
  else
    (f_X8_lineOf 2 S p1 p2 v_2).bind (fun r_10 => bnd (v_1 + r_10) fun x_11 => bnd (v_2 + 1) fun x_12 => some (.inl (x_11, x_12))))
def f_X8_claimOf (S : St) (p1 : Int32) (p2 : Int32) : Option (Int32) :=
  loopF (f_X8_claimOf_L5 S p1 p2) FU (0, 0)
set_option maxHeartbeats 4000000 in
set_option maxRecDepth 100000 in
theorem c_X8_claimOf (G : GP) (l : Launch) (a : Nat → Nat) (R : va_W) (S : St) (p1 : Int32) (p2 : Int32) (r0 : Int32) (hf : f_X8_claimOf S p1 p2 = some r0) : MC G l yX8_claimOf wsX8_claimOf rm_X8_claimOf [.ref (a 0), .int p1, .int p2] (mw G.2.1 a R S) (mw G.2.1 a R S) (some (.int r0)) 0 0 := by
  refine MC.mk (cc := cX8_claimOf) (maxL := 5) (ret := (some .int)) (by decide) rfl (Nat.le_of_ble_eq_true rfl) ?_
  intro p e s m below meth c A ls ⟨hx, hb, hr, hml, hown, hlocks, _, hts⟩ hw hG hA hl
  have hl : lv_has ls 5 [(0, .ref (a 0)), (1, .int p1), (2, .int p2)] := hl
  rw [f_X8_claimOf] at hf
  refine lv_iconst (v := 0) hx hb dX8_claimOf_0 (by decide) ?_
  refine lv_istore_n (lv' := [(3, .int 0), (0, .ref (a 0)), (1, .int p1), (2, .int p2)]) hx hb dX8_claimOf_1 rfl hl (by decide) rfl (fun ls hl => ?_)
  refine lv_iconst (v := 0) hx hb dX8_claimOf_2 (by decide) ?_
  refine lv_istore (lv' := [(4, .int 0), (3, .int 0), (0, .ref (a 0)), (1, .int p1), (2, .int p2)]) hx hb dX8_claimOf_3 hl (by decide) rfl (fun ls hl => ?_)
  refine loopF_ind (body := f_X8_claimOf_L5 S p1 p2) (fun (q : Int32 × Int32) => match q with | (v_1, v_2) => ∀ (H : Heap) (locs : List Loc) (ls : Array Slot), Wd G A s H locs (mw G.2.1 a R S) → lv_has ls 5 [(0, .ref (a 0)), (1, .int p1), (2, .int p2), (3, .int v_1), (4, .int v_2)] → WQ p l e rm_X8_claimOf s m [.ref (a 0), .int p1, .int p2] below meth c G A (mw G.2.1 a R S) (some (.int r0)) 0 0 H locs 0 0 (F0 m 5 ls [])) ?_ FU (0, 0) hf _ _ _ hw (lv_sub hl [2, 3, 4, 1, 0] rfl)
  clear hf hw hl
  intro ⟨v_1, v_2⟩ t0_5 hf hz1_0_5 hz2_0_5 H locs ls hw hl
  rw [f_X8_claimOf_L5] at hf
  refine lv_iload hx hb dX8_claimOf_5 (lv_at hl 4 rfl) ?_
  refine lv_iconst (v := 5) hx hb dX8_claimOf_7 (by decide) ?_
  refine lv_icmp_ge (tgt := 28) hx hb dX8_claimOf_8 (by decide) (fun c_3 => ?_) (fun c_3 => ?_)
  · replace hf := if_t c_3 hf
    refine lv_iload_n hx hb dX8_claimOf_28 rfl (lv_at hl 3 rfl) ?_
    refine lv_if_ge (tgt := 36) hx hb dX8_claimOf_29 (by decide) (fun c_4 => ?_) (fun c_4 => ?_)
    · replace hf := if_t c_4 hf
      refine lv_iload_n hx hb dX8_claimOf_36 rfl (lv_at hl 3 rfl) ?_
      have e_5 := Option.some.inj hf
      have e_6 := hz2_0_5 _ e_5.symm
      subst e_6
      exact wd_iret hx hb hr hlocks hw dX8_claimOf_37
    · replace hf := if_f c_4 hf
      refine lv_iconst (v := 0) hx hb dX8_claimOf_32 (by decide) ?_
      refine lv_goto (tgt := 37) hx hb dX8_claimOf_33 (by decide) ?_
      have e_7 := Option.some.inj hf
      have e_8 := hz2_0_5 _ e_7.symm
      subst e_8
      exact wd_iret hx hb hr hlocks hw dX8_claimOf_37
  · replace hf := if_f c_3 hf
    refine lv_iload_n hx hb dX8_claimOf_11 rfl (lv_at hl 3 rfl) ?_
    refine lv_aload_n hx hb dX8_claimOf_12 rfl (lv_at hl 0 rfl) ?_
    refine lv_iload_n hx hb dX8_claimOf_13 rfl (lv_at hl 1 rfl) ?_
    refine lv_iload_n hx hb dX8_claimOf_14 rfl (lv_at hl 2 rfl) ?_
    refine lv_iload hx hb dX8_claimOf_15 (lv_at hl 4 rfl) ?_
    obtain ⟨r_10, h_9, hf⟩ := bind_of hf
    refine cV (As := [.int p1, .int p2, .int v_2]) (rest := [.int v_1]) ⟨hx, hb, hml, hown, hts⟩ hG hA hw (c_X8_lineOf G l a R 2 S p1 p2 v_2 r_10 h_9) (cwV 3 hts gX8_claimOf_X8_lineOf rfl rfl rfl (by decide +kernel) ⟨Nat.le_of_ble_eq_true rfl, Nat.le_of_ble_eq_true rfl⟩) (va_recv hG.1 hw.1 (ci := 8) (q0 := 0) rfl rfl) rfl hl.1 rfl (Nat.le_of_ble_eq_true rfl) dX8_claimOf_17 ⟨Nat.zero_le _, Nat.zero_le _⟩ (fun H locs hw => ?_)
    refine lv_iadd hx hb dX8_claimOf_20 ?_
    refine lv_topi (fun x_11 ex_11 => ?_)
    replace hf := bnd_of ex_11 hf
    refine lv_istore_n (lv' := [(3, .int x_11), (0, .ref (a 0)), (1, .int p1), (2, .int p2), (4, .int v_2)]) hx hb dX8_claimOf_21 rfl hl (by decide) rfl (fun ls hl => ?_)
    obtain ⟨x_12, ex_12⟩ : ∃ z : Int32, z = v_2 + 1 := ⟨_, rfl⟩
    replace hf := bnd_of ex_12 hf
    refine lv_iinc (v := x_12) (lv' := [(4, .int x_12), (3, .int x_11), (0, .ref (a 0)), (1, .int p1), (2, .int p2)]) hx hb dX8_claimOf_22 hl (k := 4) rfl (by rw [ex_12]; rfl) (by decide) rfl (fun ls hl => ?_)
    refine lv_goto (tgt := 5) hx hb dX8_claimOf_25 (by decide) ?_
    have e_13 := Option.some.inj hf
    exact hz1_0_5 _ e_13.symm _ _ _ hw (lv_sub hl [2, 3, 4, 1, 0] rfl)
/-! DutyDeskModel.claim(II)I -/
def rm_X8_claim : Room := { frames := 6, cells := 0, slots := 0, locals := 141 }
def f_X8_claim (S : St) (p1 : Int32) (p2 : Int32) : Option (Int32) :=
  (f_X8_isCall S p1).bind (fun r_2 => (if r_2 = 0 then
    some ((-2))
  else
    (f_X8_in p2 0 (gI S 9)).bind (fun r_6 => (if r_6 = 0 then
    some ((-2))
  else
    gd p1 150 ((if (gM S 21 p1.toNatClampNeg) = 1 then
    (f_X8_claimOf S p1 p2).bind (fun r_12 => some (r_12))
  else
    some ((-1))))))))
set_option maxHeartbeats 4000000 in
set_option maxRecDepth 100000 in
theorem c_X8_claim (G : GP) (l : Launch) (a : Nat → Nat) (R : va_W) (S : St) (p1 : Int32) (p2 : Int32) (r0 : Int32) (hf : f_X8_claim S p1 p2 = some r0) : MC G l yX8_claim wsX8_claim rm_X8_claim [.ref (a 0), .int p1, .int p2] (mw G.2.1 a R S) (mw G.2.1 a R S) (some (.int r0)) 0 0 := by
  refine MC.mk (cc := cX8_claim) (maxL := 3) (ret := (some .int)) (by decide) rfl (Nat.le_of_ble_eq_true rfl) ?_
  intro p e s m below meth c A ls ⟨hx, hb, hr, hml, hown, hlocks, _, hts⟩ hw hG hA hl
  have hl : lv_has ls 3 [(0, .ref (a 0)), (1, .int p1), (2, .int p2)] := hl
  have hin8 : ∀ w ∈ u_ws RX8 TX8 45, w ∈ wsX8_claim := by decide +kernel
  rw [f_X8_claim] at hf
  refine lv_aload_n hx hb dX8_claim_0 rfl (lv_at hl 0 rfl) ?_
  refine lv_iload_n hx hb dX8_claim_1 rfl (lv_at hl 1 rfl) ?_
  obtain ⟨r_2, h_1, hf⟩ := bind_of hf
  refine cV (As := [.int p1]) (rest := []) ⟨hx, hb, hml, hown, hts⟩ hG hA hw (c_X8_isCall G l a R S p1 r_2 h_1) (cwV 1 hts gX8_claim_X8_isCall rfl rfl rfl (by decide +kernel) ⟨Nat.le_of_ble_eq_true rfl, Nat.le_of_ble_eq_true rfl⟩) (va_recv hG.1 hw.1 (ci := 8) (q0 := 0) rfl rfl) rfl hl.1 rfl (Nat.le_of_ble_eq_true rfl) dX8_claim_2 ⟨Nat.zero_le _, Nat.zero_le _⟩ (fun H locs hw => ?_)
  refine lv_if_eq (tgt := 20) hx hb dX8_claim_5 (by decide) (fun c_3 => ?_) (fun c_3 => ?_)
  · replace hf := if_t c_3 hf
    refine lv_bipush (v := (-2)) hx hb dX8_claim_20 (by decide) ?_
    have e_4 := Option.some.inj hf
    subst e_4
    exact wd_iret hx hb hr hlocks hw dX8_claim_22
  · replace hf := if_f c_3 hf
    refine lv_iload_n hx hb dX8_claim_8 rfl (lv_at hl 2 rfl) ?_
    refine lv_iconst (v := 0) hx hb dX8_claim_9 (by decide) ?_
    refine lv_aload_n hx hb dX8_claim_10 rfl (lv_at hl 0 rfl) ?_
    refine va_get (D := G.1) (ci := 8) (v := .int (gI S 9)) (C := RX8) (T := TX8) (N := 45) hx hb hts hin8 hown hG.1 hw.1 0 rfl rfl 12 (by decide) (hts (.fieldLink RX8 180 "DutyDeskModel" "editions" "I") (List.mem_of_getElem? (i := 1) rfl)) (fun _ h9 => h9) rfl dX8_claim_11 ?_
    obtain ⟨r_6, h_5, hf⟩ := bind_of hf
    refine cS (As := [.int p2, .int 0, .int (gI S 9)]) (rest := []) ⟨hx, hb, hml, hown, hts⟩ hG hA hw (c_X8_in G l _ p2 0 (gI S 9) r_6 h_5) (va_cwS 3 hts gX8_claim_X8_in rfl rfl rfl (by decide +kernel) ⟨Nat.le_of_ble_eq_true rfl, Nat.le_of_ble_eq_true rfl⟩) rfl hl.1 rfl (Nat.le_of_ble_eq_true rfl) dX8_claim_14 ⟨Nat.zero_le _, Nat.zero_le _⟩ (fun H locs hw => ?_)
    refine lv_if_ne (tgt := 23) hx hb dX8_claim_17 (by decide) (fun c_7 => ?_) (fun c_7 => ?_)
    · replace hf := if_f c_7 hf
      refine lv_aload_n hx hb dX8_claim_23 rfl (lv_at hl 0 rfl) ?_
      refine va_get (D := G.1) (ci := 8) (v := .ref (a 21)) (C := RX8) (T := TX8) (N := 45) hx hb hts hin8 hown hG.1 hw.1 0 rfl rfl 34 (by decide) (hts (.fieldLink RX8 76 "DutyDeskModel" "cState" "[I") (List.mem_of_getElem? (i := 2) rfl)) (fun _ h9 => h9) rfl dX8_claim_24 ?_
      refine lv_iload_n hx hb dX8_claim_27 rfl (lv_at hl 1 rfl) ?_
      obtain ⟨h_8, hf⟩ := gd_of hf
      refine va_iald hx hb hG.1 hw.1 21 1 (mw_atI (k := 21) rfl) rfl h_8 dX8_claim_28 ?_
      refine lv_iconst (v := 1) hx hb dX8_claim_29 (by decide) ?_
      refine lv_icmp_ne (tgt := 42) hx hb dX8_claim_30 (by decide) (fun c_9 => ?_) (fun c_9 => ?_)
      · replace hf := if_f c_9 hf
        refine lv_iconst (v := (-1)) hx hb dX8_claim_42 (by decide) ?_
        have e_10 := Option.some.inj hf
        subst e_10
        exact wd_iret hx hb hr hlocks hw dX8_claim_43
      · replace hf := if_t c_9 hf
        refine lv_aload_n hx hb dX8_claim_33 rfl (lv_at hl 0 rfl) ?_
        refine lv_iload_n hx hb dX8_claim_34 rfl (lv_at hl 1 rfl) ?_
        refine lv_iload_n hx hb dX8_claim_35 rfl (lv_at hl 2 rfl) ?_
        obtain ⟨r_12, h_11, hf⟩ := bind_of hf
        refine cV (As := [.int p1, .int p2]) (rest := []) ⟨hx, hb, hml, hown, hts⟩ hG hA hw (c_X8_claimOf G l a R S p1 p2 r_12 h_11) (cwV 2 hts gX8_claim_X8_claimOf rfl rfl rfl (by decide +kernel) ⟨Nat.le_of_ble_eq_true rfl, Nat.le_of_ble_eq_true rfl⟩) (va_recv hG.1 hw.1 (ci := 8) (q0 := 0) rfl rfl) rfl hl.1 rfl (Nat.le_of_ble_eq_true rfl) dX8_claim_36 ⟨Nat.zero_le _, Nat.zero_le _⟩ (fun H locs hw => ?_)
        refine lv_goto (tgt := 43) hx hb dX8_claim_39 (by decide) ?_
        have e_13 := Option.some.inj hf
        subst e_13
        exact wd_iret hx hb hr hlocks hw dX8_claim_43
    · replace hf := if_t c_7 hf
      refine lv_bipush (v := (-2)) hx hb dX8_claim_20 (by decide) ?_
      have e_14 := Option.some.inj hf
      subst e_14
      exact wd_iret hx hb hr hlocks hw dX8_claim_22
/-! DutyDeskModel.line(III)I -/
def rm_X8_line : Room := { frames := 5, cells := 0, slots := 0, locals := 117 }
def f_X8_line (S : St) (p1 : Int32) (p2 : Int32) (p3 : Int32) : Option (Int32) :=
  (f_X8_isCall S p1).bind (fun r_2 => (if r_2 = 0 then
    some ((-2))
  else
    (f_X8_in p2 0 (gI S 9)).bind (fun r_6 => (if r_6 = 0 then
    some ((-2))
  else
    gd p1 150 ((if (gM S 21 p1.toNatClampNeg) = 1 then
    (f_X8_in p3 0 4).bind (fun r_12 => (if r_12 = 0 then
    some ((-1))
  else
    (f_X8_lineOf 2 S p1 p2 p3).bind (fun r_16 => some (r_16))))
  else
    some ((-1))))))))
set_option maxHeartbeats 4000000 in
set_option maxRecDepth 100000 in
theorem c_X8_line (G : GP) (l : Launch) (a : Nat → Nat) (R : va_W) (S : St) (p1 : Int32) (p2 : Int32) (p3 : Int32) (r0 : Int32) (hf : f_X8_line S p1 p2 p3 = some r0) : MC G l yX8_line wsX8_line rm_X8_line [.ref (a 0), .int p1, .int p2, .int p3] (mw G.2.1 a R S) (mw G.2.1 a R S) (some (.int r0)) 0 0 := by
  refine MC.mk (cc := cX8_line) (maxL := 4) (ret := (some .int)) (by decide) rfl (Nat.le_of_ble_eq_true rfl) ?_
  intro p e s m below meth c A ls ⟨hx, hb, hr, hml, hown, hlocks, _, hts⟩ hw hG hA hl
  have hl : lv_has ls 4 [(0, .ref (a 0)), (1, .int p1), (2, .int p2), (3, .int p3)] := hl
  have hin8 : ∀ w ∈ u_ws RX8 TX8 45, w ∈ wsX8_line := by decide +kernel
  rw [f_X8_line] at hf
  refine lv_aload_n hx hb dX8_line_0 rfl (lv_at hl 0 rfl) ?_
  refine lv_iload_n hx hb dX8_line_1 rfl (lv_at hl 1 rfl) ?_
  obtain ⟨r_2, h_1, hf⟩ := bind_of hf
  refine cV (As := [.int p1]) (rest := []) ⟨hx, hb, hml, hown, hts⟩ hG hA hw (c_X8_isCall G l a R S p1 r_2 h_1) (cwV 1 hts gX8_line_X8_isCall rfl rfl rfl (by decide +kernel) ⟨Nat.le_of_ble_eq_true rfl, Nat.le_of_ble_eq_true rfl⟩) (va_recv hG.1 hw.1 (ci := 8) (q0 := 0) rfl rfl) rfl hl.1 rfl (Nat.le_of_ble_eq_true rfl) dX8_line_2 ⟨Nat.zero_le _, Nat.zero_le _⟩ (fun H locs hw => ?_)
  refine lv_if_eq (tgt := 20) hx hb dX8_line_5 (by decide) (fun c_3 => ?_) (fun c_3 => ?_)
  · replace hf := if_t c_3 hf
    refine lv_bipush (v := (-2)) hx hb dX8_line_20 (by decide) ?_
    have e_4 := Option.some.inj hf
    subst e_4
    exact wd_iret hx hb hr hlocks hw dX8_line_22
  · replace hf := if_f c_3 hf
    refine lv_iload_n hx hb dX8_line_8 rfl (lv_at hl 2 rfl) ?_
    refine lv_iconst (v := 0) hx hb dX8_line_9 (by decide) ?_
    refine lv_aload_n hx hb dX8_line_10 rfl (lv_at hl 0 rfl) ?_
    refine va_get (D := G.1) (ci := 8) (v := .int (gI S 9)) (C := RX8) (T := TX8) (N := 45) hx hb hts hin8 hown hG.1 hw.1 0 rfl rfl 12 (by decide) (hts (.fieldLink RX8 180 "DutyDeskModel" "editions" "I") (List.mem_of_getElem? (i := 1) rfl)) (fun _ h9 => h9) rfl dX8_line_11 ?_
    obtain ⟨r_6, h_5, hf⟩ := bind_of hf
    refine cS (As := [.int p2, .int 0, .int (gI S 9)]) (rest := []) ⟨hx, hb, hml, hown, hts⟩ hG hA hw (c_X8_in G l _ p2 0 (gI S 9) r_6 h_5) (va_cwS 3 hts gX8_line_X8_in rfl rfl rfl (by decide +kernel) ⟨Nat.le_of_ble_eq_true rfl, Nat.le_of_ble_eq_true rfl⟩) rfl hl.1 rfl (Nat.le_of_ble_eq_true rfl) dX8_line_14 ⟨Nat.zero_le _, Nat.zero_le _⟩ (fun H locs hw => ?_)
    refine lv_if_ne (tgt := 23) hx hb dX8_line_17 (by decide) (fun c_7 => ?_) (fun c_7 => ?_)
    · replace hf := if_f c_7 hf
      refine lv_aload_n hx hb dX8_line_23 rfl (lv_at hl 0 rfl) ?_
      refine va_get (D := G.1) (ci := 8) (v := .ref (a 21)) (C := RX8) (T := TX8) (N := 45) hx hb hts hin8 hown hG.1 hw.1 0 rfl rfl 34 (by decide) (hts (.fieldLink RX8 76 "DutyDeskModel" "cState" "[I") (List.mem_of_getElem? (i := 2) rfl)) (fun _ h9 => h9) rfl dX8_line_24 ?_
      refine lv_iload_n hx hb dX8_line_27 rfl (lv_at hl 1 rfl) ?_
      obtain ⟨h_8, hf⟩ := gd_of hf
      refine va_iald hx hb hG.1 hw.1 21 1 (mw_atI (k := 21) rfl) rfl h_8 dX8_line_28 ?_
      refine lv_iconst (v := 1) hx hb dX8_line_29 (by decide) ?_
      refine lv_icmp_ne (tgt := 52) hx hb dX8_line_30 (by decide) (fun c_9 => ?_) (fun c_9 => ?_)
      · replace hf := if_f c_9 hf
        refine lv_iconst (v := (-1)) hx hb dX8_line_52 (by decide) ?_
        have e_10 := Option.some.inj hf
        subst e_10
        exact wd_iret hx hb hr hlocks hw dX8_line_53
      · replace hf := if_t c_9 hf
        refine lv_iload_n hx hb dX8_line_33 rfl (lv_at hl 3 rfl) ?_
        refine lv_iconst (v := 0) hx hb dX8_line_34 (by decide) ?_
        refine lv_iconst (v := 4) hx hb dX8_line_35 (by decide) ?_
        obtain ⟨r_12, h_11, hf⟩ := bind_of hf
        refine cS (As := [.int p3, .int 0, .int 4]) (rest := []) ⟨hx, hb, hml, hown, hts⟩ hG hA hw (c_X8_in G l _ p3 0 4 r_12 h_11) (va_cwS 3 hts gX8_line_X8_in rfl rfl rfl (by decide +kernel) ⟨Nat.le_of_ble_eq_true rfl, Nat.le_of_ble_eq_true rfl⟩) rfl hl.1 rfl (Nat.le_of_ble_eq_true rfl) dX8_line_36 ⟨Nat.zero_le _, Nat.zero_le _⟩ (fun H locs hw => ?_)
        refine lv_if_eq (tgt := 52) hx hb dX8_line_39 (by decide) (fun c_13 => ?_) (fun c_13 => ?_)
        · replace hf := if_t c_13 hf
          refine lv_iconst (v := (-1)) hx hb dX8_line_52 (by decide) ?_
          have e_14 := Option.some.inj hf
          subst e_14
          exact wd_iret hx hb hr hlocks hw dX8_line_53
        · replace hf := if_f c_13 hf
          refine lv_aload_n hx hb dX8_line_42 rfl (lv_at hl 0 rfl) ?_
          refine lv_iload_n hx hb dX8_line_43 rfl (lv_at hl 1 rfl) ?_
          refine lv_iload_n hx hb dX8_line_44 rfl (lv_at hl 2 rfl) ?_
          refine lv_iload_n hx hb dX8_line_45 rfl (lv_at hl 3 rfl) ?_
          obtain ⟨r_16, h_15, hf⟩ := bind_of hf
          refine cV (As := [.int p1, .int p2, .int p3]) (rest := []) ⟨hx, hb, hml, hown, hts⟩ hG hA hw (c_X8_lineOf G l a R 2 S p1 p2 p3 r_16 h_15) (cwV 3 hts gX8_line_X8_lineOf rfl rfl rfl (by decide +kernel) ⟨Nat.le_of_ble_eq_true rfl, Nat.le_of_ble_eq_true rfl⟩) (va_recv hG.1 hw.1 (ci := 8) (q0 := 0) rfl rfl) rfl hl.1 rfl (Nat.le_of_ble_eq_true rfl) dX8_line_46 ⟨Nat.zero_le _, Nat.zero_le _⟩ (fun H locs hw => ?_)
          refine lv_goto (tgt := 53) hx hb dX8_line_49 (by decide) ?_
          have e_17 := Option.some.inj hf
          subst e_17
          exact wd_iret hx hb hr hlocks hw dX8_line_53
    · replace hf := if_t c_7 hf
      refine lv_bipush (v := (-2)) hx hb dX8_line_20 (by decide) ?_
      have e_18 := Option.some.inj hf
      subst e_18
      exact wd_iret hx hb hr hlocks hw dX8_line_22
/-! DutyDeskModel.pay(I)I -/
def rm_X8_pay : Room := { frames := 6, cells := 0, slots := 0, locals := 141 }
def f_X8_pay (S : St) (p1 : Int32) : Option (Int32 × St) :=
  (f_X8_isCall S p1).bind (fun r_2 => (if r_2 = 0 then
    some (((-2), S))
  else
    gd p1 150 ((if (gM S 21 p1.toNatClampNeg) = 1 then
    (f_X8_claimOf S p1 (gI S 9)).bind (fun r_7 => gd p1 150 (bnd (r_7 - (gM S 28 p1.toNatClampNeg)) fun x_9 => gd p1 150 (gd p1 150 (bnd (sM S 28 (p1.toNatClampNeg) ((gM S 28 p1.toNatClampNeg) + x_9)) fun S_12 => some ((x_9, S_12))))))
  else
    some (((-4), S))))))
set_option maxHeartbeats 4000000 in
set_option maxRecDepth 100000 in
theorem c_X8_pay (G : GP) (l : Launch) (a : Nat → Nat) (R : va_W) (S : St) (p1 : Int32) (r0 : Int32) (S9 : St) (hf : f_X8_pay S p1 = some (r0, S9)) : MC G l yX8_pay wsX8_pay rm_X8_pay [.ref (a 0), .int p1] (mw G.2.1 a R S) (mw G.2.1 a R S9) (some (.int r0)) 0 0 := by
  refine MC.mk (cc := cX8_pay) (maxL := 3) (ret := (some .int)) (by decide) rfl (Nat.le_of_ble_eq_true rfl) ?_
  intro p e s m below meth c A ls ⟨hx, hb, hr, hml, hown, hlocks, _, hts⟩ hw hG hA hl
  have hl : lv_has ls 3 [(0, .ref (a 0)), (1, .int p1)] := hl
  have hin8 : ∀ w ∈ u_ws RX8 TX8 45, w ∈ wsX8_pay := by decide +kernel
  rw [f_X8_pay] at hf
  refine lv_aload_n hx hb dX8_pay_0 rfl (lv_at hl 0 rfl) ?_
  refine lv_iload_n hx hb dX8_pay_1 rfl (lv_at hl 1 rfl) ?_
  obtain ⟨r_2, h_1, hf⟩ := bind_of hf
  refine cV (As := [.int p1]) (rest := []) ⟨hx, hb, hml, hown, hts⟩ hG hA hw (c_X8_isCall G l a R S p1 r_2 h_1) (cwV 1 hts gX8_pay_X8_isCall rfl rfl rfl (by decide +kernel) ⟨Nat.le_of_ble_eq_true rfl, Nat.le_of_ble_eq_true rfl⟩) (va_recv hG.1 hw.1 (ci := 8) (q0 := 0) rfl rfl) rfl hl.1 rfl (Nat.le_of_ble_eq_true rfl) dX8_pay_2 ⟨Nat.zero_le _, Nat.zero_le _⟩ (fun H locs hw => ?_)
  refine lv_if_ne (tgt := 11) hx hb dX8_pay_5 (by decide) (fun c_3 => ?_) (fun c_3 => ?_)
  · replace hf := if_f c_3 hf
    refine lv_aload_n hx hb dX8_pay_11 rfl (lv_at hl 0 rfl) ?_
    refine va_get (D := G.1) (ci := 8) (v := .ref (a 21)) (C := RX8) (T := TX8) (N := 45) hx hb hts hin8 hown hG.1 hw.1 0 rfl rfl 34 (by decide) (hts (.fieldLink RX8 76 "DutyDeskModel" "cState" "[I") (List.mem_of_getElem? (i := 1) rfl)) (fun _ h9 => h9) rfl dX8_pay_12 ?_
    refine lv_iload_n hx hb dX8_pay_15 rfl (lv_at hl 1 rfl) ?_
    obtain ⟨h_4, hf⟩ := gd_of hf
    refine va_iald hx hb hG.1 hw.1 21 1 (mw_atI (k := 21) rfl) rfl h_4 dX8_pay_16 ?_
    refine lv_iconst (v := 1) hx hb dX8_pay_17 (by decide) ?_
    refine lv_icmp_eq (tgt := 24) hx hb dX8_pay_18 (by decide) (fun c_5 => ?_) (fun c_5 => ?_)
    · replace hf := if_t c_5 hf
      refine lv_aload_n hx hb dX8_pay_24 rfl (lv_at hl 0 rfl) ?_
      refine lv_iload_n hx hb dX8_pay_25 rfl (lv_at hl 1 rfl) ?_
      refine lv_aload_n hx hb dX8_pay_26 rfl (lv_at hl 0 rfl) ?_
      refine va_get (D := G.1) (ci := 8) (v := .int (gI S 9)) (C := RX8) (T := TX8) (N := 45) hx hb hts hin8 hown hG.1 hw.1 0 rfl rfl 12 (by decide) (hts (.fieldLink RX8 180 "DutyDeskModel" "editions" "I") (List.mem_of_getElem? (i := 2) rfl)) (fun _ h9 => h9) rfl dX8_pay_27 ?_
      obtain ⟨r_7, h_6, hf⟩ := bind_of hf
      refine cV (As := [.int p1, .int (gI S 9)]) (rest := []) ⟨hx, hb, hml, hown, hts⟩ hG hA hw (c_X8_claimOf G l a R S p1 (gI S 9) r_7 h_6) (cwV 2 hts gX8_pay_X8_claimOf rfl rfl rfl (by decide +kernel) ⟨Nat.le_of_ble_eq_true rfl, Nat.le_of_ble_eq_true rfl⟩) (va_recv hG.1 hw.1 (ci := 8) (q0 := 0) rfl rfl) rfl hl.1 rfl (Nat.le_of_ble_eq_true rfl) dX8_pay_30 ⟨Nat.zero_le _, Nat.zero_le _⟩ (fun H locs hw => ?_)
      refine lv_aload_n hx hb dX8_pay_33 rfl (lv_at hl 0 rfl) ?_
      refine va_get (D := G.1) (ci := 8) (v := .ref (a 28)) (C := RX8) (T := TX8) (N := 45) hx hb hts hin8 hown hG.1 hw.1 0 rfl rfl 41 (by decide) (hts (.fieldLink RX8 97 "DutyDeskModel" "cPaid" "[I") (List.mem_of_getElem? (i := 3) rfl)) (fun _ h9 => h9) rfl dX8_pay_34 ?_
      refine lv_iload_n hx hb dX8_pay_37 rfl (lv_at hl 1 rfl) ?_
      obtain ⟨h_8, hf⟩ := gd_of hf
      refine va_iald hx hb hG.1 hw.1 28 1 (mw_atI (k := 28) rfl) rfl h_8 dX8_pay_38 ?_
      refine lv_isub hx hb dX8_pay_39 ?_
      refine lv_topi (fun x_9 ex_9 => ?_)
      replace hf := bnd_of ex_9 hf
      refine lv_istore_n (lv' := [(2, .int x_9), (0, .ref (a 0)), (1, .int p1)]) hx hb dX8_pay_40 rfl hl (by decide) rfl (fun ls hl => ?_)
      refine lv_aload_n hx hb dX8_pay_41 rfl (lv_at hl 1 rfl) ?_
      refine va_get (D := G.1) (ci := 8) (v := .ref (a 28)) (C := RX8) (T := TX8) (N := 45) hx hb hts hin8 hown hG.1 hw.1 0 rfl rfl 41 (by decide) (hts (.fieldLink RX8 97 "DutyDeskModel" "cPaid" "[I") (List.mem_of_getElem? (i := 3) rfl)) (fun _ h9 => h9) rfl dX8_pay_42 ?_
      refine lv_iload_n hx hb dX8_pay_45 rfl (lv_at hl 2 rfl) ?_
      refine lv_dup2_11 hx hb dX8_pay_46 rfl rfl ?_
      obtain ⟨h_10, hf⟩ := gd_of hf
      refine va_iald hx hb hG.1 hw.1 28 1 (mw_atI (k := 28) rfl) rfl h_10 dX8_pay_47 ?_
      refine lv_iload_n hx hb dX8_pay_48 rfl (lv_at hl 0 rfl) ?_
      refine lv_iadd hx hb dX8_pay_49 ?_
      obtain ⟨h_11, hf⟩ := gd_of hf
      refine va_iast hx hb hG.1 hw.1 hw.2.1 hw.2.2 28 1 (mw_atI (k := 28) rfl) rfl h_11 dX8_pay_50 (fun H locs hP hD hS => ?_)
      obtain ⟨S_12, eS_12⟩ : ∃ z : St, z = sM S 28 (p1.toNatClampNeg) ((gM S 28 p1.toNatClampNeg) + x_9) := ⟨_, rfl⟩
      replace hf := bnd_of eS_12 hf
      have hw : Wd G A s H locs (mw G.2.1 a R S_12) := wd_eq (by rw [eS_12]; exact mw_upI (k := 28) rfl _) hP hD hS
      refine lv_iload_n hx hb dX8_pay_51 rfl (lv_at hl 0 rfl) ?_
      have e_13 := Option.some.inj hf
      obtain ⟨rfl, rfl⟩ := Prod.mk.inj e_13
      exact wd_iret hx hb hr hlocks hw dX8_pay_52
    · replace hf := if_f c_5 hf
      refine lv_bipush (v := (-4)) hx hb dX8_pay_21 (by decide) ?_
      have e_14 := Option.some.inj hf
      obtain ⟨rfl, rfl⟩ := Prod.mk.inj e_14
      exact wd_iret hx hb hr hlocks hw dX8_pay_23
  · replace hf := if_t c_3 hf
    refine lv_bipush (v := (-2)) hx hb dX8_pay_8 (by decide) ?_
    have e_15 := Option.some.inj hf
    obtain ⟨rfl, rfl⟩ := Prod.mk.inj e_15
    exact wd_iret hx hb hr hlocks hw dX8_pay_10
/-! DutyDeskModel.paid(I)I -/
def rm_X8_paid : Room := { frames := 2, cells := 0, slots := 0, locals := 43 }
def f_X8_paid_L15 (S : St) (p1 : Int32) : (Int32 × Int32) → Option ((Int32 × Int32) ⊕ (Int32))
  | (v_4, v_5) =>
  (if (gI S 13) ≤ v_5 then
    some (.inr (v_4))
  else
    gd v_5 150 ((if (gM S 24 v_5.toNatClampNeg) = p1 then
    gd v_5 150 (bnd (v_4 + (gM S 28 v_5.toNatClampNeg)) fun x_15 => bnd (v_5 + 1) fun x_16 => some (.inl (x_15, x_16)))
  else
    bnd (v_4 + 0) fun x_11 => bnd (v_5 + 1) fun x_12 => some (.inl (x_11, x_12)))))
def f_X8_paid (S : St) (p1 : Int32) : Option (Int32) :=
  (f_X8_isLawyer S p1).bind (fun r_2 => (if r_2 = 0 then
    some ((-2))
  else
    loopF (f_X8_paid_L15 S p1) FU (0, 0)))
set_option maxHeartbeats 4000000 in
set_option maxRecDepth 100000 in
theorem c_X8_paid (G : GP) (l : Launch) (a : Nat → Nat) (R : va_W) (S : St) (p1 : Int32) (r0 : Int32) (hf : f_X8_paid S p1 = some r0) : MC G l yX8_paid wsX8_paid rm_X8_paid [.ref (a 0), .int p1] (mw G.2.1 a R S) (mw G.2.1 a R S) (some (.int r0)) 0 0 := by
  refine MC.mk (cc := cX8_paid) (maxL := 4) (ret := (some .int)) (by decide) rfl (Nat.le_of_ble_eq_true rfl) ?_
  intro p e s m below meth c A ls ⟨hx, hb, hr, hml, hown, hlocks, _, hts⟩ hw hG hA hl
  have hl : lv_has ls 4 [(0, .ref (a 0)), (1, .int p1)] := hl
  have hin8 : ∀ w ∈ u_ws RX8 TX8 45, w ∈ wsX8_paid := by decide +kernel
  rw [f_X8_paid] at hf
  refine lv_aload_n hx hb dX8_paid_0 rfl (lv_at hl 0 rfl) ?_
  refine lv_iload_n hx hb dX8_paid_1 rfl (lv_at hl 1 rfl) ?_
  obtain ⟨r_2, h_1, hf⟩ := bind_of hf
  refine cV (As := [.int p1]) (rest := []) ⟨hx, hb, hml, hown, hts⟩ hG hA hw (c_X8_isLawyer G l a R S p1 r_2 h_1) (cwV 1 hts gX8_paid_X8_isLawyer rfl rfl rfl (by decide +kernel) ⟨Nat.le_of_ble_eq_true rfl, Nat.le_of_ble_eq_true rfl⟩) (va_recv hG.1 hw.1 (ci := 8) (q0 := 0) rfl rfl) rfl hl.1 rfl (Nat.le_of_ble_eq_true rfl) dX8_paid_2 ⟨Nat.zero_le _, Nat.zero_le _⟩ (fun H locs hw => ?_)
  refine lv_if_ne (tgt := 11) hx hb dX8_paid_5 (by decide) (fun c_3 => ?_) (fun c_3 => ?_)
  · replace hf := if_f c_3 hf
    refine lv_iconst (v := 0) hx hb dX8_paid_11 (by decide) ?_
    refine lv_istore_n (lv' := [(2, .int 0), (0, .ref (a 0)), (1, .int p1)]) hx hb dX8_paid_12 rfl hl (by decide) rfl (fun ls hl => ?_)
    refine lv_iconst (v := 0) hx hb dX8_paid_13 (by decide) ?_
    refine lv_istore_n (lv' := [(3, .int 0), (2, .int 0), (0, .ref (a 0)), (1, .int p1)]) hx hb dX8_paid_14 rfl hl (by decide) rfl (fun ls hl => ?_)
    refine loopF_ind (body := f_X8_paid_L15 S p1) (fun (q : Int32 × Int32) => match q with | (v_4, v_5) => ∀ (H : Heap) (locs : List Loc) (ls : Array Slot), Wd G A s H locs (mw G.2.1 a R S) → lv_has ls 4 [(0, .ref (a 0)), (1, .int p1), (2, .int v_4), (3, .int v_5)] → WQ p l e rm_X8_paid s m [.ref (a 0), .int p1] below meth c G A (mw G.2.1 a R S) (some (.int r0)) 0 0 H locs 0 0 (F0 m 15 ls [])) ?_ FU (0, 0) hf _ _ _ hw (lv_sub hl [2, 3, 1, 0] rfl)
    clear hf hw hl
    intro ⟨v_4, v_5⟩ t0_15 hf hz1_0_15 hz2_0_15 H locs ls hw hl
    rw [f_X8_paid_L15] at hf
    refine lv_iload_n hx hb dX8_paid_15 rfl (lv_at hl 3 rfl) ?_
    refine lv_aload_n hx hb dX8_paid_16 rfl (lv_at hl 0 rfl) ?_
    refine va_get (D := G.1) (ci := 8) (v := .int (gI S 13)) (C := RX8) (T := TX8) (N := 45) hx hb hts hin8 hown hG.1 hw.1 0 rfl rfl 27 (by decide) (hts (.fieldLink RX8 231 "DutyDeskModel" "calls" "I") (List.mem_of_getElem? (i := 1) rfl)) (fun _ h9 => h9) rfl dX8_paid_17 ?_
    refine lv_icmp_ge (tgt := 52) hx hb dX8_paid_20 (by decide) (fun c_6 => ?_) (fun c_6 => ?_)
    · replace hf := if_t c_6 hf
      refine lv_iload_n hx hb dX8_paid_52 rfl (lv_at hl 2 rfl) ?_
      have e_7 := Option.some.inj hf
      have e_8 := hz2_0_15 _ e_7.symm
      subst e_8
      exact wd_iret hx hb hr hlocks hw dX8_paid_53
    · replace hf := if_f c_6 hf
      refine lv_iload_n hx hb dX8_paid_23 rfl (lv_at hl 2 rfl) ?_
      refine lv_aload_n hx hb dX8_paid_24 rfl (lv_at hl 0 rfl) ?_
      refine va_get (D := G.1) (ci := 8) (v := .ref (a 24)) (C := RX8) (T := TX8) (N := 45) hx hb hts hin8 hown hG.1 hw.1 0 rfl rfl 37 (by decide) (hts (.fieldLink RX8 85 "DutyDeskModel" "cTaker" "[I") (List.mem_of_getElem? (i := 2) rfl)) (fun _ h9 => h9) rfl dX8_paid_25 ?_
      refine lv_iload_n hx hb dX8_paid_28 rfl (lv_at hl 3 rfl) ?_
      obtain ⟨h_9, hf⟩ := gd_of hf
      refine va_iald hx hb hG.1 hw.1 24 1 (mw_atI (k := 24) rfl) rfl h_9 dX8_paid_29 ?_
      refine lv_iload_n hx hb dX8_paid_30 rfl (lv_at hl 1 rfl) ?_
      refine lv_icmp_ne (tgt := 43) hx hb dX8_paid_31 (by decide) (fun c_10 => ?_) (fun c_10 => ?_)
      · replace hf := if_f c_10 hf
        refine lv_iconst (v := 0) hx hb dX8_paid_43 (by decide) ?_
        refine lv_iadd hx hb dX8_paid_44 ?_
        refine lv_topi (fun x_11 ex_11 => ?_)
        replace hf := bnd_of ex_11 hf
        refine lv_istore_n (lv' := [(2, .int x_11), (0, .ref (a 0)), (1, .int p1), (3, .int v_5)]) hx hb dX8_paid_45 rfl hl (by decide) rfl (fun ls hl => ?_)
        obtain ⟨x_12, ex_12⟩ : ∃ z : Int32, z = v_5 + 1 := ⟨_, rfl⟩
        replace hf := bnd_of ex_12 hf
        refine lv_iinc (v := x_12) (lv' := [(3, .int x_12), (2, .int x_11), (0, .ref (a 0)), (1, .int p1)]) hx hb dX8_paid_46 hl (k := 3) rfl (by rw [ex_12]; rfl) (by decide) rfl (fun ls hl => ?_)
        refine lv_goto (tgt := 15) hx hb dX8_paid_49 (by decide) ?_
        have e_13 := Option.some.inj hf
        exact hz1_0_15 _ e_13.symm _ _ _ hw (lv_sub hl [2, 3, 1, 0] rfl)
      · replace hf := if_t c_10 hf
        refine lv_aload_n hx hb dX8_paid_34 rfl (lv_at hl 0 rfl) ?_
        refine va_get (D := G.1) (ci := 8) (v := .ref (a 28)) (C := RX8) (T := TX8) (N := 45) hx hb hts hin8 hown hG.1 hw.1 0 rfl rfl 41 (by decide) (hts (.fieldLink RX8 97 "DutyDeskModel" "cPaid" "[I") (List.mem_of_getElem? (i := 3) rfl)) (fun _ h9 => h9) rfl dX8_paid_35 ?_
        refine lv_iload_n hx hb dX8_paid_38 rfl (lv_at hl 3 rfl) ?_
        obtain ⟨h_14, hf⟩ := gd_of hf
        refine va_iald hx hb hG.1 hw.1 28 1 (mw_atI (k := 28) rfl) rfl h_14 dX8_paid_39 ?_
        refine lv_goto (tgt := 44) hx hb dX8_paid_40 (by decide) ?_
        refine lv_iadd hx hb dX8_paid_44 ?_
        refine lv_topi (fun x_15 ex_15 => ?_)
        replace hf := bnd_of ex_15 hf
        refine lv_istore_n (lv' := [(2, .int x_15), (0, .ref (a 0)), (1, .int p1), (3, .int v_5)]) hx hb dX8_paid_45 rfl hl (by decide) rfl (fun ls hl => ?_)
        obtain ⟨x_16, ex_16⟩ : ∃ z : Int32, z = v_5 + 1 := ⟨_, rfl⟩
        replace hf := bnd_of ex_16 hf
        refine lv_iinc (v := x_16) (lv' := [(3, .int x_16), (2, .int x_15), (0, .ref (a 0)), (1, .int p1)]) hx hb dX8_paid_46 hl (k := 3) rfl (by rw [ex_16]; rfl) (by decide) rfl (fun ls hl => ?_)
        refine lv_goto (tgt := 15) hx hb dX8_paid_49 (by decide) ?_
        have e_17 := Option.some.inj hf
        exact hz1_0_15 _ e_17.symm _ _ _ hw (lv_sub hl [2, 3, 1, 0] rfl)
  · replace hf := if_t c_3 hf
    refine lv_bipush (v := (-2)) hx hb dX8_paid_8 (by decide) ?_
    have e_18 := Option.some.inj hf
    subst e_18
    exact wd_iret hx hb hr hlocks hw dX8_paid_10
/-! DutyDeskModel.count(I)I -/
def rm_X8_count : Room := { frames := 0, cells := 0, slots := 0, locals := 0 }
def f_X8_count_L105 (S : St) (y_1 : Int32) : (Int32 × Int32) → Option ((Int32 × Int32) ⊕ (Int32))
  | (v_3, v_4) =>
  (if (gI S 13) ≤ v_4 then
    some (.inr (v_3))
  else
    gd v_4 150 ((if (gM S 21 v_4.toNatClampNeg) = (y_1 - 5) then
    bnd (v_3 + 1) fun x_13 => bnd (v_4 + 1) fun x_14 => some (.inl (x_13, x_14))
  else
    bnd (v_3 + 0) fun x_10 => bnd (v_4 + 1) fun x_11 => some (.inl (x_10, x_11)))))
def f_X8_count_J103 (S : St) (y_1 : Int32) (y_2 : Int32) : Option (Int32) :=
  loopF (f_X8_count_L105 S y_1) FU (y_2, 0)
def f_X8_count_L65 (S : St) : (Int32 × Int32) → Option ((Int32 × Int32) ⊕ (Int32))
  | (v_23, v_24) =>
  (if 6000 ≤ v_24 then
    some (.inr (v_23))
  else
    gd v_24 6000 ((if (gM S 11 v_24.toNatClampNeg) = (-1) then
    bnd (v_23 + 0) fun x_30 => bnd (v_24 + 1) fun x_31 => some (.inl (x_30, x_31))
  else
    bnd (v_23 + 1) fun x_33 => bnd (v_24 + 1) fun x_34 => some (.inl (x_33, x_34)))))
def f_X8_count (S : St) (p1 : Int32) : Option (Int32) :=
  (if p1 = 0 then
    some ((gI S 10))
  else
    (if p1 = 1 then
    some ((gI S 9))
  else
    (if p1 = 2 then
    some ((gI S 13))
  else
    (if p1 = 3 then
    loopF (f_X8_count_L65 S) FU (0, 0)
  else
    (if p1 = 4 then
    some ((gI S 0))
  else
    (if p1 = 5 then
    f_X8_count_J103 S p1 0
  else
    (if p1 = 6 then
    f_X8_count_J103 S p1 0
  else
    (if p1 = 7 then
    f_X8_count_J103 S p1 0
  else
    some ((-1))))))))))
set_option maxHeartbeats 4000000 in
set_option maxRecDepth 100000 in
theorem c_X8_count (G : GP) (l : Launch) (a : Nat → Nat) (R : va_W) (S : St) (p1 : Int32) (r0 : Int32) (hf : f_X8_count S p1 = some r0) : MC G l yX8_count wsX8_count rm_X8_count [.ref (a 0), .int p1] (mw G.2.1 a R S) (mw G.2.1 a R S) (some (.int r0)) 0 0 := by
  refine MC.mk (cc := cX8_count) (maxL := 4) (ret := (some .int)) (by decide) rfl (Nat.le_of_ble_eq_true rfl) ?_
  intro p e s m below meth c A ls ⟨hx, hb, hr, hml, hown, hlocks, _, hts⟩ hw hG hA hl
  have hl : lv_has ls 4 [(0, .ref (a 0)), (1, .int p1)] := hl
  have hin8 : ∀ w ∈ u_ws RX8 TX8 45, w ∈ wsX8_count := by decide +kernel
  rw [f_X8_count] at hf
  have j103 : ∀ (y_1 : Int32) (y_2 : Int32) (H : Heap) (locs : List Loc) (ls : Array Slot), f_X8_count_J103 S y_1 y_2 = some r0 → Wd G A s H locs (mw G.2.1 a R S) → lv_has ls 4 [(0, .ref (a 0)), (1, .int y_1), (2, .int y_2)] → WQ p l e rm_X8_count s m [.ref (a 0), .int p1] below meth c G A (mw G.2.1 a R S) (some (.int r0)) 0 0 H locs 0 0 (F0 m 103 ls []) := by
    intro y_1 y_2 H locs ls hf hw hl
    rw [f_X8_count_J103] at hf
    refine lv_iconst (v := 0) hx hb dX8_count_103 (by decide) ?_
    refine lv_istore_n (lv' := [(3, .int 0), (0, .ref (a 0)), (1, .int y_1), (2, .int y_2)]) hx hb dX8_count_104 rfl hl (by decide) rfl (fun ls hl => ?_)
    refine loopF_ind (body := f_X8_count_L105 S y_1) (fun (q : Int32 × Int32) => match q with | (v_3, v_4) => ∀ (H : Heap) (locs : List Loc) (ls : Array Slot), Wd G A s H locs (mw G.2.1 a R S) → lv_has ls 4 [(0, .ref (a 0)), (1, .int y_1), (2, .int v_3), (3, .int v_4)] → WQ p l e rm_X8_count s m [.ref (a 0), .int p1] below meth c G A (mw G.2.1 a R S) (some (.int r0)) 0 0 H locs 0 0 (F0 m 105 ls [])) ?_ FU (y_2, 0) hf _ _ _ hw (lv_sub hl [1, 2, 3, 0] rfl)
    clear hf hw hl
    intro ⟨v_3, v_4⟩ t0_105 hf hz1_0_105 hz2_0_105 H locs ls hw hl
    rw [f_X8_count_L105] at hf
    refine lv_iload_n hx hb dX8_count_105 rfl (lv_at hl 3 rfl) ?_
    refine lv_aload_n hx hb dX8_count_106 rfl (lv_at hl 0 rfl) ?_
    refine va_get (D := G.1) (ci := 8) (v := .int (gI S 13)) (C := RX8) (T := TX8) (N := 45) hx hb hts hin8 hown hG.1 hw.1 0 rfl rfl 27 (by decide) (hts (.fieldLink RX8 231 "DutyDeskModel" "calls" "I") (List.mem_of_getElem? (i := 3) rfl)) (fun _ h9 => h9) rfl dX8_count_107 ?_
    refine lv_icmp_ge (tgt := 139) hx hb dX8_count_110 (by decide) (fun c_5 => ?_) (fun c_5 => ?_)
    · replace hf := if_t c_5 hf
      refine lv_iload_n hx hb dX8_count_139 rfl (lv_at hl 2 rfl) ?_
      have e_6 := Option.some.inj hf
      have e_7 := hz2_0_105 _ e_6.symm
      subst e_7
      exact wd_iret hx hb hr hlocks hw dX8_count_140
    · replace hf := if_f c_5 hf
      refine lv_iload_n hx hb dX8_count_113 rfl (lv_at hl 2 rfl) ?_
      refine lv_aload_n hx hb dX8_count_114 rfl (lv_at hl 0 rfl) ?_
      refine va_get (D := G.1) (ci := 8) (v := .ref (a 21)) (C := RX8) (T := TX8) (N := 45) hx hb hts hin8 hown hG.1 hw.1 0 rfl rfl 34 (by decide) (hts (.fieldLink RX8 76 "DutyDeskModel" "cState" "[I") (List.mem_of_getElem? (i := 6) rfl)) (fun _ h9 => h9) rfl dX8_count_115 ?_
      refine lv_iload_n hx hb dX8_count_118 rfl (lv_at hl 3 rfl) ?_
      obtain ⟨h_8, hf⟩ := gd_of hf
      refine va_iald hx hb hG.1 hw.1 21 1 (mw_atI (k := 21) rfl) rfl h_8 dX8_count_119 ?_
      refine lv_iload_n hx hb dX8_count_120 rfl (lv_at hl 1 rfl) ?_
      refine lv_iconst (v := 5) hx hb dX8_count_121 (by decide) ?_
      refine lv_isub hx hb dX8_count_122 ?_
      refine lv_icmp_ne (tgt := 130) hx hb dX8_count_123 (by decide) (fun c_9 => ?_) (fun c_9 => ?_)
      · replace hf := if_f c_9 hf
        refine lv_iconst (v := 0) hx hb dX8_count_130 (by decide) ?_
        refine lv_iadd hx hb dX8_count_131 ?_
        refine lv_topi (fun x_10 ex_10 => ?_)
        replace hf := bnd_of ex_10 hf
        refine lv_istore_n (lv' := [(2, .int x_10), (0, .ref (a 0)), (1, .int y_1), (3, .int v_4)]) hx hb dX8_count_132 rfl hl (by decide) rfl (fun ls hl => ?_)
        obtain ⟨x_11, ex_11⟩ : ∃ z : Int32, z = v_4 + 1 := ⟨_, rfl⟩
        replace hf := bnd_of ex_11 hf
        refine lv_iinc (v := x_11) (lv' := [(3, .int x_11), (2, .int x_10), (0, .ref (a 0)), (1, .int y_1)]) hx hb dX8_count_133 hl (k := 3) rfl (by rw [ex_11]; rfl) (by decide) rfl (fun ls hl => ?_)
        refine lv_goto (tgt := 105) hx hb dX8_count_136 (by decide) ?_
        have e_12 := Option.some.inj hf
        exact hz1_0_105 _ e_12.symm _ _ _ hw (lv_sub hl [2, 3, 1, 0] rfl)
      · replace hf := if_t c_9 hf
        refine lv_iconst (v := 1) hx hb dX8_count_126 (by decide) ?_
        refine lv_goto (tgt := 131) hx hb dX8_count_127 (by decide) ?_
        refine lv_iadd hx hb dX8_count_131 ?_
        refine lv_topi (fun x_13 ex_13 => ?_)
        replace hf := bnd_of ex_13 hf
        refine lv_istore_n (lv' := [(2, .int x_13), (0, .ref (a 0)), (1, .int y_1), (3, .int v_4)]) hx hb dX8_count_132 rfl hl (by decide) rfl (fun ls hl => ?_)
        obtain ⟨x_14, ex_14⟩ : ∃ z : Int32, z = v_4 + 1 := ⟨_, rfl⟩
        replace hf := bnd_of ex_14 hf
        refine lv_iinc (v := x_14) (lv' := [(3, .int x_14), (2, .int x_13), (0, .ref (a 0)), (1, .int y_1)]) hx hb dX8_count_133 hl (k := 3) rfl (by rw [ex_14]; rfl) (by decide) rfl (fun ls hl => ?_)
        refine lv_goto (tgt := 105) hx hb dX8_count_136 (by decide) ?_
        have e_15 := Option.some.inj hf
        exact hz1_0_105 _ e_15.symm _ _ _ hw (lv_sub hl [2, 3, 1, 0] rfl)
  refine lv_iconst (v := 0) hx hb dX8_count_0 (by decide) ?_
  refine lv_istore_n (lv' := [(2, .int 0), (0, .ref (a 0)), (1, .int p1)]) hx hb dX8_count_1 rfl hl (by decide) rfl (fun ls hl => ?_)
  refine lv_iload_n hx hb dX8_count_2 rfl (lv_at hl 2 rfl) ?_
  by_cases c_16 : p1 = 0
  · replace hf := if_t c_16 hf
    refine lv_tableIn (off := 45) (tgt := 48) hx hb dX8_count_3 (by rw [c_16]; decide) (by rw [c_16]; decide) (by rw [c_16]; rfl) (by decide) ?_
    refine lv_aload_n hx hb dX8_count_48 rfl (lv_at hl 1 rfl) ?_
    refine va_get (D := G.1) (ci := 8) (v := .int (gI S 10)) (C := RX8) (T := TX8) (N := 45) hx hb hts hin8 hown hG.1 hw.1 0 rfl rfl 14 (by decide) (hts (.fieldLink RX8 189 "DutyDeskModel" "lawyers" "I") (List.mem_of_getElem? (i := 1) rfl)) (fun _ h9 => h9) rfl dX8_count_49 ?_
    have e_17 := Option.some.inj hf
    subst e_17
    exact wd_iret hx hb hr hlocks hw dX8_count_52
  · replace hf := if_f c_16 hf
    by_cases c_18 : p1 = 1
    · replace hf := if_t c_18 hf
      refine lv_tableIn (off := 50) (tgt := 53) hx hb dX8_count_3 (by rw [c_18]; decide) (by rw [c_18]; decide) (by rw [c_18]; rfl) (by decide) ?_
      refine lv_aload_n hx hb dX8_count_53 rfl (lv_at hl 1 rfl) ?_
      refine va_get (D := G.1) (ci := 8) (v := .int (gI S 9)) (C := RX8) (T := TX8) (N := 45) hx hb hts hin8 hown hG.1 hw.1 0 rfl rfl 12 (by decide) (hts (.fieldLink RX8 180 "DutyDeskModel" "editions" "I") (List.mem_of_getElem? (i := 2) rfl)) (fun _ h9 => h9) rfl dX8_count_54 ?_
      have e_19 := Option.some.inj hf
      subst e_19
      exact wd_iret hx hb hr hlocks hw dX8_count_57
    · replace hf := if_f c_18 hf
      by_cases c_20 : p1 = 2
      · replace hf := if_t c_20 hf
        refine lv_tableIn (off := 55) (tgt := 58) hx hb dX8_count_3 (by rw [c_20]; decide) (by rw [c_20]; decide) (by rw [c_20]; rfl) (by decide) ?_
        refine lv_aload_n hx hb dX8_count_58 rfl (lv_at hl 1 rfl) ?_
        refine va_get (D := G.1) (ci := 8) (v := .int (gI S 13)) (C := RX8) (T := TX8) (N := 45) hx hb hts hin8 hown hG.1 hw.1 0 rfl rfl 27 (by decide) (hts (.fieldLink RX8 231 "DutyDeskModel" "calls" "I") (List.mem_of_getElem? (i := 3) rfl)) (fun _ h9 => h9) rfl dX8_count_59 ?_
        have e_21 := Option.some.inj hf
        subst e_21
        exact wd_iret hx hb hr hlocks hw dX8_count_62
      · replace hf := if_f c_20 hf
        by_cases c_22 : p1 = 3
        · replace hf := if_t c_22 hf
          refine lv_tableIn (off := 60) (tgt := 63) hx hb dX8_count_3 (by rw [c_22]; decide) (by rw [c_22]; decide) (by rw [c_22]; rfl) (by decide) ?_
          refine lv_iconst (v := 0) hx hb dX8_count_63 (by decide) ?_
          refine lv_istore_n (lv' := [(3, .int 0), (2, .int 0), (0, .ref (a 0)), (1, .int p1)]) hx hb dX8_count_64 rfl hl (by decide) rfl (fun ls hl => ?_)
          refine loopF_ind (body := f_X8_count_L65 S) (fun (q : Int32 × Int32) => match q with | (v_23, v_24) => ∀ (H : Heap) (locs : List Loc) (ls : Array Slot), Wd G A s H locs (mw G.2.1 a R S) → lv_has ls 4 [(0, .ref (a 0)), (2, .int v_23), (3, .int v_24)] → WQ p l e rm_X8_count s m [.ref (a 0), .int p1] below meth c G A (mw G.2.1 a R S) (some (.int r0)) 0 0 H locs 0 0 (F0 m 65 ls [])) ?_ FU (0, 0) hf _ _ _ hw (lv_sub hl [2, 1, 0] rfl)
          clear hf hw hl
          intro ⟨v_23, v_24⟩ t0_65 hf hz1_0_65 hz2_0_65 H locs ls hw hl
          rw [f_X8_count_L65] at hf
          refine lv_iload_n hx hb dX8_count_65 rfl (lv_at hl 2 rfl) ?_
          refine lv_sipush (v := 6000) hx hb dX8_count_66 (by decide) ?_
          refine lv_icmp_ge (tgt := 96) hx hb dX8_count_69 (by decide) (fun c_25 => ?_) (fun c_25 => ?_)
          · replace hf := if_t c_25 hf
            refine lv_iload_n hx hb dX8_count_96 rfl (lv_at hl 1 rfl) ?_
            have e_26 := Option.some.inj hf
            have e_27 := hz2_0_65 _ e_26.symm
            subst e_27
            exact wd_iret hx hb hr hlocks hw dX8_count_97
          · replace hf := if_f c_25 hf
            refine lv_iload_n hx hb dX8_count_72 rfl (lv_at hl 1 rfl) ?_
            refine lv_aload_n hx hb dX8_count_73 rfl (lv_at hl 0 rfl) ?_
            refine va_get (D := G.1) (ci := 8) (v := .ref (a 11)) (C := RX8) (T := TX8) (N := 45) hx hb hts hin8 hown hG.1 hw.1 0 rfl rfl 21 (by decide) (hts (.fieldLink RX8 46 "DutyDeskModel" "duty" "[I") (List.mem_of_getElem? (i := 4) rfl)) (fun _ h9 => h9) rfl dX8_count_74 ?_
            refine lv_iload_n hx hb dX8_count_77 rfl (lv_at hl 2 rfl) ?_
            obtain ⟨h_28, hf⟩ := gd_of hf
            refine va_iald hx hb hG.1 hw.1 11 1 (mw_atI (k := 11) rfl) rfl h_28 dX8_count_78 ?_
            refine lv_iconst (v := (-1)) hx hb dX8_count_79 (by decide) ?_
            refine lv_icmp_eq (tgt := 87) hx hb dX8_count_80 (by decide) (fun c_29 => ?_) (fun c_29 => ?_)
            · replace hf := if_t c_29 hf
              refine lv_iconst (v := 0) hx hb dX8_count_87 (by decide) ?_
              refine lv_iadd hx hb dX8_count_88 ?_
              refine lv_topi (fun x_30 ex_30 => ?_)
              replace hf := bnd_of ex_30 hf
              refine lv_istore_n (lv' := [(2, .int x_30), (0, .ref (a 0)), (3, .int v_24)]) hx hb dX8_count_89 rfl hl (by decide) rfl (fun ls hl => ?_)
              obtain ⟨x_31, ex_31⟩ : ∃ z : Int32, z = v_24 + 1 := ⟨_, rfl⟩
              replace hf := bnd_of ex_31 hf
              refine lv_iinc (v := x_31) (lv' := [(3, .int x_31), (2, .int x_30), (0, .ref (a 0))]) hx hb dX8_count_90 hl (k := 2) rfl (by rw [ex_31]; rfl) (by decide) rfl (fun ls hl => ?_)
              refine lv_goto (tgt := 65) hx hb dX8_count_93 (by decide) ?_
              have e_32 := Option.some.inj hf
              exact hz1_0_65 _ e_32.symm _ _ _ hw (lv_sub hl [2, 1, 0] rfl)
            · replace hf := if_f c_29 hf
              refine lv_iconst (v := 1) hx hb dX8_count_83 (by decide) ?_
              refine lv_goto (tgt := 88) hx hb dX8_count_84 (by decide) ?_
              refine lv_iadd hx hb dX8_count_88 ?_
              refine lv_topi (fun x_33 ex_33 => ?_)
              replace hf := bnd_of ex_33 hf
              refine lv_istore_n (lv' := [(2, .int x_33), (0, .ref (a 0)), (3, .int v_24)]) hx hb dX8_count_89 rfl hl (by decide) rfl (fun ls hl => ?_)
              obtain ⟨x_34, ex_34⟩ : ∃ z : Int32, z = v_24 + 1 := ⟨_, rfl⟩
              replace hf := bnd_of ex_34 hf
              refine lv_iinc (v := x_34) (lv' := [(3, .int x_34), (2, .int x_33), (0, .ref (a 0))]) hx hb dX8_count_90 hl (k := 2) rfl (by rw [ex_34]; rfl) (by decide) rfl (fun ls hl => ?_)
              refine lv_goto (tgt := 65) hx hb dX8_count_93 (by decide) ?_
              have e_35 := Option.some.inj hf
              exact hz1_0_65 _ e_35.symm _ _ _ hw (lv_sub hl [2, 1, 0] rfl)
        · replace hf := if_f c_22 hf
          by_cases c_36 : p1 = 4
          · replace hf := if_t c_36 hf
            refine lv_tableIn (off := 95) (tgt := 98) hx hb dX8_count_3 (by rw [c_36]; decide) (by rw [c_36]; decide) (by rw [c_36]; rfl) (by decide) ?_
            refine lv_aload_n hx hb dX8_count_98 rfl (lv_at hl 1 rfl) ?_
            refine va_get (D := G.1) (ci := 8) (v := .int (gI S 0)) (C := RX8) (T := TX8) (N := 45) hx hb hts hin8 hown hG.1 hw.1 0 rfl rfl 1 (by decide) (hts (.fieldLink RX8 109 "DutyDeskModel" "taped" "I") (List.mem_of_getElem? (i := 5) rfl)) (fun _ h9 => h9) rfl dX8_count_99 ?_
            have e_37 := Option.some.inj hf
            subst e_37
            exact wd_iret hx hb hr hlocks hw dX8_count_102
          · replace hf := if_f c_36 hf
            by_cases c_38 : p1 = 5
            · replace hf := if_t c_38 hf
              refine lv_tableIn (off := 100) (tgt := 103) hx hb dX8_count_3 (by rw [c_38]; decide) (by rw [c_38]; decide) (by rw [c_38]; rfl) (by decide) ?_
              exact j103 p1 0 _ _ _ hf hw (lv_sub hl [1, 2, 0] rfl)
            · replace hf := if_f c_38 hf
              by_cases c_39 : p1 = 6
              · replace hf := if_t c_39 hf
                refine lv_tableIn (off := 100) (tgt := 103) hx hb dX8_count_3 (by rw [c_39]; decide) (by rw [c_39]; decide) (by rw [c_39]; rfl) (by decide) ?_
                exact j103 p1 0 _ _ _ hf hw (lv_sub hl [1, 2, 0] rfl)
              · replace hf := if_f c_39 hf
                by_cases c_40 : p1 = 7
                · replace hf := if_t c_40 hf
                  refine lv_tableIn (off := 100) (tgt := 103) hx hb dX8_count_3 (by rw [c_40]; decide) (by rw [c_40]; decide) (by rw [c_40]; rfl) (by decide) ?_
                  exact j103 p1 0 _ _ _ hf hw (lv_sub hl [1, 2, 0] rfl)
                · replace hf := if_f c_40 hf
                  have nc_16 := lv_neT c_16 (show Int32.toInt 0 = 0 from rfl)
                  have nc_18 := lv_neT c_18 (show Int32.toInt 1 = 1 from rfl)
                  have nc_20 := lv_neT c_20 (show Int32.toInt 2 = 2 from rfl)
                  have nc_22 := lv_neT c_22 (show Int32.toInt 3 = 3 from rfl)
                  have nc_36 := lv_neT c_36 (show Int32.toInt 4 = 4 from rfl)
                  have nc_38 := lv_neT c_38 (show Int32.toInt 5 = 5 from rfl)
                  have nc_39 := lv_neT c_39 (show Int32.toInt 6 = 6 from rfl)
                  have nc_40 := lv_neT c_40 (show Int32.toInt 7 = 7 from rfl)
                  refine lv_tableOut (tgt := 141) hx hb dX8_count_3 (by omega) (by decide) ?_
                  refine lv_iconst (v := (-1)) hx hb dX8_count_141 (by decide) ?_
                  have e_41 := Option.some.inj hf
                  subst e_41
                  exact wd_iret hx hb hr hlocks hw dX8_count_142
