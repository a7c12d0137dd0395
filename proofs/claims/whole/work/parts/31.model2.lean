/-! DutyDeskModel.mayNight(III)Z -/
def rm_X8_mayNight : Room := { frames := 3, cells := 0, slots := 0, locals := 64 }
def f_X8_mayNight_J201 (S : St) (p1 : Int32) (y_23 : Int32) (z_24 : Int32) (z_25 : Int32) : Option ((Int32 × Int32) ⊕ ((Int32 × Int32) ⊕ ((Int32) ⊕ (Int32)))) :=
  bnd (z_25 - z_24) fun x_26 => bnd (y_23 + 1) fun x_27 => (f_X8_isDay x_27).bind (fun r_29 => (if r_29 = 0 then
    bnd (x_26 + 0) fun x_31 => some (.inl (x_31, x_27))
  else
    (f_X8_hasDuty S p1 x_27).bind (fun r_34 => (if r_34 = 0 then
    bnd (x_26 + 0) fun x_36 => some (.inl (x_36, x_27))
  else
    bnd (x_26 + 1) fun x_38 => some (.inl (x_38, x_27))))))
def f_X8_mayNight_J200 (S : St) (p1 : Int32) (y_40 : Int32) (z_41 : Int32) : Option ((Int32 × Int32) ⊕ ((Int32 × Int32) ⊕ ((Int32) ⊕ (Int32)))) :=
  f_X8_mayNight_J201 S p1 y_40 0 z_41
def f_X8_mayNight_L154 (S : St) (p1 : Int32) (p3 : Int32) (r_16 : Int32) : (Int32 × Int32) → Option ((Int32 × Int32) ⊕ ((Int32 × Int32) ⊕ ((Int32) ⊕ (Int32))))
  | (v_21, v_22) =>
  (if r_16 < v_21 then
    (if r_16 < v_21 then
    some (.inr (.inr (.inr (0))))
  else
    some (.inr (.inr (.inr (1)))))
  else
    (if (p3 + 29) ≤ v_22 then
    (if r_16 < v_21 then
    some (.inr (.inr (.inr (0))))
  else
    some (.inr (.inr (.inr (1)))))
  else
    (f_X8_isDay (v_22 - 29)).bind (fun r_63 => (if r_63 = 0 then
    f_X8_mayNight_J200 S p1 v_22 v_21
  else
    (f_X8_hasDuty S p1 (v_22 - 29)).bind (fun r_66 => (if r_66 = 0 then
    f_X8_mayNight_J200 S p1 v_22 v_21
  else
    f_X8_mayNight_J201 S p1 v_22 1 v_21))))))
def f_X8_mayNight_L105 (S : St) (p1 : Int32) (p3 : Int32) (r_16 : Int32) : (Int32 × Int32) → Option ((Int32 × Int32) ⊕ ((Int32) ⊕ (Int32)))
  | (v_18, v_19) =>
  (if p3 < v_19 then
    loopF (f_X8_mayNight_L154 S p1 p3 r_16) FU (v_18, p3)
  else
    (f_X8_isDay v_19).bind (fun r_69 => (if r_69 = 0 then
    bnd (v_18 + 0) fun x_71 => bnd (v_19 + 1) fun x_72 => some (.inl (x_71, x_72))
  else
    (if v_19 = p3 then
    bnd (v_18 + 0) fun x_75 => bnd (v_19 + 1) fun x_76 => some (.inl (x_75, x_76))
  else
    (f_X8_hasDuty S p1 v_19).bind (fun r_79 => (if r_79 = 0 then
    bnd (v_18 + 0) fun x_81 => bnd (v_19 + 1) fun x_82 => some (.inl (x_81, x_82))
  else
    bnd (v_18 + 1) fun x_84 => bnd (v_19 + 1) fun x_85 => some (.inl (x_84, x_85))))))))
def f_X8_mayNight_L53 (S : St) (p1 : Int32) (p3 : Int32) (r_11 : Int32) : Int32 → Option ((Int32) ⊕ (Int32))
  | v_13 =>
  (if (p3 + r_11) < v_13 then
    (f_X8_now S p3 3).bind (fun r_16 => bnd (p3 - 29) fun x_17 => loopF (f_X8_mayNight_L105 S p1 p3 r_16) FU (1, x_17))
  else
    (f_X8_isDay v_13).bind (fun r_88 => (if r_88 = 0 then
    bnd (v_13 + 1) fun x_90 => some (.inl x_90)
  else
    (f_X8_hasDuty S p1 v_13).bind (fun r_93 => (if r_93 = 0 then
    bnd (v_13 + 1) fun x_95 => some (.inl x_95)
  else
    some (.inr (0)))))))
def f_X8_mayNight (S : St) (p1 : Int32) (p2 : Int32) (p3 : Int32) : Option (Int32) :=
  gd p1 24 ((if (((gM S 6 p1.toNatClampNeg) >>> (p2 &&& 31)) &&& 1) = 0 then
    some (0)
  else
    gd ((1000 * p1) + p3) 24000 ((if (gM S 9 ((1000 * p1) + p3).toNatClampNeg) = 0 then
    (f_X8_isStruck S p1 p3).bind (fun r_8 => (if r_8 = 0 then
    (f_X8_now S p3 2).bind (fun r_11 => bnd (p3 - r_11) fun x_12 => loopF (f_X8_mayNight_L53 S p1 p3 r_11) FU x_12)
  else
    some (0)))
  else
    some (0)))))
set_option maxHeartbeats 4000000 in
set_option maxRecDepth 100000 in
theorem c_X8_mayNight (G : GP) (l : Launch) (a : Nat → Nat) (R : va_W) (S : St) (p1 : Int32) (p2 : Int32) (p3 : Int32) (r0 : Int32) (hf : f_X8_mayNight S p1 p2 p3 = some r0) : MC G l yX8_mayNight wsX8_mayNight rm_X8_mayNight [.ref (a 0), .int p1, .int p2, .int p3] (mw G.2.1 a R S) (mw G.2.1 a R S) (some (.int r0)) 0 0 := by
  refine MC.mk (cc := cX8_mayNight) (maxL := 8) (ret := (some .boolean)) (by decide) rfl (Nat.le_of_ble_eq_true rfl) ?_
  intro p e s m below meth c A ls ⟨hx, hb, hr, hml, hown, hlocks, _, hts⟩ hw hG hA hl
  have hl : lv_has ls 8 [(0, .ref (a 0)), (1, .int p1), (2, .int p2), (3, .int p3)] := hl
  have hin8 : ∀ w ∈ u_ws RX8 TX8 45, w ∈ wsX8_mayNight := by decide +kernel
  rw [f_X8_mayNight] at hf
  refine lv_aload_n hx hb dX8_mayNight_0 rfl (lv_at hl 0 rfl) ?_
  refine va_get (D := G.1) (ci := 8) (v := .ref (a 6)) (C := RX8) (T := TX8) (N := 45) hx hb hts hin8 hown hG.1 hw.1 0 rfl rfl 16 (by decide) (hts (.fieldLink RX8 31 "DutyDeskModel" "panels" "[I") (List.mem_of_getElem? (i := 1) rfl)) (fun _ h9 => h9) rfl dX8_mayNight_1 ?_
  refine lv_iload_n hx hb dX8_mayNight_4 rfl (lv_at hl 1 rfl) ?_
  obtain ⟨h_1, hf⟩ := gd_of hf
  refine va_iald hx hb hG.1 hw.1 6 1 (mw_atI (k := 6) rfl) rfl h_1 dX8_mayNight_5 ?_
  refine lv_iload_n hx hb dX8_mayNight_6 rfl (lv_at hl 2 rfl) ?_
  refine lv_ishr hx hb dX8_mayNight_7 ?_
  refine lv_iconst (v := 1) hx hb dX8_mayNight_8 (by decide) ?_
  refine lv_iand hx hb dX8_mayNight_9 ?_
  refine lv_if_eq (tgt := 37) hx hb dX8_mayNight_10 (by decide) (fun c_2 => ?_) (fun c_2 => ?_)
  · replace hf := if_t c_2 hf
    refine lv_iconst (v := 0) hx hb dX8_mayNight_37 (by decide) ?_
    have e_3 := Option.some.inj hf
    subst e_3
    exact wd_zret hx hb hr rfl hlocks hw dX8_mayNight_38
  · replace hf := if_f c_2 hf
    refine lv_aload_n hx hb dX8_mayNight_13 rfl (lv_at hl 0 rfl) ?_
    refine va_get (D := G.1) (ci := 8) (v := .ref (a 9)) (C := RX8) (T := TX8) (N := 45) hx hb hts hin8 hown hG.1 hw.1 0 rfl rfl 19 (by decide) (hts (.fieldLink RX8 40 "DutyDeskModel" "isAway" "[Z") (List.mem_of_getElem? (i := 2) rfl)) (fun _ h9 => h9) rfl dX8_mayNight_14 ?_
    refine lv_sipush (v := 1000) hx hb dX8_mayNight_17 (by decide) ?_
    refine lv_iload_n hx hb dX8_mayNight_20 rfl (lv_at hl 1 rfl) ?_
    refine lv_imul hx hb dX8_mayNight_21 ?_
    refine lv_iload_n hx hb dX8_mayNight_22 rfl (lv_at hl 3 rfl) ?_
    refine lv_iadd hx hb dX8_mayNight_23 ?_
    obtain ⟨h_4, hf⟩ := gd_of hf
    refine va_zald hx hb hG.1 hw.1 9 3 (mw_atZ (k := 9) rfl) rfl h_4 dX8_mayNight_24 ?_
    refine lv_if_ne (tgt := 37) hx hb dX8_mayNight_25 (by decide) (fun c_5 => ?_) (fun c_5 => ?_)
    · replace hf := if_f c_5 hf
      refine lv_iconst (v := 0) hx hb dX8_mayNight_37 (by decide) ?_
      have e_6 := Option.some.inj hf
      subst e_6
      exact wd_zret hx hb hr rfl hlocks hw dX8_mayNight_38
    · replace hf := if_t c_5 hf
      refine lv_aload_n hx hb dX8_mayNight_28 rfl (lv_at hl 0 rfl) ?_
      refine lv_iload_n hx hb dX8_mayNight_29 rfl (lv_at hl 1 rfl) ?_
      refine lv_iload_n hx hb dX8_mayNight_30 rfl (lv_at hl 3 rfl) ?_
      obtain ⟨r_8, h_7, hf⟩ := bind_of hf
      refine cV (As := [.int p1, .int p3]) (rest := []) ⟨hx, hb, hml, hown, hts⟩ hG hA hw (c_X8_isStruck G l a R S p1 p3 r_8 h_7) (cwV 2 hts gX8_mayNight_X8_isStruck rfl rfl rfl (by decide +kernel) ⟨Nat.le_of_ble_eq_true rfl, Nat.le_of_ble_eq_true rfl⟩) (va_recv hG.1 hw.1 (ci := 8) (q0 := 0) rfl rfl) rfl hl.1 rfl (Nat.le_of_ble_eq_true rfl) dX8_mayNight_31 ⟨Nat.zero_le _, Nat.zero_le _⟩ (fun H locs hw => ?_)
      refine lv_if_eq (tgt := 39) hx hb dX8_mayNight_34 (by decide) (fun c_9 => ?_) (fun c_9 => ?_)
      · replace hf := if_t c_9 hf
        refine lv_aload_n hx hb dX8_mayNight_39 rfl (lv_at hl 0 rfl) ?_
        refine lv_iload_n hx hb dX8_mayNight_40 rfl (lv_at hl 3 rfl) ?_
        refine lv_iconst (v := 2) hx hb dX8_mayNight_41 (by decide) ?_
        obtain ⟨r_11, h_10, hf⟩ := bind_of hf
        refine cV (As := [.int p3, .int 2]) (rest := []) ⟨hx, hb, hml, hown, hts⟩ hG hA hw (c_X8_now G l a R S p3 2 r_11 h_10) (cwV 2 hts gX8_mayNight_X8_now rfl rfl rfl (by decide +kernel) ⟨Nat.le_of_ble_eq_true rfl, Nat.le_of_ble_eq_true rfl⟩) (va_recv hG.1 hw.1 (ci := 8) (q0 := 0) rfl rfl) rfl hl.1 rfl (Nat.le_of_ble_eq_true rfl) dX8_mayNight_42 ⟨Nat.zero_le _, Nat.zero_le _⟩ (fun H locs hw => ?_)
        refine lv_istore (lv' := [(4, .int r_11), (0, .ref (a 0)), (1, .int p1), (2, .int p2), (3, .int p3)]) hx hb dX8_mayNight_45 hl (by decide) rfl (fun ls hl => ?_)
        refine lv_iload_n hx hb dX8_mayNight_47 rfl (lv_at hl 4 rfl) ?_
        refine lv_iload hx hb dX8_mayNight_48 (lv_at hl 0 rfl) ?_
        refine lv_isub hx hb dX8_mayNight_50 ?_
        refine lv_topi (fun x_12 ex_12 => ?_)
        replace hf := bnd_of ex_12 hf
        refine lv_istore (lv' := [(5, .int x_12), (4, .int r_11), (0, .ref (a 0)), (1, .int p1), (2, .int p2), (3, .int p3)]) hx hb dX8_mayNight_51 hl (by decide) rfl (fun ls hl => ?_)
        refine loopF_ind (body := f_X8_mayNight_L53 S p1 p3 r_11) (fun (v_13 : Int32) => ∀ (H : Heap) (locs : List Loc) (ls : Array Slot), Wd G A s H locs (mw G.2.1 a R S) → lv_has ls 8 [(0, .ref (a 0)), (1, .int p1), (3, .int p3), (4, .int r_11), (5, .int v_13)] → WQ p l e rm_X8_mayNight s m [.ref (a 0), .int p1, .int p2, .int p3] below meth c G A (mw G.2.1 a R S) (some (.int r0)) 0 0 H locs 0 0 (F0 m 53 ls [])) ?_ FU x_12 hf _ _ _ hw (lv_sub hl [2, 3, 5, 1, 0] rfl)
        clear hf hw hl
        intro v_13 t0_53 hf hz1_0_53 hz2_0_53 H locs ls hw hl
        rw [f_X8_mayNight_L53] at hf
        refine lv_iload hx hb dX8_mayNight_53 (lv_at hl 4 rfl) ?_
        refine lv_iload_n hx hb dX8_mayNight_55 rfl (lv_at hl 2 rfl) ?_
        refine lv_iload hx hb dX8_mayNight_56 (lv_at hl 3 rfl) ?_
        refine lv_iadd hx hb dX8_mayNight_58 ?_
        refine lv_icmp_gt (tgt := 88) hx hb dX8_mayNight_59 (by decide) (fun c_14 => ?_) (fun c_14 => ?_)
        · replace hf := if_t c_14 hf
          refine lv_aload_n hx hb dX8_mayNight_88 rfl (lv_at hl 0 rfl) ?_
          refine lv_iload_n hx hb dX8_mayNight_89 rfl (lv_at hl 2 rfl) ?_
          refine lv_iconst (v := 3) hx hb dX8_mayNight_90 (by decide) ?_
          obtain ⟨r_16, h_15, hf⟩ := bind_of hf
          refine cV (As := [.int p3, .int 3]) (rest := []) ⟨hx, hb, hml, hown, hts⟩ hG hA hw (c_X8_now G l a R S p3 3 r_16 h_15) (cwV 2 hts gX8_mayNight_X8_now rfl rfl rfl (by decide +kernel) ⟨Nat.le_of_ble_eq_true rfl, Nat.le_of_ble_eq_true rfl⟩) (va_recv hG.1 hw.1 (ci := 8) (q0 := 0) rfl rfl) rfl hl.1 rfl (Nat.le_of_ble_eq_true rfl) dX8_mayNight_91 ⟨Nat.zero_le _, Nat.zero_le _⟩ (fun H locs hw => ?_)
          refine lv_istore (lv' := [(5, .int r_16), (0, .ref (a 0)), (1, .int p1), (3, .int p3), (4, .int r_11)]) hx hb dX8_mayNight_94 hl (by decide) rfl (fun ls hl => ?_)
          refine lv_iconst (v := 1) hx hb dX8_mayNight_96 (by decide) ?_
          refine lv_istore (lv' := [(6, .int 1), (5, .int r_16), (0, .ref (a 0)), (1, .int p1), (3, .int p3), (4, .int r_11)]) hx hb dX8_mayNight_97 hl (by decide) rfl (fun ls hl => ?_)
          refine lv_iload_n hx hb dX8_mayNight_99 rfl (lv_at hl 4 rfl) ?_
          refine lv_bipush (v := 29) hx hb dX8_mayNight_100 (by decide) ?_
          refine lv_isub hx hb dX8_mayNight_102 ?_
          refine lv_topi (fun x_17 ex_17 => ?_)
          replace hf := bnd_of ex_17 hf
          refine lv_istore (lv' := [(7, .int x_17), (6, .int 1), (5, .int r_16), (0, .ref (a 0)), (1, .int p1), (3, .int p3), (4, .int r_11)]) hx hb dX8_mayNight_103 hl (by decide) rfl (fun ls hl => ?_)
          refine loopF_ind (body := f_X8_mayNight_L105 S p1 p3 r_16) (fun (q : Int32 × Int32) => match q with | (v_18, v_19) => ∀ (H : Heap) (locs : List Loc) (ls : Array Slot), Wd G A s H locs (mw G.2.1 a R S) → lv_has ls 8 [(0, .ref (a 0)), (1, .int p1), (3, .int p3), (5, .int r_16), (6, .int v_18), (7, .int v_19)] → WQ p l e rm_X8_mayNight s m [.ref (a 0), .int p1, .int p2, .int p3] below meth c G A (mw G.2.1 a R S) (some (.int r0)) 0 0 H locs 0 0 (F0 m 105 ls [])) ?_ FU (1, x_17) hf _ _ _ hw (lv_sub hl [3, 4, 5, 2, 1, 0] rfl)
          clear hf hw hl
          intro ⟨v_18, v_19⟩ t1_105 hf hz1_1_105 hz2_1_105 H locs ls hw hl
          rw [f_X8_mayNight_L105] at hf
          refine lv_iload hx hb dX8_mayNight_105 (lv_at hl 5 rfl) ?_
          refine lv_iload_n hx hb dX8_mayNight_107 rfl (lv_at hl 2 rfl) ?_
          refine lv_icmp_gt (tgt := 151) hx hb dX8_mayNight_108 (by decide) (fun c_20 => ?_) (fun c_20 => ?_)
          · replace hf := if_t c_20 hf
            refine lv_iload_n hx hb dX8_mayNight_151 rfl (lv_at hl 2 rfl) ?_
            refine lv_istore (lv' := [(7, .int p3), (0, .ref (a 0)), (1, .int p1), (3, .int p3), (5, .int r_16), (6, .int v_18)]) hx hb dX8_mayNight_152 hl (by decide) rfl (fun ls hl => ?_)
            refine loopF_ind (body := f_X8_mayNight_L154 S p1 p3 r_16) (fun (q : Int32 × Int32) => match q with | (v_21, v_22) => ∀ (H : Heap) (locs : List Loc) (ls : Array Slot), Wd G A s H locs (mw G.2.1 a R S) → lv_has ls 8 [(0, .ref (a 0)), (1, .int p1), (3, .int p3), (5, .int r_16), (6, .int v_21), (7, .int v_22)] → WQ p l e rm_X8_mayNight s m [.ref (a 0), .int p1, .int p2, .int p3] below meth c G A (mw G.2.1 a R S) (some (.int r0)) 0 0 H locs 0 0 (F0 m 154 ls [])) ?_ FU (v_18, p3) hf _ _ _ hw (lv_sub hl [1, 2, 3, 4, 5, 0] rfl)
            clear hf hw hl
            intro ⟨v_21, v_22⟩ t2_154 hf hz1_2_154 hz2_2_154 H locs ls hw hl
            rw [f_X8_mayNight_L154] at hf
            have j201 : ∀ (y_23 : Int32) (z_24 : Int32) (z_25 : Int32) (H : Heap) (locs : List Loc) (ls : Array Slot), f_X8_mayNight_J201 S p1 y_23 z_24 z_25 = some t2_154 → Wd G A s H locs (mw G.2.1 a R S) → lv_has ls 8 [(0, .ref (a 0)), (1, .int p1), (3, .int p3), (5, .int r_16), (7, .int y_23)] → WQ p l e rm_X8_mayNight s m [.ref (a 0), .int p1, .int p2, .int p3] below meth c G A (mw G.2.1 a R S) (some (.int r0)) 0 0 H locs 0 0 (F0 m 201 ls [.int z_24, .int z_25]) := by
              intro y_23 z_24 z_25 H locs ls hf hw hl
              rw [f_X8_mayNight_J201] at hf
              refine lv_isub hx hb dX8_mayNight_201 ?_
              refine lv_topi (fun x_26 ex_26 => ?_)
              replace hf := bnd_of ex_26 hf
              refine lv_istore (lv' := [(6, .int x_26), (0, .ref (a 0)), (1, .int p1), (3, .int p3), (5, .int r_16), (7, .int y_23)]) hx hb dX8_mayNight_202 hl (by decide) rfl (fun ls hl => ?_)
              obtain ⟨x_27, ex_27⟩ : ∃ z : Int32, z = y_23 + 1 := ⟨_, rfl⟩
              replace hf := bnd_of ex_27 hf
              refine lv_iinc (v := x_27) (lv' := [(7, .int x_27), (6, .int x_26), (0, .ref (a 0)), (1, .int p1), (3, .int p3), (5, .int r_16)]) hx hb dX8_mayNight_204 hl (k := 5) rfl (by rw [ex_27]; rfl) (by decide) rfl (fun ls hl => ?_)
              refine lv_iload hx hb dX8_mayNight_207 (lv_at hl 1 rfl) ?_
              refine lv_iload hx hb dX8_mayNight_209 (lv_at hl 0 rfl) ?_
              obtain ⟨r_29, h_28, hf⟩ := bind_of hf
              refine cS (As := [.int x_27]) (rest := [.int x_26]) ⟨hx, hb, hml, hown, hts⟩ hG hA hw (c_X8_isDay G l _ x_27 r_29 h_28) (va_cwS 1 hts gX8_mayNight_X8_isDay rfl rfl rfl (by decide +kernel) ⟨Nat.le_of_ble_eq_true rfl, Nat.le_of_ble_eq_true rfl⟩) rfl hl.1 rfl (Nat.le_of_ble_eq_true rfl) dX8_mayNight_211 ⟨Nat.zero_le _, Nat.zero_le _⟩ (fun H locs hw => ?_)
              refine lv_if_eq (tgt := 231) hx hb dX8_mayNight_214 (by decide) (fun c_30 => ?_) (fun c_30 => ?_)
              · replace hf := if_t c_30 hf
                refine lv_iconst (v := 0) hx hb dX8_mayNight_231 (by decide) ?_
                refine lv_iadd hx hb dX8_mayNight_232 ?_
                refine lv_topi (fun x_31 ex_31 => ?_)
                replace hf := bnd_of ex_31 hf
                refine lv_istore (lv' := [(6, .int x_31), (7, .int x_27), (0, .ref (a 0)), (1, .int p1), (3, .int p3), (5, .int r_16)]) hx hb dX8_mayNight_233 hl (by decide) rfl (fun ls hl => ?_)
                refine lv_goto (tgt := 154) hx hb dX8_mayNight_235 (by decide) ?_
                have e_32 := Option.some.inj hf
                exact hz1_2_154 _ e_32.symm _ _ _ hw (lv_sub hl [2, 3, 4, 5, 0, 1] rfl)
              · replace hf := if_f c_30 hf
                refine lv_aload_n hx hb dX8_mayNight_217 rfl (lv_at hl 2 rfl) ?_
                refine lv_iload_n hx hb dX8_mayNight_218 rfl (lv_at hl 3 rfl) ?_
                refine lv_iload hx hb dX8_mayNight_219 (lv_at hl 0 rfl) ?_
                obtain ⟨r_34, h_33, hf⟩ := bind_of hf
                refine cV (As := [.int p1, .int x_27]) (rest := [.int x_26]) ⟨hx, hb, hml, hown, hts⟩ hG hA hw (c_X8_hasDuty G l a R S p1 x_27 r_34 h_33) (cwV 2 hts gX8_mayNight_X8_hasDuty rfl rfl rfl (by decide +kernel) ⟨Nat.le_of_ble_eq_true rfl, Nat.le_of_ble_eq_true rfl⟩) (va_recv hG.1 hw.1 (ci := 8) (q0 := 0) rfl rfl) rfl hl.1 rfl (Nat.le_of_ble_eq_true rfl) dX8_mayNight_221 ⟨Nat.zero_le _, Nat.zero_le _⟩ (fun H locs hw => ?_)
                refine lv_if_eq (tgt := 231) hx hb dX8_mayNight_224 (by decide) (fun c_35 => ?_) (fun c_35 => ?_)
                · replace hf := if_t c_35 hf
                  refine lv_iconst (v := 0) hx hb dX8_mayNight_231 (by decide) ?_
                  refine lv_iadd hx hb dX8_mayNight_232 ?_
                  refine lv_topi (fun x_36 ex_36 => ?_)
                  replace hf := bnd_of ex_36 hf
                  refine lv_istore (lv' := [(6, .int x_36), (7, .int x_27), (0, .ref (a 0)), (1, .int p1), (3, .int p3), (5, .int r_16)]) hx hb dX8_mayNight_233 hl (by decide) rfl (fun ls hl => ?_)
                  refine lv_goto (tgt := 154) hx hb dX8_mayNight_235 (by decide) ?_
                  have e_37 := Option.some.inj hf
                  exact hz1_2_154 _ e_37.symm _ _ _ hw (lv_sub hl [2, 3, 4, 5, 0, 1] rfl)
                · replace hf := if_f c_35 hf
                  refine lv_iconst (v := 1) hx hb dX8_mayNight_227 (by decide) ?_
                  refine lv_goto (tgt := 232) hx hb dX8_mayNight_228 (by decide) ?_
                  refine lv_iadd hx hb dX8_mayNight_232 ?_
                  refine lv_topi (fun x_38 ex_38 => ?_)
                  replace hf := bnd_of ex_38 hf
                  refine lv_istore (lv' := [(6, .int x_38), (7, .int x_27), (0, .ref (a 0)), (1, .int p1), (3, .int p3), (5, .int r_16)]) hx hb dX8_mayNight_233 hl (by decide) rfl (fun ls hl => ?_)
                  refine lv_goto (tgt := 154) hx hb dX8_mayNight_235 (by decide) ?_
                  have e_39 := Option.some.inj hf
                  exact hz1_2_154 _ e_39.symm _ _ _ hw (lv_sub hl [2, 3, 4, 5, 0, 1] rfl)
            have j200 : ∀ (y_40 : Int32) (z_41 : Int32) (H : Heap) (locs : List Loc) (ls : Array Slot), f_X8_mayNight_J200 S p1 y_40 z_41 = some t2_154 → Wd G A s H locs (mw G.2.1 a R S) → lv_has ls 8 [(0, .ref (a 0)), (1, .int p1), (3, .int p3), (5, .int r_16), (7, .int y_40)] → WQ p l e rm_X8_mayNight s m [.ref (a 0), .int p1, .int p2, .int p3] below meth c G A (mw G.2.1 a R S) (some (.int r0)) 0 0 H locs 0 0 (F0 m 200 ls [.int z_41]) := by
              intro y_40 z_41 H locs ls hf hw hl
              rw [f_X8_mayNight_J200] at hf
              refine lv_iconst (v := 0) hx hb dX8_mayNight_200 (by decide) ?_
              exact j201 y_40 0 z_41 _ _ _ hf hw (lv_sub hl [0, 1, 2, 3, 4] rfl)
            refine lv_iload hx hb dX8_mayNight_154 (lv_at hl 4 rfl) ?_
            refine lv_iload hx hb dX8_mayNight_156 (lv_at hl 3 rfl) ?_
            refine lv_icmp_gt (tgt := 238) hx hb dX8_mayNight_158 (by decide) (fun c_42 => ?_) (fun c_42 => ?_)
            · replace hf := if_t c_42 hf
              refine lv_iload hx hb dX8_mayNight_238 (lv_at hl 4 rfl) ?_
              refine lv_iload hx hb dX8_mayNight_240 (lv_at hl 3 rfl) ?_
              refine lv_icmp_gt (tgt := 249) hx hb dX8_mayNight_242 (by decide) (fun c_43 => ?_) (fun c_43 => ?_)
              · replace hf := if_t c_43 hf
                refine lv_iconst (v := 0) hx hb dX8_mayNight_249 (by decide) ?_
                have e_44 := Option.some.inj hf
                have e_45 := hz2_2_154 _ e_44.symm
                have e_46 := hz2_1_105 _ e_45.symm
                have e_47 := hz2_0_53 _ e_46.symm
                subst e_47
                exact wd_zret hx hb hr rfl hlocks hw dX8_mayNight_250
              · replace hf := if_f c_43 hf
                refine lv_iconst (v := 1) hx hb dX8_mayNight_245 (by decide) ?_
                refine lv_goto (tgt := 250) hx hb dX8_mayNight_246 (by decide) ?_
                have e_48 := Option.some.inj hf
                have e_49 := hz2_2_154 _ e_48.symm
                have e_50 := hz2_1_105 _ e_49.symm
                have e_51 := hz2_0_53 _ e_50.symm
                subst e_51
                exact wd_zret hx hb hr rfl hlocks hw dX8_mayNight_250
            · replace hf := if_f c_42 hf
              refine lv_iload hx hb dX8_mayNight_161 (lv_at hl 5 rfl) ?_
              refine lv_iload_n hx hb dX8_mayNight_163 rfl (lv_at hl 2 rfl) ?_
              refine lv_bipush (v := 29) hx hb dX8_mayNight_164 (by decide) ?_
              refine lv_iadd hx hb dX8_mayNight_166 ?_
              refine lv_icmp_ge (tgt := 238) hx hb dX8_mayNight_167 (by decide) (fun c_52 => ?_) (fun c_52 => ?_)
              · replace hf := if_t c_52 hf
                refine lv_iload hx hb dX8_mayNight_238 (lv_at hl 4 rfl) ?_
                refine lv_iload hx hb dX8_mayNight_240 (lv_at hl 3 rfl) ?_
                refine lv_icmp_gt (tgt := 249) hx hb dX8_mayNight_242 (by decide) (fun c_53 => ?_) (fun c_53 => ?_)
                · replace hf := if_t c_53 hf
                  refine lv_iconst (v := 0) hx hb dX8_mayNight_249 (by decide) ?_
                  have e_54 := Option.some.inj hf
                  have e_55 := hz2_2_154 _ e_54.symm
                  have e_56 := hz2_1_105 _ e_55.symm
                  have e_57 := hz2_0_53 _ e_56.symm
                  subst e_57
                  exact wd_zret hx hb hr rfl hlocks hw dX8_mayNight_250
                · replace hf := if_f c_53 hf
                  refine lv_iconst (v := 1) hx hb dX8_mayNight_245 (by decide) ?_
                  refine lv_goto (tgt := 250) hx hb dX8_mayNight_246 (by decide) ?_
                  have e_58 := Option.some.inj hf
                  have e_59 := hz2_2_154 _ e_58.symm
                  have e_60 := hz2_1_105 _ e_59.symm
                  have e_61 := hz2_0_53 _ e_60.symm
                  subst e_61
                  exact wd_zret hx hb hr rfl hlocks hw dX8_mayNight_250
              · replace hf := if_f c_52 hf
                refine lv_iload hx hb dX8_mayNight_170 (lv_at hl 4 rfl) ?_
                refine lv_iload hx hb dX8_mayNight_172 (lv_at hl 5 rfl) ?_
                refine lv_bipush (v := 29) hx hb dX8_mayNight_174 (by decide) ?_
                refine lv_isub hx hb dX8_mayNight_176 ?_
                obtain ⟨r_63, h_62, hf⟩ := bind_of hf
                refine cS (As := [.int (v_22 - 29)]) (rest := [.int v_21]) ⟨hx, hb, hml, hown, hts⟩ hG hA hw (c_X8_isDay G l _ (v_22 - 29) r_63 h_62) (va_cwS 1 hts gX8_mayNight_X8_isDay rfl rfl rfl (by decide +kernel) ⟨Nat.le_of_ble_eq_true rfl, Nat.le_of_ble_eq_true rfl⟩) rfl hl.1 rfl (Nat.le_of_ble_eq_true rfl) dX8_mayNight_177 ⟨Nat.zero_le _, Nat.zero_le _⟩ (fun H locs hw => ?_)
                refine lv_if_eq (tgt := 200) hx hb dX8_mayNight_180 (by decide) (fun c_64 => ?_) (fun c_64 => ?_)
                · replace hf := if_t c_64 hf
                  exact j200 v_22 v_21 _ _ _ hf hw (lv_sub hl [0, 1, 2, 3, 5] rfl)
                · replace hf := if_f c_64 hf
                  refine lv_aload_n hx hb dX8_mayNight_183 rfl (lv_at hl 0 rfl) ?_
                  refine lv_iload_n hx hb dX8_mayNight_184 rfl (lv_at hl 1 rfl) ?_
                  refine lv_iload hx hb dX8_mayNight_185 (lv_at hl 5 rfl) ?_
                  refine lv_bipush (v := 29) hx hb dX8_mayNight_187 (by decide) ?_
                  refine lv_isub hx hb dX8_mayNight_189 ?_
                  obtain ⟨r_66, h_65, hf⟩ := bind_of hf
                  refine cV (As := [.int p1, .int (v_22 - 29)]) (rest := [.int v_21]) ⟨hx, hb, hml, hown, hts⟩ hG hA hw (c_X8_hasDuty G l a R S p1 (v_22 - 29) r_66 h_65) (cwV 2 hts gX8_mayNight_X8_hasDuty rfl rfl rfl (by decide +kernel) ⟨Nat.le_of_ble_eq_true rfl, Nat.le_of_ble_eq_true rfl⟩) (va_recv hG.1 hw.1 (ci := 8) (q0 := 0) rfl rfl) rfl hl.1 rfl (Nat.le_of_ble_eq_true rfl) dX8_mayNight_190 ⟨Nat.zero_le _, Nat.zero_le _⟩ (fun H locs hw => ?_)
                  refine lv_if_eq (tgt := 200) hx hb dX8_mayNight_193 (by decide) (fun c_67 => ?_) (fun c_67 => ?_)
                  · replace hf := if_t c_67 hf
                    exact j200 v_22 v_21 _ _ _ hf hw (lv_sub hl [0, 1, 2, 3, 5] rfl)
                  · replace hf := if_f c_67 hf
                    refine lv_iconst (v := 1) hx hb dX8_mayNight_196 (by decide) ?_
                    refine lv_goto (tgt := 201) hx hb dX8_mayNight_197 (by decide) ?_
                    exact j201 v_22 1 v_21 _ _ _ hf hw (lv_sub hl [0, 1, 2, 3, 5] rfl)
          · replace hf := if_f c_20 hf
            refine lv_iload hx hb dX8_mayNight_111 (lv_at hl 4 rfl) ?_
            refine lv_iload hx hb dX8_mayNight_113 (lv_at hl 5 rfl) ?_
            obtain ⟨r_69, h_68, hf⟩ := bind_of hf
            refine cS (As := [.int v_19]) (rest := [.int v_18]) ⟨hx, hb, hml, hown, hts⟩ hG hA hw (c_X8_isDay G l _ v_19 r_69 h_68) (va_cwS 1 hts gX8_mayNight_X8_isDay rfl rfl rfl (by decide +kernel) ⟨Nat.le_of_ble_eq_true rfl, Nat.le_of_ble_eq_true rfl⟩) rfl hl.1 rfl (Nat.le_of_ble_eq_true rfl) dX8_mayNight_115 ⟨Nat.zero_le _, Nat.zero_le _⟩ (fun H locs hw => ?_)
            refine lv_if_eq (tgt := 141) hx hb dX8_mayNight_118 (by decide) (fun c_70 => ?_) (fun c_70 => ?_)
            · replace hf := if_t c_70 hf
              refine lv_iconst (v := 0) hx hb dX8_mayNight_141 (by decide) ?_
              refine lv_iadd hx hb dX8_mayNight_142 ?_
              refine lv_topi (fun x_71 ex_71 => ?_)
              replace hf := bnd_of ex_71 hf
              refine lv_istore (lv' := [(6, .int x_71), (0, .ref (a 0)), (1, .int p1), (3, .int p3), (5, .int r_16), (7, .int v_19)]) hx hb dX8_mayNight_143 hl (by decide) rfl (fun ls hl => ?_)
              obtain ⟨x_72, ex_72⟩ : ∃ z : Int32, z = v_19 + 1 := ⟨_, rfl⟩
              replace hf := bnd_of ex_72 hf
              refine lv_iinc (v := x_72) (lv' := [(7, .int x_72), (6, .int x_71), (0, .ref (a 0)), (1, .int p1), (3, .int p3), (5, .int r_16)]) hx hb dX8_mayNight_145 hl (k := 5) rfl (by rw [ex_72]; rfl) (by decide) rfl (fun ls hl => ?_)
              refine lv_goto (tgt := 105) hx hb dX8_mayNight_148 (by decide) ?_
              have e_73 := Option.some.inj hf
              exact hz1_1_105 _ e_73.symm _ _ _ hw (lv_sub hl [2, 3, 4, 5, 1, 0] rfl)
            · replace hf := if_f c_70 hf
              refine lv_iload hx hb dX8_mayNight_121 (lv_at hl 5 rfl) ?_
              refine lv_iload_n hx hb dX8_mayNight_123 rfl (lv_at hl 2 rfl) ?_
              refine lv_icmp_eq (tgt := 141) hx hb dX8_mayNight_124 (by decide) (fun c_74 => ?_) (fun c_74 => ?_)
              · replace hf := if_t c_74 hf
                refine lv_iconst (v := 0) hx hb dX8_mayNight_141 (by decide) ?_
                refine lv_iadd hx hb dX8_mayNight_142 ?_
                refine lv_topi (fun x_75 ex_75 => ?_)
                replace hf := bnd_of ex_75 hf
                refine lv_istore (lv' := [(6, .int x_75), (0, .ref (a 0)), (1, .int p1), (3, .int p3), (5, .int r_16), (7, .int v_19)]) hx hb dX8_mayNight_143 hl (by decide) rfl (fun ls hl => ?_)
                obtain ⟨x_76, ex_76⟩ : ∃ z : Int32, z = v_19 + 1 := ⟨_, rfl⟩
                replace hf := bnd_of ex_76 hf
                refine lv_iinc (v := x_76) (lv' := [(7, .int x_76), (6, .int x_75), (0, .ref (a 0)), (1, .int p1), (3, .int p3), (5, .int r_16)]) hx hb dX8_mayNight_145 hl (k := 5) rfl (by rw [ex_76]; rfl) (by decide) rfl (fun ls hl => ?_)
                refine lv_goto (tgt := 105) hx hb dX8_mayNight_148 (by decide) ?_
                have e_77 := Option.some.inj hf
                exact hz1_1_105 _ e_77.symm _ _ _ hw (lv_sub hl [2, 3, 4, 5, 1, 0] rfl)
              · replace hf := if_f c_74 hf
                refine lv_aload_n hx hb dX8_mayNight_127 rfl (lv_at hl 0 rfl) ?_
                refine lv_iload_n hx hb dX8_mayNight_128 rfl (lv_at hl 1 rfl) ?_
                refine lv_iload hx hb dX8_mayNight_129 (lv_at hl 5 rfl) ?_
                obtain ⟨r_79, h_78, hf⟩ := bind_of hf
                refine cV (As := [.int p1, .int v_19]) (rest := [.int v_18]) ⟨hx, hb, hml, hown, hts⟩ hG hA hw (c_X8_hasDuty G l a R S p1 v_19 r_79 h_78) (cwV 2 hts gX8_mayNight_X8_hasDuty rfl rfl rfl (by decide +kernel) ⟨Nat.le_of_ble_eq_true rfl, Nat.le_of_ble_eq_true rfl⟩) (va_recv hG.1 hw.1 (ci := 8) (q0 := 0) rfl rfl) rfl hl.1 rfl (Nat.le_of_ble_eq_true rfl) dX8_mayNight_131 ⟨Nat.zero_le _, Nat.zero_le _⟩ (fun H locs hw => ?_)
                refine lv_if_eq (tgt := 141) hx hb dX8_mayNight_134 (by decide) (fun c_80 => ?_) (fun c_80 => ?_)
                · replace hf := if_t c_80 hf
                  refine lv_iconst (v := 0) hx hb dX8_mayNight_141 (by decide) ?_
                  refine lv_iadd hx hb dX8_mayNight_142 ?_
                  refine lv_topi (fun x_81 ex_81 => ?_)
                  replace hf := bnd_of ex_81 hf
                  refine lv_istore (lv' := [(6, .int x_81), (0, .ref (a 0)), (1, .int p1), (3, .int p3), (5, .int r_16), (7, .int v_19)]) hx hb dX8_mayNight_143 hl (by decide) rfl (fun ls hl => ?_)
                  obtain ⟨x_82, ex_82⟩ : ∃ z : Int32, z = v_19 + 1 := ⟨_, rfl⟩
                  replace hf := bnd_of ex_82 hf
                  refine lv_iinc (v := x_82) (lv' := [(7, .int x_82), (6, .int x_81), (0, .ref (a 0)), (1, .int p1), (3, .int p3), (5, .int r_16)]) hx hb dX8_mayNight_145 hl (k := 5) rfl (by rw [ex_82]; rfl) (by decide) rfl (fun ls hl => ?_)
                  refine lv_goto (tgt := 105) hx hb dX8_mayNight_148 (by decide) ?_
                  have e_83 := Option.some.inj hf
                  exact hz1_1_105 _ e_83.symm _ _ _ hw (lv_sub hl [2, 3, 4, 5, 1, 0] rfl)
                · replace hf := if_f c_80 hf
                  refine lv_iconst (v := 1) hx hb dX8_mayNight_137 (by decide) ?_
                  refine lv_goto (tgt := 142) hx hb dX8_mayNight_138 (by decide) ?_
                  refine lv_iadd hx hb dX8_mayNight_142 ?_
                  refine lv_topi (fun x_84 ex_84 => ?_)
                  replace hf := bnd_of ex_84 hf
                  refine lv_istore (lv' := [(6, .int x_84), (0, .ref (a 0)), (1, .int p1), (3, .int p3), (5, .int r_16), (7, .int v_19)]) hx hb dX8_mayNight_143 hl (by decide) rfl (fun ls hl => ?_)
                  obtain ⟨x_85, ex_85⟩ : ∃ z : Int32, z = v_19 + 1 := ⟨_, rfl⟩
                  replace hf := bnd_of ex_85 hf
                  refine lv_iinc (v := x_85) (lv' := [(7, .int x_85), (6, .int x_84), (0, .ref (a 0)), (1, .int p1), (3, .int p3), (5, .int r_16)]) hx hb dX8_mayNight_145 hl (k := 5) rfl (by rw [ex_85]; rfl) (by decide) rfl (fun ls hl => ?_)
                  refine lv_goto (tgt := 105) hx hb dX8_mayNight_148 (by decide) ?_
                  have e_86 := Option.some.inj hf
                  exact hz1_1_105 _ e_86.symm _ _ _ hw (lv_sub hl [2, 3, 4, 5, 1, 0] rfl)
        · replace hf := if_f c_14 hf
          refine lv_iload hx hb dX8_mayNight_62 (lv_at hl 4 rfl) ?_
          obtain ⟨r_88, h_87, hf⟩ := bind_of hf
          refine cS (As := [.int v_13]) (rest := []) ⟨hx, hb, hml, hown, hts⟩ hG hA hw (c_X8_isDay G l _ v_13 r_88 h_87) (va_cwS 1 hts gX8_mayNight_X8_isDay rfl rfl rfl (by decide +kernel) ⟨Nat.le_of_ble_eq_true rfl, Nat.le_of_ble_eq_true rfl⟩) rfl hl.1 rfl (Nat.le_of_ble_eq_true rfl) dX8_mayNight_64 ⟨Nat.zero_le _, Nat.zero_le _⟩ (fun H locs hw => ?_)
          refine lv_if_eq (tgt := 82) hx hb dX8_mayNight_67 (by decide) (fun c_89 => ?_) (fun c_89 => ?_)
          · replace hf := if_t c_89 hf
            obtain ⟨x_90, ex_90⟩ : ∃ z : Int32, z = v_13 + 1 := ⟨_, rfl⟩
            replace hf := bnd_of ex_90 hf
            refine lv_iinc (v := x_90) (lv' := [(5, .int x_90), (0, .ref (a 0)), (1, .int p1), (3, .int p3), (4, .int r_11)]) hx hb dX8_mayNight_82 hl (k := 4) rfl (by rw [ex_90]; rfl) (by decide) rfl (fun ls hl => ?_)
            refine lv_goto (tgt := 53) hx hb dX8_mayNight_85 (by decide) ?_
            have e_91 := Option.some.inj hf
            exact hz1_0_53 _ e_91.symm _ _ _ hw (lv_sub hl [1, 2, 3, 4, 0] rfl)
          · replace hf := if_f c_89 hf
            refine lv_aload_n hx hb dX8_mayNight_70 rfl (lv_at hl 0 rfl) ?_
            refine lv_iload_n hx hb dX8_mayNight_71 rfl (lv_at hl 1 rfl) ?_
            refine lv_iload hx hb dX8_mayNight_72 (lv_at hl 4 rfl) ?_
            obtain ⟨r_93, h_92, hf⟩ := bind_of hf
            refine cV (As := [.int p1, .int v_13]) (rest := []) ⟨hx, hb, hml, hown, hts⟩ hG hA hw (c_X8_hasDuty G l a R S p1 v_13 r_93 h_92) (cwV 2 hts gX8_mayNight_X8_hasDuty rfl rfl rfl (by decide +kernel) ⟨Nat.le_of_ble_eq_true rfl, Nat.le_of_ble_eq_true rfl⟩) (va_recv hG.1 hw.1 (ci := 8) (q0 := 0) rfl rfl) rfl hl.1 rfl (Nat.le_of_ble_eq_true rfl) dX8_mayNight_74 ⟨Nat.zero_le _, Nat.zero_le _⟩ (fun H locs hw => ?_)
            refine lv_if_eq (tgt := 82) hx hb dX8_mayNight_77 (by decide) (fun c_94 => ?_) (fun c_94 => ?_)
            · replace hf := if_t c_94 hf
              obtain ⟨x_95, ex_95⟩ : ∃ z : Int32, z = v_13 + 1 := ⟨_, rfl⟩
              replace hf := bnd_of ex_95 hf
              refine lv_iinc (v := x_95) (lv' := [(5, .int x_95), (0, .ref (a 0)), (1, .int p1), (3, .int p3), (4, .int r_11)]) hx hb dX8_mayNight_82 hl (k := 4) rfl (by rw [ex_95]; rfl) (by decide) rfl (fun ls hl => ?_)
              refine lv_goto (tgt := 53) hx hb dX8_mayNight_85 (by decide) ?_
              have e_96 := Option.some.inj hf
              exact hz1_0_53 _ e_96.symm _ _ _ hw (lv_sub hl [1, 2, 3, 4, 0] rfl)
            · replace hf := if_f c_94 hf
              refine lv_iconst (v := 0) hx hb dX8_mayNight_80 (by decide) ?_
              have e_97 := Option.some.inj hf
              have e_98 := hz2_0_53 _ e_97.symm
              subst e_98
              exact wd_zret hx hb hr rfl hlocks hw dX8_mayNight_81
      · replace hf := if_f c_9 hf
        refine lv_iconst (v := 0) hx hb dX8_mayNight_37 (by decide) ?_
        have e_99 := Option.some.inj hf
        subst e_99
        exact wd_zret hx hb hr rfl hlocks hw dX8_mayNight_38
/-! DutyDeskModel.duty(III)I -/
def rm_X8_duty : Room := { frames := 4, cells := 0, slots := 0, locals := 91 }
def f_X8_duty (S : St) (p1 : Int32) (p2 : Int32) (p3 : Int32) : Option (Int32 × St) :=
  (f_X8_in p1 0 5).bind (fun r_2 => (if r_2 = 0 then
    some (((-2), S))
  else
    (f_X8_isDay p2).bind (fun r_6 => (if r_6 = 0 then
    some (((-2), S))
  else
    (f_X8_in p3 (-1) ((gI S 10) - 1)).bind (fun r_10 => (if r_10 = 0 then
    some (((-2), S))
  else
    bnd ((1000 * p1) + p2) fun x_12 => gd x_12 6000 (bnd (gM S 11 x_12.toNatClampNeg) fun x_14 => gd x_12 6000 (bnd (sM S 11 (x_12.toNatClampNeg) (-1)) fun S_16 => (if p3 = (-1) then
    gd x_12 6000 (bnd (sM S_16 11 (x_12.toNatClampNeg) p3) fun S_19 => some ((x_14, S_19)))
  else
    (f_X8_mayNight S_16 p3 p1 p2).bind (fun r_22 => (if r_22 = 0 then
    gd x_12 6000 (bnd (sM S_16 11 (x_12.toNatClampNeg) x_14) fun S_28 => some (((-4), S_28)))
  else
    gd x_12 6000 (bnd (sM S_16 11 (x_12.toNatClampNeg) p3) fun S_25 => some ((x_14, S_25))))))))))))))
set_option maxHeartbeats 4000000 in
set_option maxRecDepth 100000 in
theorem c_X8_duty (G : GP) (l : Launch) (a : Nat → Nat) (R : va_W) (S : St) (p1 : Int32) (p2 : Int32) (p3 : Int32) (r0 : Int32) (S9 : St) (hf : f_X8_duty S p1 p2 p3 = some (r0, S9)) : MC G l yX8_duty wsX8_duty rm_X8_duty [.ref (a 0), .int p1, .int p2, .int p3] (mw G.2.1 a R S) (mw G.2.1 a R S9) (some (.int r0)) 0 0 := by
  refine MC.mk (cc := cX8_duty) (maxL := 6) (ret := (some .int)) (by decide) rfl (Nat.le_of_ble_eq_true rfl) ?_
  intro p e s m below meth c A ls ⟨hx, hb, hr, hml, hown, hlocks, _, hts⟩ hw hG hA hl
  have hl : lv_has ls 6 [(0, .ref (a 0)), (1, .int p1), (2, .int p2), (3, .int p3)] := hl
  have hin8 : ∀ w ∈ u_ws RX8 TX8 45, w ∈ wsX8_duty := by decide +kernel
  rw [f_X8_duty] at hf
  refine lv_iload_n hx hb dX8_duty_0 rfl (lv_at hl 1 rfl) ?_
  refine lv_iconst (v := 0) hx hb dX8_duty_1 (by decide) ?_
  refine lv_iconst (v := 5) hx hb dX8_duty_2 (by decide) ?_
  obtain ⟨r_2, h_1, hf⟩ := bind_of hf
  refine cS (As := [.int p1, .int 0, .int 5]) (rest := []) ⟨hx, hb, hml, hown, hts⟩ hG hA hw (c_X8_in G l _ p1 0 5 r_2 h_1) (va_cwS 3 hts gX8_duty_X8_in rfl rfl rfl (by decide +kernel) ⟨Nat.le_of_ble_eq_true rfl, Nat.le_of_ble_eq_true rfl⟩) rfl hl.1 rfl (Nat.le_of_ble_eq_true rfl) dX8_duty_3 ⟨Nat.zero_le _, Nat.zero_le _⟩ (fun H locs hw => ?_)
  refine lv_if_eq (tgt := 30) hx hb dX8_duty_6 (by decide) (fun c_3 => ?_) (fun c_3 => ?_)
  · replace hf := if_t c_3 hf
    refine lv_bipush (v := (-2)) hx hb dX8_duty_30 (by decide) ?_
    have e_4 := Option.some.inj hf
    obtain ⟨rfl, rfl⟩ := Prod.mk.inj e_4
    exact wd_iret hx hb hr hlocks hw dX8_duty_32
  · replace hf := if_f c_3 hf
    refine lv_iload_n hx hb dX8_duty_9 rfl (lv_at hl 2 rfl) ?_
    obtain ⟨r_6, h_5, hf⟩ := bind_of hf
    refine cS (As := [.int p2]) (rest := []) ⟨hx, hb, hml, hown, hts⟩ hG hA hw (c_X8_isDay G l _ p2 r_6 h_5) (va_cwS 1 hts gX8_duty_X8_isDay rfl rfl rfl (by decide +kernel) ⟨Nat.le_of_ble_eq_true rfl, Nat.le_of_ble_eq_true rfl⟩) rfl hl.1 rfl (Nat.le_of_ble_eq_true rfl) dX8_duty_10 ⟨Nat.zero_le _, Nat.zero_le _⟩ (fun H locs hw => ?_)
    refine lv_if_eq (tgt := 30) hx hb dX8_duty_13 (by decide) (fun c_7 => ?_) (fun c_7 => ?_)
    · replace hf := if_t c_7 hf
      refine lv_bipush (v := (-2)) hx hb dX8_duty_30 (by decide) ?_
      have e_8 := Option.some.inj hf
      obtain ⟨rfl, rfl⟩ := Prod.mk.inj e_8
      exact wd_iret hx hb hr hlocks hw dX8_duty_32
    · replace hf := if_f c_7 hf
      refine lv_iload_n hx hb dX8_duty_16 rfl (lv_at hl 3 rfl) ?_
      refine lv_iconst (v := (-1)) hx hb dX8_duty_17 (by decide) ?_
      refine lv_aload_n hx hb dX8_duty_18 rfl (lv_at hl 0 rfl) ?_
      refine va_get (D := G.1) (ci := 8) (v := .int (gI S 10)) (C := RX8) (T := TX8) (N := 45) hx hb hts hin8 hown hG.1 hw.1 0 rfl rfl 14 (by decide) (hts (.fieldLink RX8 189 "DutyDeskModel" "lawyers" "I") (List.mem_of_getElem? (i := 1) rfl)) (fun _ h9 => h9) rfl dX8_duty_19 ?_
      refine lv_iconst (v := 1) hx hb dX8_duty_22 (by decide) ?_
      refine lv_isub hx hb dX8_duty_23 ?_
      obtain ⟨r_10, h_9, hf⟩ := bind_of hf
      refine cS (As := [.int p3, .int (-1), .int ((gI S 10) - 1)]) (rest := []) ⟨hx, hb, hml, hown, hts⟩ hG hA hw (c_X8_in G l _ p3 (-1) ((gI S 10) - 1) r_10 h_9) (va_cwS 3 hts gX8_duty_X8_in rfl rfl rfl (by decide +kernel) ⟨Nat.le_of_ble_eq_true rfl, Nat.le_of_ble_eq_true rfl⟩) rfl hl.1 rfl (Nat.le_of_ble_eq_true rfl) dX8_duty_24 ⟨Nat.zero_le _, Nat.zero_le _⟩ (fun H locs hw => ?_)
      refine lv_if_ne (tgt := 33) hx hb dX8_duty_27 (by decide) (fun c_11 => ?_) (fun c_11 => ?_)
      · replace hf := if_f c_11 hf
        refine lv_sipush (v := 1000) hx hb dX8_duty_33 (by decide) ?_
        refine lv_iload_n hx hb dX8_duty_36 rfl (lv_at hl 1 rfl) ?_
        refine lv_imul hx hb dX8_duty_37 ?_
        refine lv_iload_n hx hb dX8_duty_38 rfl (lv_at hl 2 rfl) ?_
        refine lv_iadd hx hb dX8_duty_39 ?_
        refine lv_topi (fun x_12 ex_12 => ?_)
        replace hf := bnd_of ex_12 hf
        refine lv_istore (lv' := [(4, .int x_12), (0, .ref (a 0)), (1, .int p1), (2, .int p2), (3, .int p3)]) hx hb dX8_duty_40 hl (by decide) rfl (fun ls hl => ?_)
        refine lv_aload_n hx hb dX8_duty_42 rfl (lv_at hl 1 rfl) ?_
        refine va_get (D := G.1) (ci := 8) (v := .ref (a 11)) (C := RX8) (T := TX8) (N := 45) hx hb hts hin8 hown hG.1 hw.1 0 rfl rfl 21 (by decide) (hts (.fieldLink RX8 46 "DutyDeskModel" "duty" "[I") (List.mem_of_getElem? (i := 2) rfl)) (fun _ h9 => h9) rfl dX8_duty_43 ?_
        refine lv_iload hx hb dX8_duty_46 (lv_at hl 0 rfl) ?_
        obtain ⟨h_13, hf⟩ := gd_of hf
        refine va_iald hx hb hG.1 hw.1 11 1 (mw_atI (k := 11) rfl) rfl h_13 dX8_duty_48 ?_
        refine lv_topi (fun x_14 ex_14 => ?_)
        replace hf := bnd_of ex_14 hf
        refine lv_istore (lv' := [(5, .int x_14), (4, .int x_12), (0, .ref (a 0)), (1, .int p1), (2, .int p2), (3, .int p3)]) hx hb dX8_duty_49 hl (by decide) rfl (fun ls hl => ?_)
        refine lv_aload_n hx hb dX8_duty_51 rfl (lv_at hl 2 rfl) ?_
        refine va_get (D := G.1) (ci := 8) (v := .ref (a 11)) (C := RX8) (T := TX8) (N := 45) hx hb hts hin8 hown hG.1 hw.1 0 rfl rfl 21 (by decide) (hts (.fieldLink RX8 46 "DutyDeskModel" "duty" "[I") (List.mem_of_getElem? (i := 2) rfl)) (fun _ h9 => h9) rfl dX8_duty_52 ?_
        refine lv_iload hx hb dX8_duty_55 (lv_at hl 1 rfl) ?_
        refine lv_iconst (v := (-1)) hx hb dX8_duty_57 (by decide) ?_
        obtain ⟨h_15, hf⟩ := gd_of hf
        refine va_iast hx hb hG.1 hw.1 hw.2.1 hw.2.2 11 1 (mw_atI (k := 11) rfl) rfl h_15 dX8_duty_58 (fun H locs hP hD hS => ?_)
        obtain ⟨S_16, eS_16⟩ : ∃ z : St, z = sM S 11 (x_12.toNatClampNeg) (-1) := ⟨_, rfl⟩
        replace hf := bnd_of eS_16 hf
        have hw : Wd G A s H locs (mw G.2.1 a R S_16) := wd_eq (by rw [eS_16]; exact mw_upI (k := 11) rfl _) hP hD hS
        refine lv_iload_n hx hb dX8_duty_59 rfl (lv_at hl 5 rfl) ?_
        refine lv_iconst (v := (-1)) hx hb dX8_duty_60 (by decide) ?_
        refine lv_icmp_eq (tgt := 86) hx hb dX8_duty_61 (by decide) (fun c_17 => ?_) (fun c_17 => ?_)
        · replace hf := if_t c_17 hf
          refine lv_aload_n hx hb dX8_duty_86 rfl (lv_at hl 2 rfl) ?_
          refine va_get (D := G.1) (ci := 8) (v := .ref (a 11)) (C := RX8) (T := TX8) (N := 45) hx hb hts hin8 hown hG.1 hw.1 0 rfl rfl 21 (by decide) (hts (.fieldLink RX8 46 "DutyDeskModel" "duty" "[I") (List.mem_of_getElem? (i := 2) rfl)) (fun _ h9 => h9) rfl dX8_duty_87 ?_
          refine lv_iload hx hb dX8_duty_90 (lv_at hl 1 rfl) ?_
          refine lv_iload_n hx hb dX8_duty_92 rfl (lv_at hl 5 rfl) ?_
          obtain ⟨h_18, hf⟩ := gd_of hf
          refine va_iast hx hb hG.1 hw.1 hw.2.1 hw.2.2 11 1 (mw_atI (k := 11) rfl) rfl h_18 dX8_duty_93 (fun H locs hP hD hS => ?_)
          obtain ⟨S_19, eS_19⟩ : ∃ z : St, z = sM S_16 11 (x_12.toNatClampNeg) p3 := ⟨_, rfl⟩
          replace hf := bnd_of eS_19 hf
          have hw : Wd G A s H locs (mw G.2.1 a R S_19) := wd_eq (by rw [eS_19]; exact mw_upI (k := 11) rfl _) hP hD hS
          refine lv_iload hx hb dX8_duty_94 (lv_at hl 0 rfl) ?_
          have e_20 := Option.some.inj hf
          obtain ⟨rfl, rfl⟩ := Prod.mk.inj e_20
          exact wd_iret hx hb hr hlocks hw dX8_duty_96
        · replace hf := if_f c_17 hf
          refine lv_aload_n hx hb dX8_duty_64 rfl (lv_at hl 2 rfl) ?_
          refine lv_iload_n hx hb dX8_duty_65 rfl (lv_at hl 5 rfl) ?_
          refine lv_iload_n hx hb dX8_duty_66 rfl (lv_at hl 3 rfl) ?_
          refine lv_iload_n hx hb dX8_duty_67 rfl (lv_at hl 4 rfl) ?_
          obtain ⟨r_22, h_21, hf⟩ := bind_of hf
          refine cV (As := [.int p3, .int p1, .int p2]) (rest := []) ⟨hx, hb, hml, hown, hts⟩ hG hA hw (c_X8_mayNight G l a R S_16 p3 p1 p2 r_22 h_21) (cwV 3 hts gX8_duty_X8_mayNight rfl rfl rfl (by decide +kernel) ⟨Nat.le_of_ble_eq_true rfl, Nat.le_of_ble_eq_true rfl⟩) (va_recv hG.1 hw.1 (ci := 8) (q0 := 0) rfl rfl) rfl hl.1 rfl (Nat.le_of_ble_eq_true rfl) dX8_duty_68 ⟨Nat.zero_le _, Nat.zero_le _⟩ (fun H locs hw => ?_)
          refine lv_if_ne (tgt := 86) hx hb dX8_duty_71 (by decide) (fun c_23 => ?_) (fun c_23 => ?_)
          · replace hf := if_f c_23 hf
            refine lv_aload_n hx hb dX8_duty_86 rfl (lv_at hl 2 rfl) ?_
            refine va_get (D := G.1) (ci := 8) (v := .ref (a 11)) (C := RX8) (T := TX8) (N := 45) hx hb hts hin8 hown hG.1 hw.1 0 rfl rfl 21 (by decide) (hts (.fieldLink RX8 46 "DutyDeskModel" "duty" "[I") (List.mem_of_getElem? (i := 2) rfl)) (fun _ h9 => h9) rfl dX8_duty_87 ?_
            refine lv_iload hx hb dX8_duty_90 (lv_at hl 1 rfl) ?_
            refine lv_iload_n hx hb dX8_duty_92 rfl (lv_at hl 5 rfl) ?_
            obtain ⟨h_24, hf⟩ := gd_of hf
            refine va_iast hx hb hG.1 hw.1 hw.2.1 hw.2.2 11 1 (mw_atI (k := 11) rfl) rfl h_24 dX8_duty_93 (fun H locs hP hD hS => ?_)
            obtain ⟨S_25, eS_25⟩ : ∃ z : St, z = sM S_16 11 (x_12.toNatClampNeg) p3 := ⟨_, rfl⟩
            replace hf := bnd_of eS_25 hf
            have hw : Wd G A s H locs (mw G.2.1 a R S_25) := wd_eq (by rw [eS_25]; exact mw_upI (k := 11) rfl _) hP hD hS
            refine lv_iload hx hb dX8_duty_94 (lv_at hl 0 rfl) ?_
            have e_26 := Option.some.inj hf
            obtain ⟨rfl, rfl⟩ := Prod.mk.inj e_26
            exact wd_iret hx hb hr hlocks hw dX8_duty_96
          · replace hf := if_t c_23 hf
            refine lv_aload_n hx hb dX8_duty_74 rfl (lv_at hl 2 rfl) ?_
            refine va_get (D := G.1) (ci := 8) (v := .ref (a 11)) (C := RX8) (T := TX8) (N := 45) hx hb hts hin8 hown hG.1 hw.1 0 rfl rfl 21 (by decide) (hts (.fieldLink RX8 46 "DutyDeskModel" "duty" "[I") (List.mem_of_getElem? (i := 2) rfl)) (fun _ h9 => h9) rfl dX8_duty_75 ?_
            refine lv_iload hx hb dX8_duty_78 (lv_at hl 1 rfl) ?_
            refine lv_iload hx hb dX8_duty_80 (lv_at hl 0 rfl) ?_
            obtain ⟨h_27, hf⟩ := gd_of hf
            refine va_iast hx hb hG.1 hw.1 hw.2.1 hw.2.2 11 1 (mw_atI (k := 11) rfl) rfl h_27 dX8_duty_82 (fun H locs hP hD hS => ?_)
            obtain ⟨S_28, eS_28⟩ : ∃ z : St, z = sM S_16 11 (x_12.toNatClampNeg) x_14 := ⟨_, rfl⟩
            replace hf := bnd_of eS_28 hf
            have hw : Wd G A s H locs (mw G.2.1 a R S_28) := wd_eq (by rw [eS_28]; exact mw_upI (k := 11) rfl _) hP hD hS
            refine lv_bipush (v := (-4)) hx hb dX8_duty_83 (by decide) ?_
            have e_29 := Option.some.inj hf
            obtain ⟨rfl, rfl⟩ := Prod.mk.inj e_29
            exact wd_iret hx hb hr hlocks hw dX8_duty_85
      · replace hf := if_t c_11 hf
        refine lv_bipush (v := (-2)) hx hb dX8_duty_30 (by decide) ?_
        have e_30 := Option.some.inj hf
        obtain ⟨rfl, rfl⟩ := Prod.mk.inj e_30
        exact wd_iret hx hb hr hlocks hw dX8_duty_32
/-! DutyDeskModel.onDuty(II)I -/
def rm_X8_onDuty : Room := { frames := 2, cells := 0, slots := 0, locals := 42 }
def f_X8_onDuty (S : St) (p1 : Int32) (p2 : Int32) : Option (Int32) :=
  (f_X8_in p1 0 5).bind (fun r_2 => (if r_2 = 0 then
    some ((-2))
  else
    (f_X8_isDay p2).bind (fun r_6 => (if r_6 = 0 then
    some ((-2))
  else
    gd ((1000 * p1) + p2) 6000 (some ((gM S 11 ((1000 * p1) + p2).toNatClampNeg)))))))
set_option maxHeartbeats 4000000 in
set_option maxRecDepth 100000 in
theorem c_X8_onDuty (G : GP) (l : Launch) (a : Nat → Nat) (R : va_W) (S : St) (p1 : Int32) (p2 : Int32) (r0 : Int32) (hf : f_X8_onDuty S p1 p2 = some r0) : MC G l yX8_onDuty wsX8_onDuty rm_X8_onDuty [.ref (a 0), .int p1, .int p2] (mw G.2.1 a R S) (mw G.2.1 a R S) (some (.int r0)) 0 0 := by
  refine MC.mk (cc := cX8_onDuty) (maxL := 3) (ret := (some .int)) (by decide) rfl (Nat.le_of_ble_eq_true rfl) ?_
  intro p e s m below meth c A ls ⟨hx, hb, hr, hml, hown, hlocks, _, hts⟩ hw hG hA hl
  have hl : lv_has ls 3 [(0, .ref (a 0)), (1, .int p1), (2, .int p2)] := hl
  have hin8 : ∀ w ∈ u_ws RX8 TX8 45, w ∈ wsX8_onDuty := by decide +kernel
  rw [f_X8_onDuty] at hf
  refine lv_iload_n hx hb dX8_onDuty_0 rfl (lv_at hl 1 rfl) ?_
  refine lv_iconst (v := 0) hx hb dX8_onDuty_1 (by decide) ?_
  refine lv_iconst (v := 5) hx hb dX8_onDuty_2 (by decide) ?_
  obtain ⟨r_2, h_1, hf⟩ := bind_of hf
  refine cS (As := [.int p1, .int 0, .int 5]) (rest := []) ⟨hx, hb, hml, hown, hts⟩ hG hA hw (c_X8_in G l _ p1 0 5 r_2 h_1) (va_cwS 3 hts gX8_onDuty_X8_in rfl rfl rfl (by decide +kernel) ⟨Nat.le_of_ble_eq_true rfl, Nat.le_of_ble_eq_true rfl⟩) rfl hl.1 rfl (Nat.le_of_ble_eq_true rfl) dX8_onDuty_3 ⟨Nat.zero_le _, Nat.zero_le _⟩ (fun H locs hw => ?_)
  refine lv_if_eq (tgt := 31) hx hb dX8_onDuty_6 (by decide) (fun c_3 => ?_) (fun c_3 => ?_)
  · replace hf := if_t c_3 hf
    refine lv_bipush (v := (-2)) hx hb dX8_onDuty_31 (by decide) ?_
    have e_4 := Option.some.inj hf
    subst e_4
    exact wd_iret hx hb hr hlocks hw dX8_onDuty_33
  · replace hf := if_f c_3 hf
    refine lv_iload_n hx hb dX8_onDuty_9 rfl (lv_at hl 2 rfl) ?_
    obtain ⟨r_6, h_5, hf⟩ := bind_of hf
    refine cS (As := [.int p2]) (rest := []) ⟨hx, hb, hml, hown, hts⟩ hG hA hw (c_X8_isDay G l _ p2 r_6 h_5) (va_cwS 1 hts gX8_onDuty_X8_isDay rfl rfl rfl (by decide +kernel) ⟨Nat.le_of_ble_eq_true rfl, Nat.le_of_ble_eq_true rfl⟩) rfl hl.1 rfl (Nat.le_of_ble_eq_true rfl) dX8_onDuty_10 ⟨Nat.zero_le _, Nat.zero_le _⟩ (fun H locs hw => ?_)
    refine lv_if_eq (tgt := 31) hx hb dX8_onDuty_13 (by decide) (fun c_7 => ?_) (fun c_7 => ?_)
    · replace hf := if_t c_7 hf
      refine lv_bipush (v := (-2)) hx hb dX8_onDuty_31 (by decide) ?_
      have e_8 := Option.some.inj hf
      subst e_8
      exact wd_iret hx hb hr hlocks hw dX8_onDuty_33
    · replace hf := if_f c_7 hf
      refine lv_aload_n hx hb dX8_onDuty_16 rfl (lv_at hl 0 rfl) ?_
      refine va_get (D := G.1) (ci := 8) (v := .ref (a 11)) (C := RX8) (T := TX8) (N := 45) hx hb hts hin8 hown hG.1 hw.1 0 rfl rfl 21 (by decide) (hts (.fieldLink RX8 46 "DutyDeskModel" "duty" "[I") (List.mem_of_getElem? (i := 1) rfl)) (fun _ h9 => h9) rfl dX8_onDuty_17 ?_
      refine lv_sipush (v := 1000) hx hb dX8_onDuty_20 (by decide) ?_
      refine lv_iload_n hx hb dX8_onDuty_23 rfl (lv_at hl 1 rfl) ?_
      refine lv_imul hx hb dX8_onDuty_24 ?_
      refine lv_iload_n hx hb dX8_onDuty_25 rfl (lv_at hl 2 rfl) ?_
      refine lv_iadd hx hb dX8_onDuty_26 ?_
      obtain ⟨h_9, hf⟩ := gd_of hf
      refine va_iald hx hb hG.1 hw.1 11 1 (mw_atI (k := 11) rfl) rfl h_9 dX8_onDuty_27 ?_
      refine lv_goto (tgt := 33) hx hb dX8_onDuty_28 (by decide) ?_
      have e_10 := Option.some.inj hf
      subst e_10
      exact wd_iret hx hb hr hlocks hw dX8_onDuty_33
/-! DutyDeskModel.strike(II)I -/
def rm_X8_strike : Room := { frames := 4, cells := 0, slots := 0, locals := 91 }
def f_X8_strike_L99 (v_21 : Int32) (v_15 : Int32) (x_27 : Int32) (x_30 : Int32) (S_32 : St) : (Int32 × Int32) → Option ((Int32 × Int32) ⊕ ((Int32 × Int32 × St) ⊕ ((Int32 × Int32 × St) ⊕ (Int32 × St))))
  | (v_33, v_34) =>
  (if (gI S_32 10) ≤ v_34 then
    gd x_27 6000 (bnd (sM S_32 11 (x_27.toNatClampNeg) v_33) fun S_37 => bnd (v_21 + 1) fun x_38 => some (.inr (.inl (x_30, x_38, S_37))))
  else
    (f_X8_mayNight S_32 v_34 v_21 v_15).bind (fun r_42 => (if r_42 = 0 then
    bnd (v_34 + 1) fun x_44 => some (.inl (v_33, x_44))
  else
    (if v_33 = (-1) then
    bnd (v_34 + 1) fun x_47 => some (.inl (v_34, x_47))
  else
    (f_X8_duties S_32 v_34 999).bind (fun r_50 => (f_X8_duties S_32 v_33 999).bind (fun r_52 => (if r_52 ≤ r_50 then
    bnd (v_34 + 1) fun x_54 => some (.inl (v_33, x_54))
  else
    bnd (v_34 + 1) fun x_56 => some (.inl (v_34, x_56)))))))))
def f_X8_strike_L50 (v_15 : Int32) (p1 : Int32) : (Int32 × Int32 × St) → Option ((Int32 × Int32 × St) ⊕ ((Int32 × Int32 × St) ⊕ (Int32 × St)))
  | (v_20, v_21, S_22) =>
  (if 6 ≤ v_21 then
    bnd (v_15 + 1) fun x_24 => some (.inr (.inl (v_20, x_24, S_22)))
  else
    bnd ((1000 * v_21) + v_15) fun x_27 => gd x_27 6000 ((if (gM S_22 11 x_27.toNatClampNeg) = p1 then
    bnd (v_20 + 1) fun x_30 => gd x_27 6000 (bnd (sM S_22 11 (x_27.toNatClampNeg) (-1)) fun S_32 => loopF (f_X8_strike_L99 v_21 v_15 x_27 x_30 S_32) FU ((-1), 0))
  else
    bnd (v_21 + 1) fun x_58 => some (.inl (v_20, x_58, S_22)))))
def f_X8_strike_L39 (p1 : Int32) : (Int32 × Int32 × St) → Option ((Int32 × Int32 × St) ⊕ (Int32 × St))
  | (v_14, v_15, S_16) =>
  (if 1000 ≤ v_15 then
    some (.inr ((v_14, S_16)))
  else
    loopF (f_X8_strike_L50 v_15 p1) FU (v_14, 0, S_16))
def f_X8_strike (S : St) (p1 : Int32) (p2 : Int32) : Option (Int32 × St) :=
  (f_X8_isLawyer S p1).bind (fun r_2 => (if r_2 = 0 then
    some (((-2), S))
  else
    (f_X8_isDay p2).bind (fun r_6 => (if r_6 = 0 then
    some (((-2), S))
  else
    (f_X8_isStruck S p1 p2).bind (fun r_10 => (if r_10 = 0 then
    gd p1 24 (bnd (sM S 8 (p1.toNatClampNeg) p2) fun S_13 => loopF (f_X8_strike_L39 p1) FU (0, p2, S_13))
  else
    some (((-2), S))))))))
set_option maxHeartbeats 4000000 in
set_option maxRecDepth 100000 in
theorem c_X8_strike (G : GP) (l : Launch) (a : Nat → Nat) (R : va_W) (S : St) (p1 : Int32) (p2 : Int32) (r0 : Int32) (S9 : St) (hf : f_X8_strike S p1 p2 = some (r0, S9)) : MC G l yX8_strike wsX8_strike rm_X8_strike [.ref (a 0), .int p1, .int p2] (mw G.2.1 a R S) (mw G.2.1 a R S9) (some (.int r0)) 0 0 := by
  refine MC.mk (cc := cX8_strike) (maxL := 9) (ret := (some .int)) (by decide) rfl (Nat.le_of_ble_eq_true rfl) ?_
  intro p e s m below meth c A ls ⟨hx, hb, hr, hml, hown, hlocks, _, hts⟩ hw hG hA hl
  have hl : lv_has ls 9 [(0, .ref (a 0)), (1, .int p1), (2, .int p2)] := hl
  have hin8 : ∀ w ∈ u_ws RX8 TX8 45, w ∈ wsX8_strike := by decide +kernel
  rw [f_X8_strike] at hf
  refine lv_aload_n hx hb dX8_strike_0 rfl (lv_at hl 0 rfl) ?_
  refine lv_iload_n hx hb dX8_strike_1 rfl (lv_at hl 1 rfl) ?_
  obtain ⟨r_2, h_1, hf⟩ := bind_of hf
  refine cV (As := [.int p1]) (rest := []) ⟨hx, hb, hml, hown, hts⟩ hG hA hw (c_X8_isLawyer G l a R S p1 r_2 h_1) (cwV 1 hts gX8_strike_X8_isLawyer rfl rfl rfl (by decide +kernel) ⟨Nat.le_of_ble_eq_true rfl, Nat.le_of_ble_eq_true rfl⟩) (va_recv hG.1 hw.1 (ci := 8) (q0 := 0) rfl rfl) rfl hl.1 rfl (Nat.le_of_ble_eq_true rfl) dX8_strike_2 ⟨Nat.zero_le _, Nat.zero_le _⟩ (fun H locs hw => ?_)
  refine lv_if_eq (tgt := 24) hx hb dX8_strike_5 (by decide) (fun c_3 => ?_) (fun c_3 => ?_)
  · replace hf := if_t c_3 hf
    refine lv_bipush (v := (-2)) hx hb dX8_strike_24 (by decide) ?_
    have e_4 := Option.some.inj hf
    obtain ⟨rfl, rfl⟩ := Prod.mk.inj e_4
    exact wd_iret hx hb hr hlocks hw dX8_strike_26
  · replace hf := if_f c_3 hf
    refine lv_iload_n hx hb dX8_strike_8 rfl (lv_at hl 2 rfl) ?_
    obtain ⟨r_6, h_5, hf⟩ := bind_of hf
    refine cS (As := [.int p2]) (rest := []) ⟨hx, hb, hml, hown, hts⟩ hG hA hw (c_X8_isDay G l _ p2 r_6 h_5) (va_cwS 1 hts gX8_strike_X8_isDay rfl rfl rfl (by decide +kernel) ⟨Nat.le_of_ble_eq_true rfl, Nat.le_of_ble_eq_true rfl⟩) rfl hl.1 rfl (Nat.le_of_ble_eq_true rfl) dX8_strike_9 ⟨Nat.zero_le _, Nat.zero_le _⟩ (fun H locs hw => ?_)
    refine lv_if_eq (tgt := 24) hx hb dX8_strike_12 (by decide) (fun c_7 => ?_) (fun c_7 => ?_)
    · replace hf := if_t c_7 hf
      refine lv_bipush (v := (-2)) hx hb dX8_strike_24 (by decide) ?_
      have e_8 := Option.some.inj hf
      obtain ⟨rfl, rfl⟩ := Prod.mk.inj e_8
      exact wd_iret hx hb hr hlocks hw dX8_strike_26
    · replace hf := if_f c_7 hf
      refine lv_aload_n hx hb dX8_strike_15 rfl (lv_at hl 0 rfl) ?_
      refine lv_iload_n hx hb dX8_strike_16 rfl (lv_at hl 1 rfl) ?_
      refine lv_iload_n hx hb dX8_strike_17 rfl (lv_at hl 2 rfl) ?_
      obtain ⟨r_10, h_9, hf⟩ := bind_of hf
      refine cV (As := [.int p1, .int p2]) (rest := []) ⟨hx, hb, hml, hown, hts⟩ hG hA hw (c_X8_isStruck G l a R S p1 p2 r_10 h_9) (cwV 2 hts gX8_strike_X8_isStruck rfl rfl rfl (by decide +kernel) ⟨Nat.le_of_ble_eq_true rfl, Nat.le_of_ble_eq_true rfl⟩) (va_recv hG.1 hw.1 (ci := 8) (q0 := 0) rfl rfl) rfl hl.1 rfl (Nat.le_of_ble_eq_true rfl) dX8_strike_18 ⟨Nat.zero_le _, Nat.zero_le _⟩ (fun H locs hw => ?_)
      refine lv_if_eq (tgt := 27) hx hb dX8_strike_21 (by decide) (fun c_11 => ?_) (fun c_11 => ?_)
      · replace hf := if_t c_11 hf
        refine lv_aload_n hx hb dX8_strike_27 rfl (lv_at hl 0 rfl) ?_
        refine va_get (D := G.1) (ci := 8) (v := .ref (a 8)) (C := RX8) (T := TX8) (N := 45) hx hb hts hin8 hown hG.1 hw.1 0 rfl rfl 18 (by decide) (hts (.fieldLink RX8 37 "DutyDeskModel" "struck" "[I") (List.mem_of_getElem? (i := 1) rfl)) (fun _ h9 => h9) rfl dX8_strike_28 ?_
        refine lv_iload_n hx hb dX8_strike_31 rfl (lv_at hl 1 rfl) ?_
        refine lv_iload_n hx hb dX8_strike_32 rfl (lv_at hl 2 rfl) ?_
        obtain ⟨h_12, hf⟩ := gd_of hf
        refine va_iast hx hb hG.1 hw.1 hw.2.1 hw.2.2 8 1 (mw_atI (k := 8) rfl) rfl h_12 dX8_strike_33 (fun H locs hP hD hS => ?_)
        obtain ⟨S_13, eS_13⟩ : ∃ z : St, z = sM S 8 (p1.toNatClampNeg) p2 := ⟨_, rfl⟩
        replace hf := bnd_of eS_13 hf
        have hw : Wd G A s H locs (mw G.2.1 a R S_13) := wd_eq (by rw [eS_13]; exact mw_upI (k := 8) rfl _) hP hD hS
        refine lv_iconst (v := 0) hx hb dX8_strike_34 (by decide) ?_
        refine lv_istore_n (lv' := [(3, .int 0), (0, .ref (a 0)), (1, .int p1), (2, .int p2)]) hx hb dX8_strike_35 rfl hl (by decide) rfl (fun ls hl => ?_)
        refine lv_iload_n hx hb dX8_strike_36 rfl (lv_at hl 3 rfl) ?_
        refine lv_istore (lv' := [(4, .int p2), (3, .int 0), (0, .ref (a 0)), (1, .int p1), (2, .int p2)]) hx hb dX8_strike_37 hl (by decide) rfl (fun ls hl => ?_)
        refine loopF_ind (body := f_X8_strike_L39 p1) (fun (q : Int32 × Int32 × St) => match q with | (v_14, v_15, S_16) => ∀ (H : Heap) (locs : List Loc) (ls : Array Slot), Wd G A s H locs (mw G.2.1 a R S_16) → lv_has ls 9 [(0, .ref (a 0)), (1, .int p1), (3, .int v_14), (4, .int v_15)] → WQ p l e rm_X8_strike s m [.ref (a 0), .int p1, .int p2] below meth c G A (mw G.2.1 a R S9) (some (.int r0)) 0 0 H locs 0 0 (F0 m 39 ls [])) ?_ FU (0, p2, S_13) hf _ _ _ hw (lv_sub hl [2, 3, 1, 0] rfl)
        clear hf hw hl
        intro ⟨v_14, v_15, S_16⟩ t0_39 hf hz1_0_39 hz2_0_39 H locs ls hw hl
        rw [f_X8_strike_L39] at hf
        refine lv_iload hx hb dX8_strike_39 (lv_at hl 3 rfl) ?_
        refine lv_sipush (v := 1000) hx hb dX8_strike_41 (by decide) ?_
        refine lv_icmp_ge (tgt := 179) hx hb dX8_strike_44 (by decide) (fun c_17 => ?_) (fun c_17 => ?_)
        · replace hf := if_t c_17 hf
          refine lv_iload_n hx hb dX8_strike_179 rfl (lv_at hl 2 rfl) ?_
          have e_18 := Option.some.inj hf
          have e_19 := hz2_0_39 _ e_18.symm
          obtain ⟨rfl, rfl⟩ := Prod.mk.inj e_19
          exact wd_iret hx hb hr hlocks hw dX8_strike_180
        · replace hf := if_f c_17 hf
          refine lv_iconst (v := 0) hx hb dX8_strike_47 (by decide) ?_
          refine lv_istore (lv' := [(5, .int 0), (0, .ref (a 0)), (1, .int p1), (3, .int v_14), (4, .int v_15)]) hx hb dX8_strike_48 hl (by decide) rfl (fun ls hl => ?_)
          refine loopF_ind (body := f_X8_strike_L50 v_15 p1) (fun (q : Int32 × Int32 × St) => match q with | (v_20, v_21, S_22) => ∀ (H : Heap) (locs : List Loc) (ls : Array Slot), Wd G A s H locs (mw G.2.1 a R S_22) → lv_has ls 9 [(0, .ref (a 0)), (1, .int p1), (3, .int v_20), (4, .int v_15), (5, .int v_21)] → WQ p l e rm_X8_strike s m [.ref (a 0), .int p1, .int p2] below meth c G A (mw G.2.1 a R S9) (some (.int r0)) 0 0 H locs 0 0 (F0 m 50 ls [])) ?_ FU (v_14, 0, S_16) hf _ _ _ hw (lv_sub hl [1, 2, 3, 4, 0] rfl)
          clear hf hw hl
          intro ⟨v_20, v_21, S_22⟩ t1_50 hf hz1_1_50 hz2_1_50 H locs ls hw hl
          rw [f_X8_strike_L50] at hf
          refine lv_iload hx hb dX8_strike_50 (lv_at hl 4 rfl) ?_
          refine lv_bipush (v := 6) hx hb dX8_strike_52 (by decide) ?_
          refine lv_icmp_ge (tgt := 173) hx hb dX8_strike_54 (by decide) (fun c_23 => ?_) (fun c_23 => ?_)
          · replace hf := if_t c_23 hf
            obtain ⟨x_24, ex_24⟩ : ∃ z : Int32, z = v_15 + 1 := ⟨_, rfl⟩
            replace hf := bnd_of ex_24 hf
            refine lv_iinc (v := x_24) (lv' := [(4, .int x_24), (0, .ref (a 0)), (1, .int p1), (3, .int v_20), (5, .int v_21)]) hx hb dX8_strike_173 hl (k := 3) rfl (by rw [ex_24]; rfl) (by decide) rfl (fun ls hl => ?_)
            refine lv_goto (tgt := 39) hx hb dX8_strike_176 (by decide) ?_
            have e_25 := Option.some.inj hf
            have e_26 := hz2_1_50 _ e_25.symm
            exact hz1_0_39 _ e_26.symm _ _ _ hw (lv_sub hl [1, 2, 3, 0] rfl)
          · replace hf := if_f c_23 hf
            refine lv_sipush (v := 1000) hx hb dX8_strike_57 (by decide) ?_
            refine lv_iload hx hb dX8_strike_60 (lv_at hl 4 rfl) ?_
            refine lv_imul hx hb dX8_strike_62 ?_
            refine lv_iload hx hb dX8_strike_63 (lv_at hl 3 rfl) ?_
            refine lv_iadd hx hb dX8_strike_65 ?_
            refine lv_topi (fun x_27 ex_27 => ?_)
            replace hf := bnd_of ex_27 hf
            refine lv_istore (lv' := [(6, .int x_27), (0, .ref (a 0)), (1, .int p1), (3, .int v_20), (4, .int v_15), (5, .int v_21)]) hx hb dX8_strike_66 hl (by decide) rfl (fun ls hl => ?_)
            refine lv_aload_n hx hb dX8_strike_68 rfl (lv_at hl 1 rfl) ?_
            refine va_get (D := G.1) (ci := 8) (v := .ref (a 11)) (C := RX8) (T := TX8) (N := 45) hx hb hts hin8 hown hG.1 hw.1 0 rfl rfl 21 (by decide) (hts (.fieldLink RX8 46 "DutyDeskModel" "duty" "[I") (List.mem_of_getElem? (i := 2) rfl)) (fun _ h9 => h9) rfl dX8_strike_69 ?_
            refine lv_iload hx hb dX8_strike_72 (lv_at hl 0 rfl) ?_
            obtain ⟨h_28, hf⟩ := gd_of hf
            refine va_iald hx hb hG.1 hw.1 11 1 (mw_atI (k := 11) rfl) rfl h_28 dX8_strike_74 ?_
            refine lv_iload_n hx hb dX8_strike_75 rfl (lv_at hl 2 rfl) ?_
            refine lv_icmp_eq (tgt := 82) hx hb dX8_strike_76 (by decide) (fun c_29 => ?_) (fun c_29 => ?_)
            · replace hf := if_t c_29 hf
              obtain ⟨x_30, ex_30⟩ : ∃ z : Int32, z = v_20 + 1 := ⟨_, rfl⟩
              replace hf := bnd_of ex_30 hf
              refine lv_iinc (v := x_30) (lv' := [(3, .int x_30), (6, .int x_27), (0, .ref (a 0)), (1, .int p1), (4, .int v_15), (5, .int v_21)]) hx hb dX8_strike_82 hl (k := 3) rfl (by rw [ex_30]; rfl) (by decide) rfl (fun ls hl => ?_)
              refine lv_aload_n hx hb dX8_strike_85 rfl (lv_at hl 2 rfl) ?_
              refine va_get (D := G.1) (ci := 8) (v := .ref (a 11)) (C := RX8) (T := TX8) (N := 45) hx hb hts hin8 hown hG.1 hw.1 0 rfl rfl 21 (by decide) (hts (.fieldLink RX8 46 "DutyDeskModel" "duty" "[I") (List.mem_of_getElem? (i := 2) rfl)) (fun _ h9 => h9) rfl dX8_strike_86 ?_
              refine lv_iload hx hb dX8_strike_89 (lv_at hl 1 rfl) ?_
              refine lv_iconst (v := (-1)) hx hb dX8_strike_91 (by decide) ?_
              obtain ⟨h_31, hf⟩ := gd_of hf
              refine va_iast hx hb hG.1 hw.1 hw.2.1 hw.2.2 11 1 (mw_atI (k := 11) rfl) rfl h_31 dX8_strike_92 (fun H locs hP hD hS => ?_)
              obtain ⟨S_32, eS_32⟩ : ∃ z : St, z = sM S_22 11 (x_27.toNatClampNeg) (-1) := ⟨_, rfl⟩
              replace hf := bnd_of eS_32 hf
              have hw : Wd G A s H locs (mw G.2.1 a R S_32) := wd_eq (by rw [eS_32]; exact mw_upI (k := 11) rfl _) hP hD hS
              refine lv_iconst (v := (-1)) hx hb dX8_strike_93 (by decide) ?_
              refine lv_istore (lv' := [(7, .int (-1)), (3, .int x_30), (6, .int x_27), (0, .ref (a 0)), (1, .int p1), (4, .int v_15), (5, .int v_21)]) hx hb dX8_strike_94 hl (by decide) rfl (fun ls hl => ?_)
              refine lv_iconst (v := 0) hx hb dX8_strike_96 (by decide) ?_
              refine lv_istore (lv' := [(8, .int 0), (7, .int (-1)), (3, .int x_30), (6, .int x_27), (0, .ref (a 0)), (1, .int p1), (4, .int v_15), (5, .int v_21)]) hx hb dX8_strike_97 hl (by decide) rfl (fun ls hl => ?_)
              refine loopF_ind (body := f_X8_strike_L99 v_21 v_15 x_27 x_30 S_32) (fun (q : Int32 × Int32) => match q with | (v_33, v_34) => ∀ (H : Heap) (locs : List Loc) (ls : Array Slot), Wd G A s H locs (mw G.2.1 a R S_32) → lv_has ls 9 [(0, .ref (a 0)), (1, .int p1), (3, .int x_30), (4, .int v_15), (5, .int v_21), (6, .int x_27), (7, .int v_33), (8, .int v_34)] → WQ p l e rm_X8_strike s m [.ref (a 0), .int p1, .int p2] below meth c G A (mw G.2.1 a R S9) (some (.int r0)) 0 0 H locs 0 0 (F0 m 99 ls [])) ?_ FU ((-1), 0) hf _ _ _ hw (lv_sub hl [4, 5, 2, 6, 7, 3, 1, 0] rfl)
              clear hf hw hl
              intro ⟨v_33, v_34⟩ t2_99 hf hz1_2_99 hz2_2_99 H locs ls hw hl
              rw [f_X8_strike_L99] at hf
              refine lv_iload hx hb dX8_strike_99 (lv_at hl 7 rfl) ?_
              refine lv_aload_n hx hb dX8_strike_101 rfl (lv_at hl 0 rfl) ?_
              refine va_get (D := G.1) (ci := 8) (v := .int (gI S_32 10)) (C := RX8) (T := TX8) (N := 45) hx hb hts hin8 hown hG.1 hw.1 0 rfl rfl 14 (by decide) (hts (.fieldLink RX8 189 "DutyDeskModel" "lawyers" "I") (List.mem_of_getElem? (i := 3) rfl)) (fun _ h9 => h9) rfl dX8_strike_102 ?_
              refine lv_icmp_ge (tgt := 158) hx hb dX8_strike_105 (by decide) (fun c_35 => ?_) (fun c_35 => ?_)
              · replace hf := if_t c_35 hf
                refine lv_aload_n hx hb dX8_strike_158 rfl (lv_at hl 0 rfl) ?_
                refine va_get (D := G.1) (ci := 8) (v := .ref (a 11)) (C := RX8) (T := TX8) (N := 45) hx hb hts hin8 hown hG.1 hw.1 0 rfl rfl 21 (by decide) (hts (.fieldLink RX8 46 "DutyDeskModel" "duty" "[I") (List.mem_of_getElem? (i := 2) rfl)) (fun _ h9 => h9) rfl dX8_strike_159 ?_
                refine lv_iload hx hb dX8_strike_162 (lv_at hl 5 rfl) ?_
                refine lv_iload hx hb dX8_strike_164 (lv_at hl 6 rfl) ?_
                obtain ⟨h_36, hf⟩ := gd_of hf
                refine va_iast hx hb hG.1 hw.1 hw.2.1 hw.2.2 11 1 (mw_atI (k := 11) rfl) rfl h_36 dX8_strike_166 (fun H locs hP hD hS => ?_)
                obtain ⟨S_37, eS_37⟩ : ∃ z : St, z = sM S_32 11 (x_27.toNatClampNeg) v_33 := ⟨_, rfl⟩
                replace hf := bnd_of eS_37 hf
                have hw : Wd G A s H locs (mw G.2.1 a R S_37) := wd_eq (by rw [eS_37]; exact mw_upI (k := 11) rfl _) hP hD hS
                obtain ⟨x_38, ex_38⟩ : ∃ z : Int32, z = v_21 + 1 := ⟨_, rfl⟩
                replace hf := bnd_of ex_38 hf
                refine lv_iinc (v := x_38) (lv' := [(5, .int x_38), (0, .ref (a 0)), (1, .int p1), (3, .int x_30), (4, .int v_15), (6, .int x_27), (7, .int v_33), (8, .int v_34)]) hx hb dX8_strike_167 hl (k := 4) rfl (by rw [ex_38]; rfl) (by decide) rfl (fun ls hl => ?_)
                refine lv_goto (tgt := 50) hx hb dX8_strike_170 (by decide) ?_
                have e_39 := Option.some.inj hf
                have e_40 := hz2_2_99 _ e_39.symm
                exact hz1_1_50 _ e_40.symm _ _ _ hw (lv_sub hl [1, 2, 3, 4, 0] rfl)
              · replace hf := if_f c_35 hf
                refine lv_aload_n hx hb dX8_strike_108 rfl (lv_at hl 0 rfl) ?_
                refine lv_iload hx hb dX8_strike_109 (lv_at hl 7 rfl) ?_
                refine lv_iload hx hb dX8_strike_111 (lv_at hl 4 rfl) ?_
                refine lv_iload hx hb dX8_strike_113 (lv_at hl 3 rfl) ?_
                obtain ⟨r_42, h_41, hf⟩ := bind_of hf
                refine cV (As := [.int v_34, .int v_21, .int v_15]) (rest := []) ⟨hx, hb, hml, hown, hts⟩ hG hA hw (c_X8_mayNight G l a R S_32 v_34 v_21 v_15 r_42 h_41) (cwV 3 hts gX8_strike_X8_mayNight rfl rfl rfl (by decide +kernel) ⟨Nat.le_of_ble_eq_true rfl, Nat.le_of_ble_eq_true rfl⟩) (va_recv hG.1 hw.1 (ci := 8) (q0 := 0) rfl rfl) rfl hl.1 rfl (Nat.le_of_ble_eq_true rfl) dX8_strike_115 ⟨Nat.zero_le _, Nat.zero_le _⟩ (fun H locs hw => ?_)
                refine lv_if_eq (tgt := 152) hx hb dX8_strike_118 (by decide) (fun c_43 => ?_) (fun c_43 => ?_)
                · replace hf := if_t c_43 hf
                  obtain ⟨x_44, ex_44⟩ : ∃ z : Int32, z = v_34 + 1 := ⟨_, rfl⟩
                  replace hf := bnd_of ex_44 hf
                  refine lv_iinc (v := x_44) (lv' := [(8, .int x_44), (0, .ref (a 0)), (1, .int p1), (3, .int x_30), (4, .int v_15), (5, .int v_21), (6, .int x_27), (7, .int v_33)]) hx hb dX8_strike_152 hl (k := 7) rfl (by rw [ex_44]; rfl) (by decide) rfl (fun ls hl => ?_)
                  refine lv_goto (tgt := 99) hx hb dX8_strike_155 (by decide) ?_
                  have e_45 := Option.some.inj hf
                  exact hz1_2_99 _ e_45.symm _ _ _ hw (lv_sub hl [1, 2, 3, 4, 5, 6, 7, 0] rfl)
                · replace hf := if_f c_43 hf
                  refine lv_iload hx hb dX8_strike_121 (lv_at hl 6 rfl) ?_
                  refine lv_iconst (v := (-1)) hx hb dX8_strike_123 (by decide) ?_
                  refine lv_icmp_eq (tgt := 148) hx hb dX8_strike_124 (by decide) (fun c_46 => ?_) (fun c_46 => ?_)
                  · replace hf := if_t c_46 hf
                    refine lv_iload hx hb dX8_strike_148 (lv_at hl 7 rfl) ?_
                    refine lv_istore (lv' := [(7, .int v_34), (0, .ref (a 0)), (1, .int p1), (3, .int x_30), (4, .int v_15), (5, .int v_21), (6, .int x_27), (8, .int v_34)]) hx hb dX8_strike_150 hl (by decide) rfl (fun ls hl => ?_)
                    obtain ⟨x_47, ex_47⟩ : ∃ z : Int32, z = v_34 + 1 := ⟨_, rfl⟩
                    replace hf := bnd_of ex_47 hf
                    refine lv_iinc (v := x_47) (lv' := [(8, .int x_47), (7, .int v_34), (0, .ref (a 0)), (1, .int p1), (3, .int x_30), (4, .int v_15), (5, .int v_21), (6, .int x_27)]) hx hb dX8_strike_152 hl (k := 7) rfl (by rw [ex_47]; rfl) (by decide) rfl (fun ls hl => ?_)
                    refine lv_goto (tgt := 99) hx hb dX8_strike_155 (by decide) ?_
                    have e_48 := Option.some.inj hf
                    exact hz1_2_99 _ e_48.symm _ _ _ hw (lv_sub hl [2, 3, 4, 5, 6, 7, 1, 0] rfl)
                  · replace hf := if_f c_46 hf
                    refine lv_aload_n hx hb dX8_strike_127 rfl (lv_at hl 0 rfl) ?_
                    refine lv_iload hx hb dX8_strike_128 (lv_at hl 7 rfl) ?_
                    refine lv_sipush (v := 999) hx hb dX8_strike_130 (by decide) ?_
                    obtain ⟨r_50, h_49, hf⟩ := bind_of hf
                    refine cV (As := [.int v_34, .int 999]) (rest := []) ⟨hx, hb, hml, hown, hts⟩ hG hA hw (c_X8_duties G l a R S_32 v_34 999 r_50 h_49) (cwV 2 hts gX8_strike_X8_duties rfl rfl rfl (by decide +kernel) ⟨Nat.le_of_ble_eq_true rfl, Nat.le_of_ble_eq_true rfl⟩) (va_recv hG.1 hw.1 (ci := 8) (q0 := 0) rfl rfl) rfl hl.1 rfl (Nat.le_of_ble_eq_true rfl) dX8_strike_133 ⟨Nat.zero_le _, Nat.zero_le _⟩ (fun H locs hw => ?_)
                    refine lv_aload_n hx hb dX8_strike_136 rfl (lv_at hl 0 rfl) ?_
                    refine lv_iload hx hb dX8_strike_137 (lv_at hl 6 rfl) ?_
                    refine lv_sipush (v := 999) hx hb dX8_strike_139 (by decide) ?_
                    obtain ⟨r_52, h_51, hf⟩ := bind_of hf
                    refine cV (As := [.int v_33, .int 999]) (rest := [.int r_50]) ⟨hx, hb, hml, hown, hts⟩ hG hA hw (c_X8_duties G l a R S_32 v_33 999 r_52 h_51) (cwV 2 hts gX8_strike_X8_duties rfl rfl rfl (by decide +kernel) ⟨Nat.le_of_ble_eq_true rfl, Nat.le_of_ble_eq_true rfl⟩) (va_recv hG.1 hw.1 (ci := 8) (q0 := 0) rfl rfl) rfl hl.1 rfl (Nat.le_of_ble_eq_true rfl) dX8_strike_142 ⟨Nat.zero_le _, Nat.zero_le _⟩ (fun H locs hw => ?_)
                    refine lv_icmp_ge (tgt := 152) hx hb dX8_strike_145 (by decide) (fun c_53 => ?_) (fun c_53 => ?_)
                    · replace hf := if_t c_53 hf
                      obtain ⟨x_54, ex_54⟩ : ∃ z : Int32, z = v_34 + 1 := ⟨_, rfl⟩
                      replace hf := bnd_of ex_54 hf
                      refine lv_iinc (v := x_54) (lv' := [(8, .int x_54), (0, .ref (a 0)), (1, .int p1), (3, .int x_30), (4, .int v_15), (5, .int v_21), (6, .int x_27), (7, .int v_33)]) hx hb dX8_strike_152 hl (k := 7) rfl (by rw [ex_54]; rfl) (by decide) rfl (fun ls hl => ?_)
                      refine lv_goto (tgt := 99) hx hb dX8_strike_155 (by decide) ?_
                      have e_55 := Option.some.inj hf
                      exact hz1_2_99 _ e_55.symm _ _ _ hw (lv_sub hl [1, 2, 3, 4, 5, 6, 7, 0] rfl)
                    · replace hf := if_f c_53 hf
                      refine lv_iload hx hb dX8_strike_148 (lv_at hl 7 rfl) ?_
                      refine lv_istore (lv' := [(7, .int v_34), (0, .ref (a 0)), (1, .int p1), (3, .int x_30), (4, .int v_15), (5, .int v_21), (6, .int x_27), (8, .int v_34)]) hx hb dX8_strike_150 hl (by decide) rfl (fun ls hl => ?_)
                      obtain ⟨x_56, ex_56⟩ : ∃ z : Int32, z = v_34 + 1 := ⟨_, rfl⟩
                      replace hf := bnd_of ex_56 hf
                      refine lv_iinc (v := x_56) (lv' := [(8, .int x_56), (7, .int v_34), (0, .ref (a 0)), (1, .int p1), (3, .int x_30), (4, .int v_15), (5, .int v_21), (6, .int x_27)]) hx hb dX8_strike_152 hl (k := 7) rfl (by rw [ex_56]; rfl) (by decide) rfl (fun ls hl => ?_)
                      refine lv_goto (tgt := 99) hx hb dX8_strike_155 (by decide) ?_
                      have e_57 := Option.some.inj hf
                      exact hz1_2_99 _ e_57.symm _ _ _ hw (lv_sub hl [2, 3, 4, 5, 6, 7, 1, 0] rfl)
            · replace hf := if_f c_29 hf
              refine lv_goto (tgt := 167) hx hb dX8_strike_79 (by decide) ?_
              obtain ⟨x_58, ex_58⟩ : ∃ z : Int32, z = v_21 + 1 := ⟨_, rfl⟩
              replace hf := bnd_of ex_58 hf
              refine lv_iinc (v := x_58) (lv' := [(5, .int x_58), (6, .int x_27), (0, .ref (a 0)), (1, .int p1), (3, .int v_20), (4, .int v_15)]) hx hb dX8_strike_167 hl (k := 5) rfl (by rw [ex_58]; rfl) (by decide) rfl (fun ls hl => ?_)
              refine lv_goto (tgt := 50) hx hb dX8_strike_170 (by decide) ?_
              have e_59 := Option.some.inj hf
              exact hz1_1_50 _ e_59.symm _ _ _ hw (lv_sub hl [2, 3, 4, 5, 0] rfl)
      · replace hf := if_f c_11 hf
        refine lv_bipush (v := (-2)) hx hb dX8_strike_24 (by decide) ?_
        have e_60 := Option.some.inj hf
        obtain ⟨rfl, rfl⟩ := Prod.mk.inj e_60
        exact wd_iret hx hb hr hlocks hw dX8_strike_26
/-! DutyDeskModel.floor(II)I -/
def rm_X8_floor : Room := { frames := 0, cells := 0, slots := 0, locals := 0 }
def f_X8_floor_L6 (S : St) (p1 : Int32) (p2 : Int32) : (Int32 × Int32) → Option ((Int32 × Int32) ⊕ (Int32))
  | (v_1, v_2) =>
  (if (gI S 10) ≤ v_2 then
    bnd (p1 - p2) fun x_4 => (if x_4 ≤ 0 then
    some (.inr (0))
  else
    (if (gI S 10) = 0 then
    some (.inr (0))
  else
    some (.inr ((x_4 * ((2 * v_1) + 1))))))
  else
    gd v_2 24 ((if v_1 ≤ (gM S 14 v_2.toNatClampNeg) then
    bnd (v_2 + 1) fun x_15 => some (.inl (v_1, x_15))
  else
    gd v_2 24 (bnd (gM S 14 v_2.toNatClampNeg) fun x_18 => bnd (v_2 + 1) fun x_19 => some (.inl (x_18, x_19))))))
def f_X8_floor (S : St) (p1 : Int32) (p2 : Int32) : Option (Int32) :=
  loopF (f_X8_floor_L6 S p1 p2) FU (1000000, 0)
set_option maxHeartbeats 4000000 in
set_option maxRecDepth 100000 in
theorem c_X8_floor (G : GP) (l : Launch) (a : Nat → Nat) (R : va_W) (S : St) (p1 : Int32) (p2 : Int32) (r0 : Int32) (hf : f_X8_floor S p1 p2 = some r0) : MC G l yX8_floor wsX8_floor rm_X8_floor [.ref (a 0), .int p1, .int p2] (mw G.2.1 a R S) (mw G.2.1 a R S) (some (.int r0)) 0 0 := by
  refine MC.mk (cc := cX8_floor) (maxL := 5) (ret := (some .int)) (by decide) rfl (Nat.le_of_ble_eq_true rfl) ?_
  intro p e s m below meth c A ls ⟨hx, hb, hr, hml, hown, hlocks, _, hts⟩ hw hG hA hl
  have hl : lv_has ls 5 [(0, .ref (a 0)), (1, .int p1), (2, .int p2)] := hl
  have hin8 : ∀ w ∈ u_ws RX8 TX8 45, w ∈ wsX8_floor := by decide +kernel
  rw [f_X8_floor] at hf
  refine lv_ldc (v := 1000000) hx hb hown (hts (.constant RX8 227 (1000000)) (List.mem_of_getElem? (i := 1) rfl)) dX8_floor_0 ?_
  refine lv_istore_n (lv' := [(3, .int 1000000), (0, .ref (a 0)), (1, .int p1), (2, .int p2)]) hx hb dX8_floor_2 rfl hl (by decide) rfl (fun ls hl => ?_)
  refine lv_iconst (v := 0) hx hb dX8_floor_3 (by decide) ?_
  refine lv_istore (lv' := [(4, .int 0), (3, .int 1000000), (0, .ref (a 0)), (1, .int p1), (2, .int p2)]) hx hb dX8_floor_4 hl (by decide) rfl (fun ls hl => ?_)
  refine loopF_ind (body := f_X8_floor_L6 S p1 p2) (fun (q : Int32 × Int32) => match q with | (v_1, v_2) => ∀ (H : Heap) (locs : List Loc) (ls : Array Slot), Wd G A s H locs (mw G.2.1 a R S) → lv_has ls 5 [(0, .ref (a 0)), (1, .int p1), (2, .int p2), (3, .int v_1), (4, .int v_2)] → WQ p l e rm_X8_floor s m [.ref (a 0), .int p1, .int p2] below meth c G A (mw G.2.1 a R S) (some (.int r0)) 0 0 H locs 0 0 (F0 m 6 ls [])) ?_ FU (1000000, 0) hf _ _ _ hw (lv_sub hl [2, 3, 4, 1, 0] rfl)
  clear hf hw hl
  intro ⟨v_1, v_2⟩ t0_6 hf hz1_0_6 hz2_0_6 H locs ls hw hl
  rw [f_X8_floor_L6] at hf
  refine lv_iload hx hb dX8_floor_6 (lv_at hl 4 rfl) ?_
  refine lv_aload_n hx hb dX8_floor_8 rfl (lv_at hl 0 rfl) ?_
  refine va_get (D := G.1) (ci := 8) (v := .int (gI S 10)) (C := RX8) (T := TX8) (N := 45) hx hb hts hin8 hown hG.1 hw.1 0 rfl rfl 14 (by decide) (hts (.fieldLink RX8 189 "DutyDeskModel" "lawyers" "I") (List.mem_of_getElem? (i := 2) rfl)) (fun _ h9 => h9) rfl dX8_floor_9 ?_
  refine lv_icmp_ge (tgt := 44) hx hb dX8_floor_12 (by decide) (fun c_3 => ?_) (fun c_3 => ?_)
  · replace hf := if_t c_3 hf
    refine lv_iload_n hx hb dX8_floor_44 rfl (lv_at hl 1 rfl) ?_
    refine lv_iload_n hx hb dX8_floor_45 rfl (lv_at hl 2 rfl) ?_
    refine lv_isub hx hb dX8_floor_46 ?_
    refine lv_topi (fun x_4 ex_4 => ?_)
    replace hf := bnd_of ex_4 hf
    refine lv_istore (lv' := [(4, .int x_4), (0, .ref (a 0)), (1, .int p1), (2, .int p2), (3, .int v_1)]) hx hb dX8_floor_47 hl (by decide) rfl (fun ls hl => ?_)
    refine lv_iload hx hb dX8_floor_49 (lv_at hl 0 rfl) ?_
    refine lv_if_le (tgt := 61) hx hb dX8_floor_51 (by decide) (fun c_5 => ?_) (fun c_5 => ?_)
    · replace hf := if_t c_5 hf
      refine lv_iconst (v := 0) hx hb dX8_floor_61 (by decide) ?_
      refine lv_goto (tgt := 73) hx hb dX8_floor_62 (by decide) ?_
      have e_6 := Option.some.inj hf
      have e_7 := hz2_0_6 _ e_6.symm
      subst e_7
      exact wd_iret hx hb hr hlocks hw dX8_floor_73
    · replace hf := if_f c_5 hf
      refine lv_aload_n hx hb dX8_floor_54 rfl (lv_at hl 1 rfl) ?_
      refine va_get (D := G.1) (ci := 8) (v := .int (gI S 10)) (C := RX8) (T := TX8) (N := 45) hx hb hts hin8 hown hG.1 hw.1 0 rfl rfl 14 (by decide) (hts (.fieldLink RX8 189 "DutyDeskModel" "lawyers" "I") (List.mem_of_getElem? (i := 2) rfl)) (fun _ h9 => h9) rfl dX8_floor_55 ?_
      refine lv_if_ne (tgt := 65) hx hb dX8_floor_58 (by decide) (fun c_8 => ?_) (fun c_8 => ?_)
      · replace hf := if_f c_8 hf
        refine lv_iload hx hb dX8_floor_65 (lv_at hl 0 rfl) ?_
        refine lv_iconst (v := 2) hx hb dX8_floor_67 (by decide) ?_
        refine lv_iload_n hx hb dX8_floor_68 rfl (lv_at hl 4 rfl) ?_
        refine lv_imul hx hb dX8_floor_69 ?_
        refine lv_iconst (v := 1) hx hb dX8_floor_70 (by decide) ?_
        refine lv_iadd hx hb dX8_floor_71 ?_
        refine lv_imul hx hb dX8_floor_72 ?_
        have e_9 := Option.some.inj hf
        have e_10 := hz2_0_6 _ e_9.symm
        subst e_10
        exact wd_iret hx hb hr hlocks hw dX8_floor_73
      · replace hf := if_t c_8 hf
        refine lv_iconst (v := 0) hx hb dX8_floor_61 (by decide) ?_
        refine lv_goto (tgt := 73) hx hb dX8_floor_62 (by decide) ?_
        have e_11 := Option.some.inj hf
        have e_12 := hz2_0_6 _ e_11.symm
        subst e_12
        exact wd_iret hx hb hr hlocks hw dX8_floor_73
  · replace hf := if_f c_3 hf
    refine lv_aload_n hx hb dX8_floor_15 rfl (lv_at hl 0 rfl) ?_
    refine va_get (D := G.1) (ci := 8) (v := .ref (a 14)) (C := RX8) (T := TX8) (N := 45) hx hb hts hin8 hown hG.1 hw.1 0 rfl rfl 24 (by decide) (hts (.fieldLink RX8 55 "DutyDeskModel" "held" "[I") (List.mem_of_getElem? (i := 3) rfl)) (fun _ h9 => h9) rfl dX8_floor_16 ?_
    refine lv_iload hx hb dX8_floor_19 (lv_at hl 4 rfl) ?_
    obtain ⟨h_13, hf⟩ := gd_of hf
    refine va_iald hx hb hG.1 hw.1 14 1 (mw_atI (k := 14) rfl) rfl h_13 dX8_floor_21 ?_
    refine lv_iload_n hx hb dX8_floor_22 rfl (lv_at hl 3 rfl) ?_
    refine lv_icmp_ge (tgt := 36) hx hb dX8_floor_23 (by decide) (fun c_14 => ?_) (fun c_14 => ?_)
    · replace hf := if_t c_14 hf
      refine lv_iload_n hx hb dX8_floor_36 rfl (lv_at hl 3 rfl) ?_
      refine lv_istore_n (lv' := [(3, .int v_1), (0, .ref (a 0)), (1, .int p1), (2, .int p2), (4, .int v_2)]) hx hb dX8_floor_37 rfl hl (by decide) rfl (fun ls hl => ?_)
      obtain ⟨x_15, ex_15⟩ : ∃ z : Int32, z = v_2 + 1 := ⟨_, rfl⟩
      replace hf := bnd_of ex_15 hf
      refine lv_iinc (v := x_15) (lv' := [(4, .int x_15), (3, .int v_1), (0, .ref (a 0)), (1, .int p1), (2, .int p2)]) hx hb dX8_floor_38 hl (k := 4) rfl (by rw [ex_15]; rfl) (by decide) rfl (fun ls hl => ?_)
      refine lv_goto (tgt := 6) hx hb dX8_floor_41 (by decide) ?_
      have e_16 := Option.some.inj hf
      exact hz1_0_6 _ e_16.symm _ _ _ hw (lv_sub hl [2, 3, 4, 1, 0] rfl)
    · replace hf := if_f c_14 hf
      refine lv_aload_n hx hb dX8_floor_26 rfl (lv_at hl 0 rfl) ?_
      refine va_get (D := G.1) (ci := 8) (v := .ref (a 14)) (C := RX8) (T := TX8) (N := 45) hx hb hts hin8 hown hG.1 hw.1 0 rfl rfl 24 (by decide) (hts (.fieldLink RX8 55 "DutyDeskModel" "held" "[I") (List.mem_of_getElem? (i := 3) rfl)) (fun _ h9 => h9) rfl dX8_floor_27 ?_
      refine lv_iload hx hb dX8_floor_30 (lv_at hl 4 rfl) ?_
      obtain ⟨h_17, hf⟩ := gd_of hf
      refine va_iald hx hb hG.1 hw.1 14 1 (mw_atI (k := 14) rfl) rfl h_17 dX8_floor_32 ?_
      refine lv_goto (tgt := 37) hx hb dX8_floor_33 (by decide) ?_
      refine lv_topi (fun x_18 ex_18 => ?_)
      replace hf := bnd_of ex_18 hf
      refine lv_istore_n (lv' := [(3, .int x_18), (0, .ref (a 0)), (1, .int p1), (2, .int p2), (4, .int v_2)]) hx hb dX8_floor_37 rfl hl (by decide) rfl (fun ls hl => ?_)
      obtain ⟨x_19, ex_19⟩ : ∃ z : Int32, z = v_2 + 1 := ⟨_, rfl⟩
      replace hf := bnd_of ex_19 hf
      refine lv_iinc (v := x_19) (lv' := [(4, .int x_19), (3, .int x_18), (0, .ref (a 0)), (1, .int p1), (2, .int p2)]) hx hb dX8_floor_38 hl (k := 4) rfl (by rw [ex_19]; rfl) (by decide) rfl (fun ls hl => ?_)
      refine lv_goto (tgt := 6) hx hb dX8_floor_41 (by decide) ?_
      have e_20 := Option.some.inj hf
      exact hz1_0_6 _ e_20.symm _ _ _ hw (lv_sub hl [2, 3, 4, 1, 0] rfl)
/-! DutyDeskModel.tryNights(IIIIII)V -/
def rm_X8_tryNights (d : Nat) : Room := { frames := 4 + d, cells := 0, slots := 0, locals := 91 + 29 * d }
def f_X8_tryNights_L107 (self : St → Int32 → Int32 → Int32 → Int32 → Int32 → Int32 → Option (St)) (y_1 : Int32) (y_2 : Int32) (y_3 : Int32) (y_4 : Int32) (y_5 : Int32) (y_6 : Int32) (x_9 : Int32) : (Int32 × St) → Option ((Int32 × St) ⊕ (St))
  | (v_10, S_11) =>
  (if (gI S_11 10) ≤ v_10 then
    gd y_4 6 (bnd (sM S_11 12 (y_4.toNatClampNeg) (-1)) fun S_14 => (self S_14 y_1 y_2 y_3 (y_4 + 1) (y_5 + 1) y_6).bind (fun S_16 => some (.inr (S_16))))
  else
    (f_X8_mayNight S_11 v_10 y_1 (y_2 + y_4)).bind (fun r_20 => (if r_20 = 0 then
    bnd (v_10 + 1) fun x_40 => some (.inl (x_40, S_11))
  else
    gd x_9 6000 (bnd (sM S_11 11 (x_9.toNatClampNeg) v_10) fun S_23 => gd y_4 6 (bnd (sM S_23 12 (y_4.toNatClampNeg) v_10) fun S_25 => gd v_10 24 (bnd ((2 * (gM S_25 14 v_10.toNatClampNeg)) + 1) fun x_27 => gd v_10 24 (gd v_10 24 (bnd (sM S_25 14 (v_10.toNatClampNeg) ((gM S_25 14 v_10.toNatClampNeg) + 1)) fun S_30 => (self S_30 y_1 y_2 y_3 (y_4 + 1) y_5 (y_6 + x_27)).bind (fun S_32 => gd v_10 24 (gd v_10 24 (bnd (sM S_32 14 (v_10.toNatClampNeg) ((gM S_32 14 v_10.toNatClampNeg) - 1)) fun S_35 => gd x_9 6000 (bnd (sM S_35 11 (x_9.toNatClampNeg) (-1)) fun S_37 => bnd (v_10 + 1) fun x_38 => some (.inl (x_38, S_37))))))))))))))
def f_X8_tryNights_L65 (y_3 : Int32) : (Int32 × St) → Option ((Int32 × St) ⊕ (St))
  | (v_44, S_45) =>
  (if y_3 ≤ v_44 then
    some (.inr (S_45))
  else
    gd v_44 6 (gd v_44 6 (bnd (sM S_45 13 (v_44.toNatClampNeg) (gM S_45 12 v_44.toNatClampNeg)) fun S_51 => bnd (v_44 + 1) fun x_52 => some (.inl (x_52, S_51)))))
def f_X8_tryNights_J44 (self : St → Int32 → Int32 → Int32 → Int32 → Int32 → Int32 → Option (St)) (y_1 : Int32) (y_2 : Int32) (y_3 : Int32) (y_4 : Int32) (y_5 : Int32) (y_6 : Int32) (S_7 : St) : Option (St) :=
  (if y_4 = y_3 then
    bnd (sI S_7 11 y_5) fun S_42 => bnd (sI S_42 12 y_6) fun S_43 => loopF (f_X8_tryNights_L65 y_3) FU (0, S_43)
  else
    bnd (((1000 * y_1) + y_2) + y_4) fun x_9 => loopF (f_X8_tryNights_L107 self y_1 y_2 y_3 y_4 y_5 y_6 x_9) FU (0, S_7))
def f_X8_tryNights : Nat → St → Int32 → Int32 → Int32 → Int32 → Int32 → Int32 → Option (St)
  | 0, _, _, _, _, _, _, _ => none
  | d + 1, S, p1, p2, p3, p4, p5, p6 =>
  bnd (f_X8_tryNights d) fun self => (if (gI S 11) < p5 then
    some (S)
  else
    (if p5 = (gI S 11) then
    (f_X8_floor S (p3 - p4) ((gI S 11) - p5)).bind (fun r_58 => (if (p6 + r_58) < (gI S 12) then
    f_X8_tryNights_J44 self p1 p2 p3 p4 p5 p6 S
  else
    some (S)))
  else
    f_X8_tryNights_J44 self p1 p2 p3 p4 p5 p6 S))
set_option maxHeartbeats 4000000 in
set_option maxRecDepth 100000 in
theorem c_X8_tryNights (G : GP) (l : Launch) (a : Nat → Nat) (R : va_W) : ∀ (d : Nat) (S : St) (p1 : Int32) (p2 : Int32) (p3 : Int32) (p4 : Int32) (p5 : Int32) (p6 : Int32) (S9 : St), f_X8_tryNights d S p1 p2 p3 p4 p5 p6 = some S9 → MC G l yX8_tryNights wsX8_tryNights (rm_X8_tryNights d) [.ref (a 0), .int p1, .int p2, .int p3, .int p4, .int p5, .int p6] (mw G.2.1 a R S) (mw G.2.1 a R S9) none 0 0 := by
  intro d
  induction d with
  | zero =>
    intro S p1 p2 p3 p4 p5 p6 S9 hf
    rw [f_X8_tryNights] at hf
    cases hf
  | succ d ih =>
  intro S p1 p2 p3 p4 p5 p6 S9 hf
  refine MC.mk (cc := cX8_tryNights) (maxL := 10) (ret := none) (by decide) rfl (Nat.le_of_ble_eq_true rfl) ?_
  intro p e s m below meth c A ls ⟨hx, hb, hr, hml, hown, hlocks, _, hts⟩ hw hG hA hl
  have hl : lv_has ls 10 [(0, .ref (a 0)), (1, .int p1), (2, .int p2), (3, .int p3), (4, .int p4), (5, .int p5), (6, .int p6)] := hl
  have hin8 : ∀ w ∈ u_ws RX8 TX8 45, w ∈ wsX8_tryNights := by decide +kernel
  rw [f_X8_tryNights] at hf
  generalize f_X8_tryNights d = self at hf ih
  replace hf := bnd_of rfl hf
  have j44 : ∀ (y_1 : Int32) (y_2 : Int32) (y_3 : Int32) (y_4 : Int32) (y_5 : Int32) (y_6 : Int32) (S_7 : St) (H : Heap) (locs : List Loc) (ls : Array Slot), f_X8_tryNights_J44 self y_1 y_2 y_3 y_4 y_5 y_6 S_7 = some S9 → Wd G A s H locs (mw G.2.1 a R S_7) → lv_has ls 10 [(0, .ref (a 0)), (1, .int y_1), (2, .int y_2), (3, .int y_3), (4, .int y_4), (5, .int y_5), (6, .int y_6)] → WQ p l e (rm_X8_tryNights (d + 1)) s m [.ref (a 0), .int p1, .int p2, .int p3, .int p4, .int p5, .int p6] below meth c G A (mw G.2.1 a R S9) none 0 0 H locs 0 0 (F0 m 44 ls []) := by
    intro y_1 y_2 y_3 y_4 y_5 y_6 S_7 H locs ls hf hw hl
    rw [f_X8_tryNights_J44] at hf
    refine lv_iload hx hb dX8_tryNights_44 (lv_at hl 4 rfl) ?_
    refine lv_iload_n hx hb dX8_tryNights_46 rfl (lv_at hl 3 rfl) ?_
    refine lv_icmp_ne (tgt := 92) hx hb dX8_tryNights_47 (by decide) (fun c_8 => ?_) (fun c_8 => ?_)
    · replace hf := if_f c_8 hf
      refine lv_sipush (v := 1000) hx hb dX8_tryNights_92 (by decide) ?_
      refine lv_iload_n hx hb dX8_tryNights_95 rfl (lv_at hl 1 rfl) ?_
      refine lv_imul hx hb dX8_tryNights_96 ?_
      refine lv_iload_n hx hb dX8_tryNights_97 rfl (lv_at hl 2 rfl) ?_
      refine lv_iadd hx hb dX8_tryNights_98 ?_
      refine lv_iload hx hb dX8_tryNights_99 (lv_at hl 4 rfl) ?_
      refine lv_iadd hx hb dX8_tryNights_101 ?_
      refine lv_topi (fun x_9 ex_9 => ?_)
      replace hf := bnd_of ex_9 hf
      refine lv_istore (lv' := [(7, .int x_9), (0, .ref (a 0)), (1, .int y_1), (2, .int y_2), (3, .int y_3), (4, .int y_4), (5, .int y_5), (6, .int y_6)]) hx hb dX8_tryNights_102 hl (by decide) rfl (fun ls hl => ?_)
      refine lv_iconst (v := 0) hx hb dX8_tryNights_104 (by decide) ?_
      refine lv_istore (lv' := [(8, .int 0), (7, .int x_9), (0, .ref (a 0)), (1, .int y_1), (2, .int y_2), (3, .int y_3), (4, .int y_4), (5, .int y_5), (6, .int y_6)]) hx hb dX8_tryNights_105 hl (by decide) rfl (fun ls hl => ?_)
      refine loopF_ind (body := f_X8_tryNights_L107 self y_1 y_2 y_3 y_4 y_5 y_6 x_9) (fun (q : Int32 × St) => match q with | (v_10, S_11) => ∀ (H : Heap) (locs : List Loc) (ls : Array Slot), Wd G A s H locs (mw G.2.1 a R S_11) → lv_has ls 10 [(0, .ref (a 0)), (1, .int y_1), (2, .int y_2), (3, .int y_3), (4, .int y_4), (5, .int y_5), (6, .int y_6), (7, .int x_9), (8, .int v_10)] → WQ p l e (rm_X8_tryNights (d + 1)) s m [.ref (a 0), .int p1, .int p2, .int p3, .int p4, .int p5, .int p6] below meth c G A (mw G.2.1 a R S9) none 0 0 H locs 0 0 (F0 m 107 ls [])) ?_ FU (0, S_7) hf _ _ _ hw (lv_sub hl [2, 3, 4, 5, 6, 7, 8, 1, 0] rfl)
      clear hf hw hl
      intro ⟨v_10, S_11⟩ t0_107 hf hz1_0_107 hz2_0_107 H locs ls hw hl
      rw [f_X8_tryNights_L107] at hf
      refine lv_iload hx hb dX8_tryNights_107 (lv_at hl 8 rfl) ?_
      refine lv_aload_n hx hb dX8_tryNights_109 rfl (lv_at hl 0 rfl) ?_
      refine va_get (D := G.1) (ci := 8) (v := .int (gI S_11 10)) (C := RX8) (T := TX8) (N := 45) hx hb hts hin8 hown hG.1 hw.1 0 rfl rfl 14 (by decide) (hts (.fieldLink RX8 189 "DutyDeskModel" "lawyers" "I") (List.mem_of_getElem? (i := 5) rfl)) (fun _ h9 => h9) rfl dX8_tryNights_110 ?_
      refine lv_icmp_ge (tgt := 218) hx hb dX8_tryNights_113 (by decide) (fun c_12 => ?_) (fun c_12 => ?_)
      · replace hf := if_t c_12 hf
        refine lv_aload_n hx hb dX8_tryNights_218 rfl (lv_at hl 0 rfl) ?_
        refine va_get (D := G.1) (ci := 8) (v := .ref (a 12)) (C := RX8) (T := TX8) (N := 45) hx hb hts hin8 hown hG.1 hw.1 0 rfl rfl 22 (by decide) (hts (.fieldLink RX8 49 "DutyDeskModel" "tried" "[I") (List.mem_of_getElem? (i := 4) rfl)) (fun _ h9 => h9) rfl dX8_tryNights_219 ?_
        refine lv_iload hx hb dX8_tryNights_222 (lv_at hl 4 rfl) ?_
        refine lv_iconst (v := (-1)) hx hb dX8_tryNights_224 (by decide) ?_
        obtain ⟨h_13, hf⟩ := gd_of hf
        refine va_iast hx hb hG.1 hw.1 hw.2.1 hw.2.2 12 1 (mw_atI (k := 12) rfl) rfl h_13 dX8_tryNights_225 (fun H locs hP hD hS => ?_)
        obtain ⟨S_14, eS_14⟩ : ∃ z : St, z = sM S_11 12 (y_4.toNatClampNeg) (-1) := ⟨_, rfl⟩
        replace hf := bnd_of eS_14 hf
        have hw : Wd G A s H locs (mw G.2.1 a R S_14) := wd_eq (by rw [eS_14]; exact mw_upI (k := 12) rfl _) hP hD hS
        refine lv_aload_n hx hb dX8_tryNights_226 rfl (lv_at hl 0 rfl) ?_
        refine lv_iload_n hx hb dX8_tryNights_227 rfl (lv_at hl 1 rfl) ?_
        refine lv_iload_n hx hb dX8_tryNights_228 rfl (lv_at hl 2 rfl) ?_
        refine lv_iload_n hx hb dX8_tryNights_229 rfl (lv_at hl 3 rfl) ?_
        refine lv_iload hx hb dX8_tryNights_230 (lv_at hl 4 rfl) ?_
        refine lv_iconst (v := 1) hx hb dX8_tryNights_232 (by decide) ?_
        refine lv_iadd hx hb dX8_tryNights_233 ?_
        refine lv_iload hx hb dX8_tryNights_234 (lv_at hl 5 rfl) ?_
        refine lv_iconst (v := 1) hx hb dX8_tryNights_236 (by decide) ?_
        refine lv_iadd hx hb dX8_tryNights_237 ?_
        refine lv_iload hx hb dX8_tryNights_238 (lv_at hl 6 rfl) ?_
        obtain ⟨S_16, h_15, hf⟩ := bind_of hf
        refine cV (As := [.int y_1, .int y_2, .int y_3, .int (y_4 + 1), .int (y_5 + 1), .int y_6]) (rest := []) ⟨hx, hb, hml, hown, hts⟩ hG hA hw (ih S_14 y_1 y_2 y_3 (y_4 + 1) (y_5 + 1) y_6 S_16 h_15) (cwV 6 hts gX8_tryNights_X8_tryNights rfl rfl rfl (by decide +kernel) ⟨by simp only [rm_X8_tryNights, rm_X8_tryNights]; omega, by simp only [rm_X8_tryNights, rm_X8_tryNights]; omega⟩) (va_recv hG.1 hw.1 (ci := 8) (q0 := 0) rfl rfl) rfl hl.1 rfl (Nat.le_of_ble_eq_true rfl) dX8_tryNights_240 ⟨Nat.zero_le _, Nat.zero_le _⟩ (fun H locs hw => ?_)
        have e_17 := Option.some.inj hf
        have e_18 := hz2_0_107 _ e_17.symm
        subst e_18
        exact wd_vret hx hb hr hlocks hw dX8_tryNights_243
      · replace hf := if_f c_12 hf
        refine lv_aload_n hx hb dX8_tryNights_116 rfl (lv_at hl 0 rfl) ?_
        refine lv_iload hx hb dX8_tryNights_117 (lv_at hl 8 rfl) ?_
        refine lv_iload_n hx hb dX8_tryNights_119 rfl (lv_at hl 1 rfl) ?_
        refine lv_iload_n hx hb dX8_tryNights_120 rfl (lv_at hl 2 rfl) ?_
        refine lv_iload hx hb dX8_tryNights_121 (lv_at hl 4 rfl) ?_
        refine lv_iadd hx hb dX8_tryNights_123 ?_
        obtain ⟨r_20, h_19, hf⟩ := bind_of hf
        refine cV (As := [.int v_10, .int y_1, .int (y_2 + y_4)]) (rest := []) ⟨hx, hb, hml, hown, hts⟩ hG hA hw (c_X8_mayNight G l a R S_11 v_10 y_1 (y_2 + y_4) r_20 h_19) (cwV 3 hts gX8_tryNights_X8_mayNight rfl rfl rfl (by decide +kernel) ⟨by simp only [rm_X8_mayNight, rm_X8_tryNights]; omega, by simp only [rm_X8_mayNight, rm_X8_tryNights]; omega⟩) (va_recv hG.1 hw.1 (ci := 8) (q0 := 0) rfl rfl) rfl hl.1 rfl (Nat.le_of_ble_eq_true rfl) dX8_tryNights_124 ⟨Nat.zero_le _, Nat.zero_le _⟩ (fun H locs hw => ?_)
        refine lv_if_ne (tgt := 133) hx hb dX8_tryNights_127 (by decide) (fun c_21 => ?_) (fun c_21 => ?_)
        · replace hf := if_f c_21 hf
          refine lv_aload_n hx hb dX8_tryNights_133 rfl (lv_at hl 0 rfl) ?_
          refine va_get (D := G.1) (ci := 8) (v := .ref (a 11)) (C := RX8) (T := TX8) (N := 45) hx hb hts hin8 hown hG.1 hw.1 0 rfl rfl 21 (by decide) (hts (.fieldLink RX8 46 "DutyDeskModel" "duty" "[I") (List.mem_of_getElem? (i := 6) rfl)) (fun _ h9 => h9) rfl dX8_tryNights_134 ?_
          refine lv_iload hx hb dX8_tryNights_137 (lv_at hl 7 rfl) ?_
          refine lv_iload hx hb dX8_tryNights_139 (lv_at hl 8 rfl) ?_
          obtain ⟨h_22, hf⟩ := gd_of hf
          refine va_iast hx hb hG.1 hw.1 hw.2.1 hw.2.2 11 1 (mw_atI (k := 11) rfl) rfl h_22 dX8_tryNights_141 (fun H locs hP hD hS => ?_)
          obtain ⟨S_23, eS_23⟩ : ∃ z : St, z = sM S_11 11 (x_9.toNatClampNeg) v_10 := ⟨_, rfl⟩
          replace hf := bnd_of eS_23 hf
          have hw : Wd G A s H locs (mw G.2.1 a R S_23) := wd_eq (by rw [eS_23]; exact mw_upI (k := 11) rfl _) hP hD hS
          refine lv_aload_n hx hb dX8_tryNights_142 rfl (lv_at hl 0 rfl) ?_
          refine va_get (D := G.1) (ci := 8) (v := .ref (a 12)) (C := RX8) (T := TX8) (N := 45) hx hb hts hin8 hown hG.1 hw.1 0 rfl rfl 22 (by decide) (hts (.fieldLink RX8 49 "DutyDeskModel" "tried" "[I") (List.mem_of_getElem? (i := 4) rfl)) (fun _ h9 => h9) rfl dX8_tryNights_143 ?_
          refine lv_iload hx hb dX8_tryNights_146 (lv_at hl 4 rfl) ?_
          refine lv_iload hx hb dX8_tryNights_148 (lv_at hl 8 rfl) ?_
          obtain ⟨h_24, hf⟩ := gd_of hf
          refine va_iast hx hb hG.1 hw.1 hw.2.1 hw.2.2 12 1 (mw_atI (k := 12) rfl) rfl h_24 dX8_tryNights_150 (fun H locs hP hD hS => ?_)
          obtain ⟨S_25, eS_25⟩ : ∃ z : St, z = sM S_23 12 (y_4.toNatClampNeg) v_10 := ⟨_, rfl⟩
          replace hf := bnd_of eS_25 hf
          have hw : Wd G A s H locs (mw G.2.1 a R S_25) := wd_eq (by rw [eS_25]; exact mw_upI (k := 12) rfl _) hP hD hS
          refine lv_iconst (v := 2) hx hb dX8_tryNights_151 (by decide) ?_
          refine lv_aload_n hx hb dX8_tryNights_152 rfl (lv_at hl 0 rfl) ?_
          refine va_get (D := G.1) (ci := 8) (v := .ref (a 14)) (C := RX8) (T := TX8) (N := 45) hx hb hts hin8 hown hG.1 hw.1 0 rfl rfl 24 (by decide) (hts (.fieldLink RX8 55 "DutyDeskModel" "held" "[I") (List.mem_of_getElem? (i := 7) rfl)) (fun _ h9 => h9) rfl dX8_tryNights_153 ?_
          refine lv_iload hx hb dX8_tryNights_156 (lv_at hl 8 rfl) ?_
          obtain ⟨h_26, hf⟩ := gd_of hf
          refine va_iald hx hb hG.1 hw.1 14 1 (mw_atI (k := 14) rfl) rfl h_26 dX8_tryNights_158 ?_
          refine lv_imul hx hb dX8_tryNights_159 ?_
          refine lv_iconst (v := 1) hx hb dX8_tryNights_160 (by decide) ?_
          refine lv_iadd hx hb dX8_tryNights_161 ?_
          refine lv_topi (fun x_27 ex_27 => ?_)
          replace hf := bnd_of ex_27 hf
          refine lv_istore (lv' := [(9, .int x_27), (0, .ref (a 0)), (1, .int y_1), (2, .int y_2), (3, .int y_3), (4, .int y_4), (5, .int y_5), (6, .int y_6), (7, .int x_9), (8, .int v_10)]) hx hb dX8_tryNights_162 hl (by decide) rfl (fun ls hl => ?_)
          refine lv_aload_n hx hb dX8_tryNights_164 rfl (lv_at hl 1 rfl) ?_
          refine va_get (D := G.1) (ci := 8) (v := .ref (a 14)) (C := RX8) (T := TX8) (N := 45) hx hb hts hin8 hown hG.1 hw.1 0 rfl rfl 24 (by decide) (hts (.fieldLink RX8 55 "DutyDeskModel" "held" "[I") (List.mem_of_getElem? (i := 7) rfl)) (fun _ h9 => h9) rfl dX8_tryNights_165 ?_
          refine lv_iload hx hb dX8_tryNights_168 (lv_at hl 9 rfl) ?_
          refine lv_dup2_11 hx hb dX8_tryNights_170 rfl rfl ?_
          obtain ⟨h_28, hf⟩ := gd_of hf
          refine va_iald hx hb hG.1 hw.1 14 1 (mw_atI (k := 14) rfl) rfl h_28 dX8_tryNights_171 ?_
          refine lv_iconst (v := 1) hx hb dX8_tryNights_172 (by decide) ?_
          refine lv_iadd hx hb dX8_tryNights_173 ?_
          obtain ⟨h_29, hf⟩ := gd_of hf
          refine va_iast hx hb hG.1 hw.1 hw.2.1 hw.2.2 14 1 (mw_atI (k := 14) rfl) rfl h_29 dX8_tryNights_174 (fun H locs hP hD hS => ?_)
          obtain ⟨S_30, eS_30⟩ : ∃ z : St, z = sM S_25 14 (v_10.toNatClampNeg) ((gM S_25 14 v_10.toNatClampNeg) + 1) := ⟨_, rfl⟩
          replace hf := bnd_of eS_30 hf
          have hw : Wd G A s H locs (mw G.2.1 a R S_30) := wd_eq (by rw [eS_30]; exact mw_upI (k := 14) rfl _) hP hD hS
          refine lv_aload_n hx hb dX8_tryNights_175 rfl (lv_at hl 1 rfl) ?_
          refine lv_iload_n hx hb dX8_tryNights_176 rfl (lv_at hl 2 rfl) ?_
          refine lv_iload_n hx hb dX8_tryNights_177 rfl (lv_at hl 3 rfl) ?_
          refine lv_iload_n hx hb dX8_tryNights_178 rfl (lv_at hl 4 rfl) ?_
          refine lv_iload hx hb dX8_tryNights_179 (lv_at hl 5 rfl) ?_
          refine lv_iconst (v := 1) hx hb dX8_tryNights_181 (by decide) ?_
          refine lv_iadd hx hb dX8_tryNights_182 ?_
          refine lv_iload hx hb dX8_tryNights_183 (lv_at hl 6 rfl) ?_
          refine lv_iload hx hb dX8_tryNights_185 (lv_at hl 7 rfl) ?_
          refine lv_iload hx hb dX8_tryNights_187 (lv_at hl 0 rfl) ?_
          refine lv_iadd hx hb dX8_tryNights_189 ?_
          obtain ⟨S_32, h_31, hf⟩ := bind_of hf
          refine cV (As := [.int y_1, .int y_2, .int y_3, .int (y_4 + 1), .int y_5, .int (y_6 + x_27)]) (rest := []) ⟨hx, hb, hml, hown, hts⟩ hG hA hw (ih S_30 y_1 y_2 y_3 (y_4 + 1) y_5 (y_6 + x_27) S_32 h_31) (cwV 6 hts gX8_tryNights_X8_tryNights rfl rfl rfl (by decide +kernel) ⟨by simp only [rm_X8_tryNights, rm_X8_tryNights]; omega, by simp only [rm_X8_tryNights, rm_X8_tryNights]; omega⟩) (va_recv hG.1 hw.1 (ci := 8) (q0 := 0) rfl rfl) rfl hl.1 rfl (Nat.le_of_ble_eq_true rfl) dX8_tryNights_190 ⟨Nat.zero_le _, Nat.zero_le _⟩ (fun H locs hw => ?_)
          refine lv_aload_n hx hb dX8_tryNights_193 rfl (lv_at hl 1 rfl) ?_
          refine va_get (D := G.1) (ci := 8) (v := .ref (a 14)) (C := RX8) (T := TX8) (N := 45) hx hb hts hin8 hown hG.1 hw.1 0 rfl rfl 24 (by decide) (hts (.fieldLink RX8 55 "DutyDeskModel" "held" "[I") (List.mem_of_getElem? (i := 7) rfl)) (fun _ h9 => h9) rfl dX8_tryNights_194 ?_
          refine lv_iload hx hb dX8_tryNights_197 (lv_at hl 9 rfl) ?_
          refine lv_dup2_11 hx hb dX8_tryNights_199 rfl rfl ?_
          obtain ⟨h_33, hf⟩ := gd_of hf
          refine va_iald hx hb hG.1 hw.1 14 1 (mw_atI (k := 14) rfl) rfl h_33 dX8_tryNights_200 ?_
          refine lv_iconst (v := 1) hx hb dX8_tryNights_201 (by decide) ?_
          refine lv_isub hx hb dX8_tryNights_202 ?_
          obtain ⟨h_34, hf⟩ := gd_of hf
          refine va_iast hx hb hG.1 hw.1 hw.2.1 hw.2.2 14 1 (mw_atI (k := 14) rfl) rfl h_34 dX8_tryNights_203 (fun H locs hP hD hS => ?_)
          obtain ⟨S_35, eS_35⟩ : ∃ z : St, z = sM S_32 14 (v_10.toNatClampNeg) ((gM S_32 14 v_10.toNatClampNeg) - 1) := ⟨_, rfl⟩
          replace hf := bnd_of eS_35 hf
          have hw : Wd G A s H locs (mw G.2.1 a R S_35) := wd_eq (by rw [eS_35]; exact mw_upI (k := 14) rfl _) hP hD hS
          refine lv_aload_n hx hb dX8_tryNights_204 rfl (lv_at hl 1 rfl) ?_
          refine va_get (D := G.1) (ci := 8) (v := .ref (a 11)) (C := RX8) (T := TX8) (N := 45) hx hb hts hin8 hown hG.1 hw.1 0 rfl rfl 21 (by decide) (hts (.fieldLink RX8 46 "DutyDeskModel" "duty" "[I") (List.mem_of_getElem? (i := 6) rfl)) (fun _ h9 => h9) rfl dX8_tryNights_205 ?_
          refine lv_iload hx hb dX8_tryNights_208 (lv_at hl 8 rfl) ?_
          refine lv_iconst (v := (-1)) hx hb dX8_tryNights_210 (by decide) ?_
          obtain ⟨h_36, hf⟩ := gd_of hf
          refine va_iast hx hb hG.1 hw.1 hw.2.1 hw.2.2 11 1 (mw_atI (k := 11) rfl) rfl h_36 dX8_tryNights_211 (fun H locs hP hD hS => ?_)
          obtain ⟨S_37, eS_37⟩ : ∃ z : St, z = sM S_35 11 (x_9.toNatClampNeg) (-1) := ⟨_, rfl⟩
          replace hf := bnd_of eS_37 hf
          have hw : Wd G A s H locs (mw G.2.1 a R S_37) := wd_eq (by rw [eS_37]; exact mw_upI (k := 11) rfl _) hP hD hS
          obtain ⟨x_38, ex_38⟩ : ∃ z : Int32, z = v_10 + 1 := ⟨_, rfl⟩
          replace hf := bnd_of ex_38 hf
          refine lv_iinc (v := x_38) (lv' := [(8, .int x_38), (9, .int x_27), (0, .ref (a 0)), (1, .int y_1), (2, .int y_2), (3, .int y_3), (4, .int y_4), (5, .int y_5), (6, .int y_6), (7, .int x_9)]) hx hb dX8_tryNights_212 hl (k := 9) rfl (by rw [ex_38]; rfl) (by decide) rfl (fun ls hl => ?_)
          refine lv_goto (tgt := 107) hx hb dX8_tryNights_215 (by decide) ?_
          have e_39 := Option.some.inj hf
          exact hz1_0_107 _ e_39.symm _ _ _ hw (lv_sub hl [2, 3, 4, 5, 6, 7, 8, 9, 0] rfl)
        · replace hf := if_t c_21 hf
          refine lv_goto (tgt := 212) hx hb dX8_tryNights_130 (by decide) ?_
          obtain ⟨x_40, ex_40⟩ : ∃ z : Int32, z = v_10 + 1 := ⟨_, rfl⟩
          replace hf := bnd_of ex_40 hf
          refine lv_iinc (v := x_40) (lv' := [(8, .int x_40), (0, .ref (a 0)), (1, .int y_1), (2, .int y_2), (3, .int y_3), (4, .int y_4), (5, .int y_5), (6, .int y_6), (7, .int x_9)]) hx hb dX8_tryNights_212 hl (k := 8) rfl (by rw [ex_40]; rfl) (by decide) rfl (fun ls hl => ?_)
          refine lv_goto (tgt := 107) hx hb dX8_tryNights_215 (by decide) ?_
          have e_41 := Option.some.inj hf
          exact hz1_0_107 _ e_41.symm _ _ _ hw (lv_sub hl [1, 2, 3, 4, 5, 6, 7, 8, 0] rfl)
    · replace hf := if_t c_8 hf
      refine lv_aload_n hx hb dX8_tryNights_50 rfl (lv_at hl 0 rfl) ?_
      refine lv_iload hx hb dX8_tryNights_51 (lv_at hl 5 rfl) ?_
      refine va_put (D := G.1) (ci := 8) (v := .int y_5) (ty := .int) (C := RX8) (T := TX8) (N := 45) hx hb hts hin8 tyX8 tyX8_ok nmX8 hown hG.1 hw.1 hw.2.1 hw.2.2 0 rfl rfl 25 (by decide) (hts (.fieldLink RX8 214 "DutyDeskModel" "bestEmpty" "I") (List.mem_of_getElem? (i := 1) rfl)) (fun _ h9 => h9) rfl (by decide +kernel) rfl rfl (Nat.le_of_ble_eq_true rfl) dX8_tryNights_53 (fun H locs hP hD hS => ?_)
      obtain ⟨S_42, eS_42⟩ : ∃ z : St, z = sI S_7 11 y_5 := ⟨_, rfl⟩
      replace hf := bnd_of eS_42 hf
      have hw : Wd G A s H locs (mw G.2.1 a R S_42) := wd_eq (by rw [eS_42]; exact mw_upI11 _) hP hD hS
      refine lv_aload_n hx hb dX8_tryNights_56 rfl (lv_at hl 0 rfl) ?_
      refine lv_iload hx hb dX8_tryNights_57 (lv_at hl 6 rfl) ?_
      refine va_put (D := G.1) (ci := 8) (v := .int y_6) (ty := .int) (C := RX8) (T := TX8) (N := 45) hx hb hts hin8 tyX8 tyX8_ok nmX8 hown hG.1 hw.1 hw.2.1 hw.2.2 0 rfl rfl 26 (by decide) (hts (.fieldLink RX8 220 "DutyDeskModel" "bestSum" "I") (List.mem_of_getElem? (i := 2) rfl)) (fun _ h9 => h9) rfl (by decide +kernel) rfl rfl (Nat.le_of_ble_eq_true rfl) dX8_tryNights_59 (fun H locs hP hD hS => ?_)
      obtain ⟨S_43, eS_43⟩ : ∃ z : St, z = sI S_42 12 y_6 := ⟨_, rfl⟩
      replace hf := bnd_of eS_43 hf
      have hw : Wd G A s H locs (mw G.2.1 a R S_43) := wd_eq (by rw [eS_43]; exact mw_upI12 _) hP hD hS
      refine lv_iconst (v := 0) hx hb dX8_tryNights_62 (by decide) ?_
      refine lv_istore (lv' := [(7, .int 0), (0, .ref (a 0)), (1, .int y_1), (2, .int y_2), (3, .int y_3), (4, .int y_4), (5, .int y_5), (6, .int y_6)]) hx hb dX8_tryNights_63 hl (by decide) rfl (fun ls hl => ?_)
      refine loopF_ind (body := f_X8_tryNights_L65 y_3) (fun (q : Int32 × St) => match q with | (v_44, S_45) => ∀ (H : Heap) (locs : List Loc) (ls : Array Slot), Wd G A s H locs (mw G.2.1 a R S_45) → lv_has ls 10 [(0, .ref (a 0)), (3, .int y_3), (7, .int v_44)] → WQ p l e (rm_X8_tryNights (d + 1)) s m [.ref (a 0), .int p1, .int p2, .int p3, .int p4, .int p5, .int p6] below meth c G A (mw G.2.1 a R S9) none 0 0 H locs 0 0 (F0 m 65 ls [])) ?_ FU (0, S_43) hf _ _ _ hw (lv_sub hl [1, 4, 0] rfl)
      clear hf hw hl
      intro ⟨v_44, S_45⟩ t0_65 hf hz1_0_65 hz2_0_65 H locs ls hw hl
      rw [f_X8_tryNights_L65] at hf
      refine lv_iload hx hb dX8_tryNights_65 (lv_at hl 2 rfl) ?_
      refine lv_iload_n hx hb dX8_tryNights_67 rfl (lv_at hl 1 rfl) ?_
      refine lv_icmp_ge (tgt := 91) hx hb dX8_tryNights_68 (by decide) (fun c_46 => ?_) (fun c_46 => ?_)
      · replace hf := if_t c_46 hf
        have e_47 := Option.some.inj hf
        have e_48 := hz2_0_65 _ e_47.symm
        subst e_48
        exact wd_vret hx hb hr hlocks hw dX8_tryNights_91
      · replace hf := if_f c_46 hf
        refine lv_aload_n hx hb dX8_tryNights_71 rfl (lv_at hl 0 rfl) ?_
        refine va_get (D := G.1) (ci := 8) (v := .ref (a 13)) (C := RX8) (T := TX8) (N := 45) hx hb hts hin8 hown hG.1 hw.1 0 rfl rfl 23 (by decide) (hts (.fieldLink RX8 52 "DutyDeskModel" "best" "[I") (List.mem_of_getElem? (i := 3) rfl)) (fun _ h9 => h9) rfl dX8_tryNights_72 ?_
        refine lv_iload hx hb dX8_tryNights_75 (lv_at hl 2 rfl) ?_
        refine lv_aload_n hx hb dX8_tryNights_77 rfl (lv_at hl 0 rfl) ?_
        refine va_get (D := G.1) (ci := 8) (v := .ref (a 12)) (C := RX8) (T := TX8) (N := 45) hx hb hts hin8 hown hG.1 hw.1 0 rfl rfl 22 (by decide) (hts (.fieldLink RX8 49 "DutyDeskModel" "tried" "[I") (List.mem_of_getElem? (i := 4) rfl)) (fun _ h9 => h9) rfl dX8_tryNights_78 ?_
        refine lv_iload hx hb dX8_tryNights_81 (lv_at hl 2 rfl) ?_
        obtain ⟨h_49, hf⟩ := gd_of hf
        refine va_iald hx hb hG.1 hw.1 12 1 (mw_atI (k := 12) rfl) rfl h_49 dX8_tryNights_83 ?_
        obtain ⟨h_50, hf⟩ := gd_of hf
        refine va_iast hx hb hG.1 hw.1 hw.2.1 hw.2.2 13 1 (mw_atI (k := 13) rfl) rfl h_50 dX8_tryNights_84 (fun H locs hP hD hS => ?_)
        obtain ⟨S_51, eS_51⟩ : ∃ z : St, z = sM S_45 13 (v_44.toNatClampNeg) (gM S_45 12 v_44.toNatClampNeg) := ⟨_, rfl⟩
        replace hf := bnd_of eS_51 hf
        have hw : Wd G A s H locs (mw G.2.1 a R S_51) := wd_eq (by rw [eS_51]; exact mw_upI (k := 13) rfl _) hP hD hS
        obtain ⟨x_52, ex_52⟩ : ∃ z : Int32, z = v_44 + 1 := ⟨_, rfl⟩
        replace hf := bnd_of ex_52 hf
        refine lv_iinc (v := x_52) (lv' := [(7, .int x_52), (0, .ref (a 0)), (3, .int y_3)]) hx hb dX8_tryNights_85 hl (k := 2) rfl (by rw [ex_52]; rfl) (by decide) rfl (fun ls hl => ?_)
        refine lv_goto (tgt := 65) hx hb dX8_tryNights_88 (by decide) ?_
        have e_53 := Option.some.inj hf
        exact hz1_0_65 _ e_53.symm _ _ _ hw (lv_sub hl [1, 2, 0] rfl)
  refine lv_iload hx hb dX8_tryNights_0 (lv_at hl 5 rfl) ?_
  refine lv_aload_n hx hb dX8_tryNights_2 rfl (lv_at hl 0 rfl) ?_
  refine va_get (D := G.1) (ci := 8) (v := .int (gI S 11)) (C := RX8) (T := TX8) (N := 45) hx hb hts hin8 hown hG.1 hw.1 0 rfl rfl 25 (by decide) (hts (.fieldLink RX8 214 "DutyDeskModel" "bestEmpty" "I") (List.mem_of_getElem? (i := 1) rfl)) (fun _ h9 => h9) rfl dX8_tryNights_3 ?_
  refine lv_icmp_gt (tgt := 43) hx hb dX8_tryNights_6 (by decide) (fun c_54 => ?_) (fun c_54 => ?_)
  · replace hf := if_t c_54 hf
    have e_55 := Option.some.inj hf
    subst e_55
    exact wd_vret hx hb hr hlocks hw dX8_tryNights_43
  · replace hf := if_f c_54 hf
    refine lv_iload hx hb dX8_tryNights_9 (lv_at hl 5 rfl) ?_
    refine lv_aload_n hx hb dX8_tryNights_11 rfl (lv_at hl 0 rfl) ?_
    refine va_get (D := G.1) (ci := 8) (v := .int (gI S 11)) (C := RX8) (T := TX8) (N := 45) hx hb hts hin8 hown hG.1 hw.1 0 rfl rfl 25 (by decide) (hts (.fieldLink RX8 214 "DutyDeskModel" "bestEmpty" "I") (List.mem_of_getElem? (i := 1) rfl)) (fun _ h9 => h9) rfl dX8_tryNights_12 ?_
    refine lv_icmp_ne (tgt := 44) hx hb dX8_tryNights_15 (by decide) (fun c_56 => ?_) (fun c_56 => ?_)
    · replace hf := if_f c_56 hf
      exact j44 p1 p2 p3 p4 p5 p6 S _ _ _ hf hw (lv_sub hl [0, 1, 2, 3, 4, 5, 6] rfl)
    · replace hf := if_t c_56 hf
      refine lv_iload hx hb dX8_tryNights_18 (lv_at hl 6 rfl) ?_
      refine lv_aload_n hx hb dX8_tryNights_20 rfl (lv_at hl 0 rfl) ?_
      refine lv_iload_n hx hb dX8_tryNights_21 rfl (lv_at hl 3 rfl) ?_
      refine lv_iload hx hb dX8_tryNights_22 (lv_at hl 4 rfl) ?_
      refine lv_isub hx hb dX8_tryNights_24 ?_
      refine lv_aload_n hx hb dX8_tryNights_25 rfl (lv_at hl 0 rfl) ?_
      refine va_get (D := G.1) (ci := 8) (v := .int (gI S 11)) (C := RX8) (T := TX8) (N := 45) hx hb hts hin8 hown hG.1 hw.1 0 rfl rfl 25 (by decide) (hts (.fieldLink RX8 214 "DutyDeskModel" "bestEmpty" "I") (List.mem_of_getElem? (i := 1) rfl)) (fun _ h9 => h9) rfl dX8_tryNights_26 ?_
      refine lv_iload hx hb dX8_tryNights_29 (lv_at hl 5 rfl) ?_
      refine lv_isub hx hb dX8_tryNights_31 ?_
      obtain ⟨r_58, h_57, hf⟩ := bind_of hf
      refine cV (As := [.int (p3 - p4), .int ((gI S 11) - p5)]) (rest := [.int p6]) ⟨hx, hb, hml, hown, hts⟩ hG hA hw (c_X8_floor G l a R S (p3 - p4) ((gI S 11) - p5) r_58 h_57) (cwV 2 hts gX8_tryNights_X8_floor rfl rfl rfl (by decide +kernel) ⟨by simp only [rm_X8_floor, rm_X8_tryNights]; omega, by simp only [rm_X8_floor, rm_X8_tryNights]; omega⟩) (va_recv hG.1 hw.1 (ci := 8) (q0 := 0) rfl rfl) rfl hl.1 rfl (Nat.le_of_ble_eq_true rfl) dX8_tryNights_32 ⟨Nat.zero_le _, Nat.zero_le _⟩ (fun H locs hw => ?_)
      refine lv_iadd hx hb dX8_tryNights_35 ?_
      refine lv_aload_n hx hb dX8_tryNights_36 rfl (lv_at hl 0 rfl) ?_
      refine va_get (D := G.1) (ci := 8) (v := .int (gI S 12)) (C := RX8) (T := TX8) (N := 45) hx hb hts hin8 hown hG.1 hw.1 0 rfl rfl 26 (by decide) (hts (.fieldLink RX8 220 "DutyDeskModel" "bestSum" "I") (List.mem_of_getElem? (i := 2) rfl)) (fun _ h9 => h9) rfl dX8_tryNights_37 ?_
      refine lv_icmp_lt (tgt := 44) hx hb dX8_tryNights_40 (by decide) (fun c_59 => ?_) (fun c_59 => ?_)
      · replace hf := if_t c_59 hf
        exact j44 p1 p2 p3 p4 p5 p6 S _ _ _ hf hw (lv_sub hl [0, 1, 2, 3, 4, 5, 6] rfl)
      · replace hf := if_f c_59 hf
        have e_60 := Option.some.inj hf
        subst e_60
        exact wd_vret hx hb hr hlocks hw dX8_tryNights_43
/-! DutyDeskModel.plan(III)I -/
def rm_X8_plan : Room := { frames := 11, cells := 0, slots := 0, locals := 294 }
def f_X8_plan_L175 (p1 : Int32) (p2 : Int32) (p3 : Int32) : (Int32 × St) → Option ((Int32 × St) ⊕ ((Int32 × St) ⊕ ((Int32 × Int32 × St) ⊕ ((Int32 × St) ⊕ (Int32 × St)))))
  | (v_30, S_31) =>
  (if p3 ≤ v_30 then
    some (.inr (.inr (.inr (.inr ((gI S_31 11, S_31))))))
  else
    gd v_30 6 (gd (((1000 * p1) + p2) + v_30) 6000 (bnd (sM S_31 11 ((((1000 * p1) + p2) + v_30).toNatClampNeg) (gM S_31 13 v_30.toNatClampNeg)) fun S_40 => bnd (v_30 + 1) fun x_41 => some (.inl (x_41, S_40)))))
def f_X8_plan_L141 (v_19 : Int32) (p1 : Int32) (p2 : Int32) (p3 : Int32) : (Int32 × St) → Option ((Int32 × St) ⊕ ((Int32 × Int32 × St) ⊕ ((Int32 × St) ⊕ (Int32 × St))))
  | (v_25, S_26) =>
  (if p3 ≤ v_25 then
    (f_X8_tryNights 6 S_26 p1 p2 p3 0 0 v_19).bind (fun S_29 => loopF (f_X8_plan_L175 p1 p2 p3) FU (0, S_29))
  else
    gd v_25 6 (bnd (sM S_26 13 (v_25.toNatClampNeg) (-1)) fun S_44 => bnd (v_25 + 1) fun x_45 => some (.inl (x_45, S_44))))
def f_X8_plan_L76 (p1 : Int32) (p2 : Int32) (p3 : Int32) : (Int32 × Int32 × St) → Option ((Int32 × Int32 × St) ⊕ ((Int32 × St) ⊕ (Int32 × St)))
  | (v_19, v_20, S_21) =>
  (if (gI S_21 10) ≤ v_20 then
    bnd (sI S_21 11 p3) fun S_23 => bnd (sI S_23 12 2147483647) fun S_24 => loopF (f_X8_plan_L141 v_19 p1 p2 p3) FU (0, S_24)
  else
    (f_X8_duties S_21 v_20 999).bind (fun r_48 => gd v_20 24 (bnd (sM S_21 14 (v_20.toNatClampNeg) r_48) fun S_50 => gd v_20 24 (gd v_20 24 (bnd (v_19 + ((gM S_50 14 v_20.toNatClampNeg) * (gM S_50 14 v_20.toNatClampNeg))) fun x_53 => bnd (v_20 + 1) fun x_54 => some (.inl (x_53, x_54, S_50)))))))
def f_X8_plan_L42 (p1 : Int32) (p2 : Int32) (p3 : Int32) : (Int32 × St) → Option ((Int32 × St) ⊕ (Int32 × St))
  | (v_16, S_17) =>
  (if p3 ≤ v_16 then
    loopF (f_X8_plan_L76 p1 p2 p3) FU (0, 0, S_17)
  else
    gd (((1000 * p1) + p2) + v_16) 6000 (bnd (sM S_17 11 ((((1000 * p1) + p2) + v_16).toNatClampNeg) (-1)) fun S_57 => bnd (v_16 + 1) fun x_58 => some (.inl (x_58, S_57))))
def f_X8_plan (S : St) (p1 : Int32) (p2 : Int32) (p3 : Int32) : Option (Int32 × St) :=
  (f_X8_in p1 0 5).bind (fun r_2 => (if r_2 = 0 then
    some (((-2), S))
  else
    (f_X8_in p3 1 4).bind (fun r_6 => (if r_6 = 0 then
    some (((-2), S))
  else
    (f_X8_isDay p2).bind (fun r_10 => (if r_10 = 0 then
    some (((-2), S))
  else
    (f_X8_isDay ((p2 + p3) - 1)).bind (fun r_14 => (if r_14 = 0 then
    some (((-2), S))
  else
    loopF (f_X8_plan_L42 p1 p2 p3) FU (0, S)))))))))
set_option maxHeartbeats 4000000 in
set_option maxRecDepth 100000 in
theorem c_X8_plan (G : GP) (l : Launch) (a : Nat → Nat) (R : va_W) (S : St) (p1 : Int32) (p2 : Int32) (p3 : Int32) (r0 : Int32) (S9 : St) (hf : f_X8_plan S p1 p2 p3 = some (r0, S9)) : MC G l yX8_plan wsX8_plan rm_X8_plan [.ref (a 0), .int p1, .int p2, .int p3] (mw G.2.1 a R S) (mw G.2.1 a R S9) (some (.int r0)) 0 0 := by
  refine MC.mk (cc := cX8_plan) (maxL := 6) (ret := (some .int)) (by decide) rfl (Nat.le_of_ble_eq_true rfl) ?_
  intro p e s m below meth c A ls ⟨hx, hb, hr, hml, hown, hlocks, _, hts⟩ hw hG hA hl
  have hl : lv_has ls 6 [(0, .ref (a 0)), (1, .int p1), (2, .int p2), (3, .int p3)] := hl
  have hin8 : ∀ w ∈ u_ws RX8 TX8 45, w ∈ wsX8_plan := by decide +kernel
  rw [f_X8_plan] at hf
  refine lv_iload_n hx hb dX8_plan_0 rfl (lv_at hl 1 rfl) ?_
  refine lv_iconst (v := 0) hx hb dX8_plan_1 (by decide) ?_
  refine lv_iconst (v := 5) hx hb dX8_plan_2 (by decide) ?_
  obtain ⟨r_2, h_1, hf⟩ := bind_of hf
  refine cS (As := [.int p1, .int 0, .int 5]) (rest := []) ⟨hx, hb, hml, hown, hts⟩ hG hA hw (c_X8_in G l _ p1 0 5 r_2 h_1) (va_cwS 3 hts gX8_plan_X8_in rfl rfl rfl (by decide +kernel) ⟨Nat.le_of_ble_eq_true rfl, Nat.le_of_ble_eq_true rfl⟩) rfl hl.1 rfl (Nat.le_of_ble_eq_true rfl) dX8_plan_3 ⟨Nat.zero_le _, Nat.zero_le _⟩ (fun H locs hw => ?_)
  refine lv_if_eq (tgt := 36) hx hb dX8_plan_6 (by decide) (fun c_3 => ?_) (fun c_3 => ?_)
  · replace hf := if_t c_3 hf
    refine lv_bipush (v := (-2)) hx hb dX8_plan_36 (by decide) ?_
    have e_4 := Option.some.inj hf
    obtain ⟨rfl, rfl⟩ := Prod.mk.inj e_4
    exact wd_iret hx hb hr hlocks hw dX8_plan_38
  · replace hf := if_f c_3 hf
    refine lv_iload_n hx hb dX8_plan_9 rfl (lv_at hl 3 rfl) ?_
    refine lv_iconst (v := 1) hx hb dX8_plan_10 (by decide) ?_
    refine lv_iconst (v := 4) hx hb dX8_plan_11 (by decide) ?_
    obtain ⟨r_6, h_5, hf⟩ := bind_of hf
    refine cS (As := [.int p3, .int 1, .int 4]) (rest := []) ⟨hx, hb, hml, hown, hts⟩ hG hA hw (c_X8_in G l _ p3 1 4 r_6 h_5) (va_cwS 3 hts gX8_plan_X8_in rfl rfl rfl (by decide +kernel) ⟨Nat.le_of_ble_eq_true rfl, Nat.le_of_ble_eq_true rfl⟩) rfl hl.1 rfl (Nat.le_of_ble_eq_true rfl) dX8_plan_12 ⟨Nat.zero_le _, Nat.zero_le _⟩ (fun H locs hw => ?_)
    refine lv_if_eq (tgt := 36) hx hb dX8_plan_15 (by decide) (fun c_7 => ?_) (fun c_7 => ?_)
    · replace hf := if_t c_7 hf
      refine lv_bipush (v := (-2)) hx hb dX8_plan_36 (by decide) ?_
      have e_8 := Option.some.inj hf
      obtain ⟨rfl, rfl⟩ := Prod.mk.inj e_8
      exact wd_iret hx hb hr hlocks hw dX8_plan_38
    · replace hf := if_f c_7 hf
      refine lv_iload_n hx hb dX8_plan_18 rfl (lv_at hl 2 rfl) ?_
      obtain ⟨r_10, h_9, hf⟩ := bind_of hf
      refine cS (As := [.int p2]) (rest := []) ⟨hx, hb, hml, hown, hts⟩ hG hA hw (c_X8_isDay G l _ p2 r_10 h_9) (va_cwS 1 hts gX8_plan_X8_isDay rfl rfl rfl (by decide +kernel) ⟨Nat.le_of_ble_eq_true rfl, Nat.le_of_ble_eq_true rfl⟩) rfl hl.1 rfl (Nat.le_of_ble_eq_true rfl) dX8_plan_19 ⟨Nat.zero_le _, Nat.zero_le _⟩ (fun H locs hw => ?_)
      refine lv_if_eq (tgt := 36) hx hb dX8_plan_22 (by decide) (fun c_11 => ?_) (fun c_11 => ?_)
      · replace hf := if_t c_11 hf
        refine lv_bipush (v := (-2)) hx hb dX8_plan_36 (by decide) ?_
        have e_12 := Option.some.inj hf
        obtain ⟨rfl, rfl⟩ := Prod.mk.inj e_12
        exact wd_iret hx hb hr hlocks hw dX8_plan_38
      · replace hf := if_f c_11 hf
        refine lv_iload_n hx hb dX8_plan_25 rfl (lv_at hl 2 rfl) ?_
        refine lv_iload_n hx hb dX8_plan_26 rfl (lv_at hl 3 rfl) ?_
        refine lv_iadd hx hb dX8_plan_27 ?_
        refine lv_iconst (v := 1) hx hb dX8_plan_28 (by decide) ?_
        refine lv_isub hx hb dX8_plan_29 ?_
        obtain ⟨r_14, h_13, hf⟩ := bind_of hf
        refine cS (As := [.int ((p2 + p3) - 1)]) (rest := []) ⟨hx, hb, hml, hown, hts⟩ hG hA hw (c_X8_isDay G l _ ((p2 + p3) - 1) r_14 h_13) (va_cwS 1 hts gX8_plan_X8_isDay rfl rfl rfl (by decide +kernel) ⟨Nat.le_of_ble_eq_true rfl, Nat.le_of_ble_eq_true rfl⟩) rfl hl.1 rfl (Nat.le_of_ble_eq_true rfl) dX8_plan_30 ⟨Nat.zero_le _, Nat.zero_le _⟩ (fun H locs hw => ?_)
        refine lv_if_ne (tgt := 39) hx hb dX8_plan_33 (by decide) (fun c_15 => ?_) (fun c_15 => ?_)
        · replace hf := if_f c_15 hf
          refine lv_iconst (v := 0) hx hb dX8_plan_39 (by decide) ?_
          refine lv_istore (lv' := [(4, .int 0), (0, .ref (a 0)), (1, .int p1), (2, .int p2), (3, .int p3)]) hx hb dX8_plan_40 hl (by decide) rfl (fun ls hl => ?_)
          refine loopF_ind (body := f_X8_plan_L42 p1 p2 p3) (fun (q : Int32 × St) => match q with | (v_16, S_17) => ∀ (H : Heap) (locs : List Loc) (ls : Array Slot), Wd G A s H locs (mw G.2.1 a R S_17) → lv_has ls 6 [(0, .ref (a 0)), (1, .int p1), (2, .int p2), (3, .int p3), (4, .int v_16)] → WQ p l e rm_X8_plan s m [.ref (a 0), .int p1, .int p2, .int p3] below meth c G A (mw G.2.1 a R S9) (some (.int r0)) 0 0 H locs 0 0 (F0 m 42 ls [])) ?_ FU (0, S) hf _ _ _ hw (lv_sub hl [1, 2, 3, 4, 0] rfl)
          clear hf hw hl
          intro ⟨v_16, S_17⟩ t0_42 hf hz1_0_42 hz2_0_42 H locs ls hw hl
          rw [f_X8_plan_L42] at hf
          refine lv_iload hx hb dX8_plan_42 (lv_at hl 4 rfl) ?_
          refine lv_iload_n hx hb dX8_plan_44 rfl (lv_at hl 3 rfl) ?_
          refine lv_icmp_ge (tgt := 70) hx hb dX8_plan_45 (by decide) (fun c_18 => ?_) (fun c_18 => ?_)
          · replace hf := if_t c_18 hf
            refine lv_iconst (v := 0) hx hb dX8_plan_70 (by decide) ?_
            refine lv_istore (lv' := [(4, .int 0), (0, .ref (a 0)), (1, .int p1), (2, .int p2), (3, .int p3)]) hx hb dX8_plan_71 hl (by decide) rfl (fun ls hl => ?_)
            refine lv_iconst (v := 0) hx hb dX8_plan_73 (by decide) ?_
            refine lv_istore (lv' := [(5, .int 0), (4, .int 0), (0, .ref (a 0)), (1, .int p1), (2, .int p2), (3, .int p3)]) hx hb dX8_plan_74 hl (by decide) rfl (fun ls hl => ?_)
            refine loopF_ind (body := f_X8_plan_L76 p1 p2 p3) (fun (q : Int32 × Int32 × St) => match q with | (v_19, v_20, S_21) => ∀ (H : Heap) (locs : List Loc) (ls : Array Slot), Wd G A s H locs (mw G.2.1 a R S_21) → lv_has ls 6 [(0, .ref (a 0)), (1, .int p1), (2, .int p2), (3, .int p3), (4, .int v_19), (5, .int v_20)] → WQ p l e rm_X8_plan s m [.ref (a 0), .int p1, .int p2, .int p3] below meth c G A (mw G.2.1 a R S9) (some (.int r0)) 0 0 H locs 0 0 (F0 m 76 ls [])) ?_ FU (0, 0, S_17) hf _ _ _ hw (lv_sub hl [2, 3, 4, 5, 1, 0] rfl)
            clear hf hw hl
            intro ⟨v_19, v_20, S_21⟩ t1_76 hf hz1_1_76 hz2_1_76 H locs ls hw hl
            rw [f_X8_plan_L76] at hf
            refine lv_iload hx hb dX8_plan_76 (lv_at hl 5 rfl) ?_
            refine lv_aload_n hx hb dX8_plan_78 rfl (lv_at hl 0 rfl) ?_
            refine va_get (D := G.1) (ci := 8) (v := .int (gI S_21 10)) (C := RX8) (T := TX8) (N := 45) hx hb hts hin8 hown hG.1 hw.1 0 rfl rfl 14 (by decide) (hts (.fieldLink RX8 189 "DutyDeskModel" "lawyers" "I") (List.mem_of_getElem? (i := 2) rfl)) (fun _ h9 => h9) rfl dX8_plan_79 ?_
            refine lv_icmp_ge (tgt := 127) hx hb dX8_plan_82 (by decide) (fun c_22 => ?_) (fun c_22 => ?_)
            · replace hf := if_t c_22 hf
              refine lv_aload_n hx hb dX8_plan_127 rfl (lv_at hl 0 rfl) ?_
              refine lv_iload_n hx hb dX8_plan_128 rfl (lv_at hl 3 rfl) ?_
              refine va_put (D := G.1) (ci := 8) (v := .int p3) (ty := .int) (C := RX8) (T := TX8) (N := 45) hx hb hts hin8 tyX8 tyX8_ok nmX8 hown hG.1 hw.1 hw.2.1 hw.2.2 0 rfl rfl 25 (by decide) (hts (.fieldLink RX8 214 "DutyDeskModel" "bestEmpty" "I") (List.mem_of_getElem? (i := 4) rfl)) (fun _ h9 => h9) rfl (by decide +kernel) rfl rfl (Nat.le_of_ble_eq_true rfl) dX8_plan_129 (fun H locs hP hD hS => ?_)
              obtain ⟨S_23, eS_23⟩ : ∃ z : St, z = sI S_21 11 p3 := ⟨_, rfl⟩
              replace hf := bnd_of eS_23 hf
              have hw : Wd G A s H locs (mw G.2.1 a R S_23) := wd_eq (by rw [eS_23]; exact mw_upI11 _) hP hD hS
              refine lv_aload_n hx hb dX8_plan_132 rfl (lv_at hl 0 rfl) ?_
              refine lv_ldc (v := 2147483647) hx hb hown (hts (.constant RX8 230 (2147483647)) (List.mem_of_getElem? (i := 5) rfl)) dX8_plan_133 ?_
              refine va_put (D := G.1) (ci := 8) (v := .int 2147483647) (ty := .int) (C := RX8) (T := TX8) (N := 45) hx hb hts hin8 tyX8 tyX8_ok nmX8 hown hG.1 hw.1 hw.2.1 hw.2.2 0 rfl rfl 26 (by decide) (hts (.fieldLink RX8 220 "DutyDeskModel" "bestSum" "I") (List.mem_of_getElem? (i := 6) rfl)) (fun _ h9 => h9) rfl (by decide +kernel) rfl rfl (Nat.le_of_ble_eq_true rfl) dX8_plan_135 (fun H locs hP hD hS => ?_)
              obtain ⟨S_24, eS_24⟩ : ∃ z : St, z = sI S_23 12 2147483647 := ⟨_, rfl⟩
              replace hf := bnd_of eS_24 hf
              have hw : Wd G A s H locs (mw G.2.1 a R S_24) := wd_eq (by rw [eS_24]; exact mw_upI12 _) hP hD hS
              refine lv_iconst (v := 0) hx hb dX8_plan_138 (by decide) ?_
              refine lv_istore (lv' := [(5, .int 0), (0, .ref (a 0)), (1, .int p1), (2, .int p2), (3, .int p3), (4, .int v_19)]) hx hb dX8_plan_139 hl (by decide) rfl (fun ls hl => ?_)
              refine loopF_ind (body := f_X8_plan_L141 v_19 p1 p2 p3) (fun (q : Int32 × St) => match q with | (v_25, S_26) => ∀ (H : Heap) (locs : List Loc) (ls : Array Slot), Wd G A s H locs (mw G.2.1 a R S_26) → lv_has ls 6 [(0, .ref (a 0)), (1, .int p1), (2, .int p2), (3, .int p3), (4, .int v_19), (5, .int v_25)] → WQ p l e rm_X8_plan s m [.ref (a 0), .int p1, .int p2, .int p3] below meth c G A (mw G.2.1 a R S9) (some (.int r0)) 0 0 H locs 0 0 (F0 m 141 ls [])) ?_ FU (0, S_24) hf _ _ _ hw (lv_sub hl [1, 2, 3, 4, 5, 0] rfl)
              clear hf hw hl
              intro ⟨v_25, S_26⟩ t2_141 hf hz1_2_141 hz2_2_141 H locs ls hw hl
              rw [f_X8_plan_L141] at hf
              refine lv_iload hx hb dX8_plan_141 (lv_at hl 5 rfl) ?_
              refine lv_iload_n hx hb dX8_plan_143 rfl (lv_at hl 3 rfl) ?_
              refine lv_icmp_ge (tgt := 161) hx hb dX8_plan_144 (by decide) (fun c_27 => ?_) (fun c_27 => ?_)
              · replace hf := if_t c_27 hf
                refine lv_aload_n hx hb dX8_plan_161 rfl (lv_at hl 0 rfl) ?_
                refine lv_iload_n hx hb dX8_plan_162 rfl (lv_at hl 1 rfl) ?_
                refine lv_iload_n hx hb dX8_plan_163 rfl (lv_at hl 2 rfl) ?_
                refine lv_iload_n hx hb dX8_plan_164 rfl (lv_at hl 3 rfl) ?_
                refine lv_iconst (v := 0) hx hb dX8_plan_165 (by decide) ?_
                refine lv_iconst (v := 0) hx hb dX8_plan_166 (by decide) ?_
                refine lv_iload hx hb dX8_plan_167 (lv_at hl 4 rfl) ?_
                obtain ⟨S_29, h_28, hf⟩ := bind_of hf
                refine cV (As := [.int p1, .int p2, .int p3, .int 0, .int 0, .int v_19]) (rest := []) ⟨hx, hb, hml, hown, hts⟩ hG hA hw (c_X8_tryNights G l a R 6 S_26 p1 p2 p3 0 0 v_19 S_29 h_28) (cwV 6 hts gX8_plan_X8_tryNights rfl rfl rfl (by decide +kernel) ⟨Nat.le_of_ble_eq_true rfl, Nat.le_of_ble_eq_true rfl⟩) (va_recv hG.1 hw.1 (ci := 8) (q0 := 0) rfl rfl) rfl hl.1 rfl (Nat.le_of_ble_eq_true rfl) dX8_plan_169 ⟨Nat.zero_le _, Nat.zero_le _⟩ (fun H locs hw => ?_)
                refine lv_iconst (v := 0) hx hb dX8_plan_172 (by decide) ?_
                refine lv_istore (lv' := [(5, .int 0), (0, .ref (a 0)), (1, .int p1), (2, .int p2), (3, .int p3), (4, .int v_19)]) hx hb dX8_plan_173 hl (by decide) rfl (fun ls hl => ?_)
                refine loopF_ind (body := f_X8_plan_L175 p1 p2 p3) (fun (q : Int32 × St) => match q with | (v_30, S_31) => ∀ (H : Heap) (locs : List Loc) (ls : Array Slot), Wd G A s H locs (mw G.2.1 a R S_31) → lv_has ls 6 [(0, .ref (a 0)), (1, .int p1), (2, .int p2), (3, .int p3), (5, .int v_30)] → WQ p l e rm_X8_plan s m [.ref (a 0), .int p1, .int p2, .int p3] below meth c G A (mw G.2.1 a R S9) (some (.int r0)) 0 0 H locs 0 0 (F0 m 175 ls [])) ?_ FU (0, S_29) hf _ _ _ hw (lv_sub hl [1, 2, 3, 4, 0] rfl)
                clear hf hw hl
                intro ⟨v_30, S_31⟩ t3_175 hf hz1_3_175 hz2_3_175 H locs ls hw hl
                rw [f_X8_plan_L175] at hf
                refine lv_iload hx hb dX8_plan_175 (lv_at hl 4 rfl) ?_
                refine lv_iload_n hx hb dX8_plan_177 rfl (lv_at hl 3 rfl) ?_
                refine lv_icmp_ge (tgt := 209) hx hb dX8_plan_178 (by decide) (fun c_32 => ?_) (fun c_32 => ?_)
                · replace hf := if_t c_32 hf
                  refine lv_aload_n hx hb dX8_plan_209 rfl (lv_at hl 0 rfl) ?_
                  refine va_get (D := G.1) (ci := 8) (v := .int (gI S_31 11)) (C := RX8) (T := TX8) (N := 45) hx hb hts hin8 hown hG.1 hw.1 0 rfl rfl 25 (by decide) (hts (.fieldLink RX8 214 "DutyDeskModel" "bestEmpty" "I") (List.mem_of_getElem? (i := 4) rfl)) (fun _ h9 => h9) rfl dX8_plan_210 ?_
                  have e_33 := Option.some.inj hf
                  have e_34 := hz2_3_175 _ e_33.symm
                  have e_35 := hz2_2_141 _ e_34.symm
                  have e_36 := hz2_1_76 _ e_35.symm
                  have e_37 := hz2_0_42 _ e_36.symm
                  obtain ⟨rfl, rfl⟩ := Prod.mk.inj e_37
                  exact wd_iret hx hb hr hlocks hw dX8_plan_213
                · replace hf := if_f c_32 hf
                  refine lv_aload_n hx hb dX8_plan_181 rfl (lv_at hl 0 rfl) ?_
                  refine va_get (D := G.1) (ci := 8) (v := .ref (a 11)) (C := RX8) (T := TX8) (N := 45) hx hb hts hin8 hown hG.1 hw.1 0 rfl rfl 21 (by decide) (hts (.fieldLink RX8 46 "DutyDeskModel" "duty" "[I") (List.mem_of_getElem? (i := 1) rfl)) (fun _ h9 => h9) rfl dX8_plan_182 ?_
                  refine lv_sipush (v := 1000) hx hb dX8_plan_185 (by decide) ?_
                  refine lv_iload_n hx hb dX8_plan_188 rfl (lv_at hl 1 rfl) ?_
                  refine lv_imul hx hb dX8_plan_189 ?_
                  refine lv_iload_n hx hb dX8_plan_190 rfl (lv_at hl 2 rfl) ?_
                  refine lv_iadd hx hb dX8_plan_191 ?_
                  refine lv_iload hx hb dX8_plan_192 (lv_at hl 4 rfl) ?_
                  refine lv_iadd hx hb dX8_plan_194 ?_
                  refine lv_aload_n hx hb dX8_plan_195 rfl (lv_at hl 0 rfl) ?_
                  refine va_get (D := G.1) (ci := 8) (v := .ref (a 13)) (C := RX8) (T := TX8) (N := 45) hx hb hts hin8 hown hG.1 hw.1 0 rfl rfl 23 (by decide) (hts (.fieldLink RX8 52 "DutyDeskModel" "best" "[I") (List.mem_of_getElem? (i := 7) rfl)) (fun _ h9 => h9) rfl dX8_plan_196 ?_
                  refine lv_iload hx hb dX8_plan_199 (lv_at hl 4 rfl) ?_
                  obtain ⟨h_38, hf⟩ := gd_of hf
                  refine va_iald hx hb hG.1 hw.1 13 1 (mw_atI (k := 13) rfl) rfl h_38 dX8_plan_201 ?_
                  obtain ⟨h_39, hf⟩ := gd_of hf
                  refine va_iast hx hb hG.1 hw.1 hw.2.1 hw.2.2 11 1 (mw_atI (k := 11) rfl) rfl h_39 dX8_plan_202 (fun H locs hP hD hS => ?_)
                  obtain ⟨S_40, eS_40⟩ : ∃ z : St, z = sM S_31 11 ((((1000 * p1) + p2) + v_30).toNatClampNeg) (gM S_31 13 v_30.toNatClampNeg) := ⟨_, rfl⟩
                  replace hf := bnd_of eS_40 hf
                  have hw : Wd G A s H locs (mw G.2.1 a R S_40) := wd_eq (by rw [eS_40]; exact mw_upI (k := 11) rfl _) hP hD hS
                  obtain ⟨x_41, ex_41⟩ : ∃ z : Int32, z = v_30 + 1 := ⟨_, rfl⟩
                  replace hf := bnd_of ex_41 hf
                  refine lv_iinc (v := x_41) (lv' := [(5, .int x_41), (0, .ref (a 0)), (1, .int p1), (2, .int p2), (3, .int p3)]) hx hb dX8_plan_203 hl (k := 4) rfl (by rw [ex_41]; rfl) (by decide) rfl (fun ls hl => ?_)
                  refine lv_goto (tgt := 175) hx hb dX8_plan_206 (by decide) ?_
                  have e_42 := Option.some.inj hf
                  exact hz1_3_175 _ e_42.symm _ _ _ hw (lv_sub hl [1, 2, 3, 4, 0] rfl)
              · replace hf := if_f c_27 hf
                refine lv_aload_n hx hb dX8_plan_147 rfl (lv_at hl 0 rfl) ?_
                refine va_get (D := G.1) (ci := 8) (v := .ref (a 13)) (C := RX8) (T := TX8) (N := 45) hx hb hts hin8 hown hG.1 hw.1 0 rfl rfl 23 (by decide) (hts (.fieldLink RX8 52 "DutyDeskModel" "best" "[I") (List.mem_of_getElem? (i := 7) rfl)) (fun _ h9 => h9) rfl dX8_plan_148 ?_
                refine lv_iload hx hb dX8_plan_151 (lv_at hl 5 rfl) ?_
                refine lv_iconst (v := (-1)) hx hb dX8_plan_153 (by decide) ?_
                obtain ⟨h_43, hf⟩ := gd_of hf
                refine va_iast hx hb hG.1 hw.1 hw.2.1 hw.2.2 13 1 (mw_atI (k := 13) rfl) rfl h_43 dX8_plan_154 (fun H locs hP hD hS => ?_)
                obtain ⟨S_44, eS_44⟩ : ∃ z : St, z = sM S_26 13 (v_25.toNatClampNeg) (-1) := ⟨_, rfl⟩
                replace hf := bnd_of eS_44 hf
                have hw : Wd G A s H locs (mw G.2.1 a R S_44) := wd_eq (by rw [eS_44]; exact mw_upI (k := 13) rfl _) hP hD hS
                obtain ⟨x_45, ex_45⟩ : ∃ z : Int32, z = v_25 + 1 := ⟨_, rfl⟩
                replace hf := bnd_of ex_45 hf
                refine lv_iinc (v := x_45) (lv' := [(5, .int x_45), (0, .ref (a 0)), (1, .int p1), (2, .int p2), (3, .int p3), (4, .int v_19)]) hx hb dX8_plan_155 hl (k := 5) rfl (by rw [ex_45]; rfl) (by decide) rfl (fun ls hl => ?_)
                refine lv_goto (tgt := 141) hx hb dX8_plan_158 (by decide) ?_
                have e_46 := Option.some.inj hf
                exact hz1_2_141 _ e_46.symm _ _ _ hw (lv_sub hl [1, 2, 3, 4, 5, 0] rfl)
            · replace hf := if_f c_22 hf
              refine lv_aload_n hx hb dX8_plan_85 rfl (lv_at hl 0 rfl) ?_
              refine va_get (D := G.1) (ci := 8) (v := .ref (a 14)) (C := RX8) (T := TX8) (N := 45) hx hb hts hin8 hown hG.1 hw.1 0 rfl rfl 24 (by decide) (hts (.fieldLink RX8 55 "DutyDeskModel" "held" "[I") (List.mem_of_getElem? (i := 3) rfl)) (fun _ h9 => h9) rfl dX8_plan_86 ?_
              refine lv_iload hx hb dX8_plan_89 (lv_at hl 5 rfl) ?_
              refine lv_aload_n hx hb dX8_plan_91 rfl (lv_at hl 0 rfl) ?_
              refine lv_iload hx hb dX8_plan_92 (lv_at hl 5 rfl) ?_
              refine lv_sipush (v := 999) hx hb dX8_plan_94 (by decide) ?_
              obtain ⟨r_48, h_47, hf⟩ := bind_of hf
              refine cV (As := [.int v_20, .int 999]) (rest := [.int v_20, .ref (a 14)]) ⟨hx, hb, hml, hown, hts⟩ hG hA hw (c_X8_duties G l a R S_21 v_20 999 r_48 h_47) (cwV 2 hts gX8_plan_X8_duties rfl rfl rfl (by decide +kernel) ⟨Nat.le_of_ble_eq_true rfl, Nat.le_of_ble_eq_true rfl⟩) (va_recv hG.1 hw.1 (ci := 8) (q0 := 0) rfl rfl) rfl hl.1 rfl (Nat.le_of_ble_eq_true rfl) dX8_plan_97 ⟨Nat.zero_le _, Nat.zero_le _⟩ (fun H locs hw => ?_)
              obtain ⟨h_49, hf⟩ := gd_of hf
              refine va_iast hx hb hG.1 hw.1 hw.2.1 hw.2.2 14 1 (mw_atI (k := 14) rfl) rfl h_49 dX8_plan_100 (fun H locs hP hD hS => ?_)
              obtain ⟨S_50, eS_50⟩ : ∃ z : St, z = sM S_21 14 (v_20.toNatClampNeg) r_48 := ⟨_, rfl⟩
              replace hf := bnd_of eS_50 hf
              have hw : Wd G A s H locs (mw G.2.1 a R S_50) := wd_eq (by rw [eS_50]; exact mw_upI (k := 14) rfl _) hP hD hS
              refine lv_iload hx hb dX8_plan_101 (lv_at hl 4 rfl) ?_
              refine lv_aload_n hx hb dX8_plan_103 rfl (lv_at hl 0 rfl) ?_
              refine va_get (D := G.1) (ci := 8) (v := .ref (a 14)) (C := RX8) (T := TX8) (N := 45) hx hb hts hin8 hown hG.1 hw.1 0 rfl rfl 24 (by decide) (hts (.fieldLink RX8 55 "DutyDeskModel" "held" "[I") (List.mem_of_getElem? (i := 3) rfl)) (fun _ h9 => h9) rfl dX8_plan_104 ?_
              refine lv_iload hx hb dX8_plan_107 (lv_at hl 5 rfl) ?_
              obtain ⟨h_51, hf⟩ := gd_of hf
              refine va_iald hx hb hG.1 hw.1 14 1 (mw_atI (k := 14) rfl) rfl h_51 dX8_plan_109 ?_
              refine lv_aload_n hx hb dX8_plan_110 rfl (lv_at hl 0 rfl) ?_
              refine va_get (D := G.1) (ci := 8) (v := .ref (a 14)) (C := RX8) (T := TX8) (N := 45) hx hb hts hin8 hown hG.1 hw.1 0 rfl rfl 24 (by decide) (hts (.fieldLink RX8 55 "DutyDeskModel" "held" "[I") (List.mem_of_getElem? (i := 3) rfl)) (fun _ h9 => h9) rfl dX8_plan_111 ?_
              refine lv_iload hx hb dX8_plan_114 (lv_at hl 5 rfl) ?_
              obtain ⟨h_52, hf⟩ := gd_of hf
              refine va_iald hx hb hG.1 hw.1 14 1 (mw_atI (k := 14) rfl) rfl h_52 dX8_plan_116 ?_
              refine lv_imul hx hb dX8_plan_117 ?_
              refine lv_iadd hx hb dX8_plan_118 ?_
              refine lv_topi (fun x_53 ex_53 => ?_)
              replace hf := bnd_of ex_53 hf
              refine lv_istore (lv' := [(4, .int x_53), (0, .ref (a 0)), (1, .int p1), (2, .int p2), (3, .int p3), (5, .int v_20)]) hx hb dX8_plan_119 hl (by decide) rfl (fun ls hl => ?_)
              obtain ⟨x_54, ex_54⟩ : ∃ z : Int32, z = v_20 + 1 := ⟨_, rfl⟩
              replace hf := bnd_of ex_54 hf
              refine lv_iinc (v := x_54) (lv' := [(5, .int x_54), (4, .int x_53), (0, .ref (a 0)), (1, .int p1), (2, .int p2), (3, .int p3)]) hx hb dX8_plan_121 hl (k := 5) rfl (by rw [ex_54]; rfl) (by decide) rfl (fun ls hl => ?_)
              refine lv_goto (tgt := 76) hx hb dX8_plan_124 (by decide) ?_
              have e_55 := Option.some.inj hf
              exact hz1_1_76 _ e_55.symm _ _ _ hw (lv_sub hl [2, 3, 4, 5, 1, 0] rfl)
          · replace hf := if_f c_18 hf
            refine lv_aload_n hx hb dX8_plan_48 rfl (lv_at hl 0 rfl) ?_
            refine va_get (D := G.1) (ci := 8) (v := .ref (a 11)) (C := RX8) (T := TX8) (N := 45) hx hb hts hin8 hown hG.1 hw.1 0 rfl rfl 21 (by decide) (hts (.fieldLink RX8 46 "DutyDeskModel" "duty" "[I") (List.mem_of_getElem? (i := 1) rfl)) (fun _ h9 => h9) rfl dX8_plan_49 ?_
            refine lv_sipush (v := 1000) hx hb dX8_plan_52 (by decide) ?_
            refine lv_iload_n hx hb dX8_plan_55 rfl (lv_at hl 1 rfl) ?_
            refine lv_imul hx hb dX8_plan_56 ?_
            refine lv_iload_n hx hb dX8_plan_57 rfl (lv_at hl 2 rfl) ?_
            refine lv_iadd hx hb dX8_plan_58 ?_
            refine lv_iload hx hb dX8_plan_59 (lv_at hl 4 rfl) ?_
            refine lv_iadd hx hb dX8_plan_61 ?_
            refine lv_iconst (v := (-1)) hx hb dX8_plan_62 (by decide) ?_
            obtain ⟨h_56, hf⟩ := gd_of hf
            refine va_iast hx hb hG.1 hw.1 hw.2.1 hw.2.2 11 1 (mw_atI (k := 11) rfl) rfl h_56 dX8_plan_63 (fun H locs hP hD hS => ?_)
            obtain ⟨S_57, eS_57⟩ : ∃ z : St, z = sM S_17 11 ((((1000 * p1) + p2) + v_16).toNatClampNeg) (-1) := ⟨_, rfl⟩
            replace hf := bnd_of eS_57 hf
            have hw : Wd G A s H locs (mw G.2.1 a R S_57) := wd_eq (by rw [eS_57]; exact mw_upI (k := 11) rfl _) hP hD hS
            obtain ⟨x_58, ex_58⟩ : ∃ z : Int32, z = v_16 + 1 := ⟨_, rfl⟩
            replace hf := bnd_of ex_58 hf
            refine lv_iinc (v := x_58) (lv' := [(4, .int x_58), (0, .ref (a 0)), (1, .int p1), (2, .int p2), (3, .int p3)]) hx hb dX8_plan_64 hl (k := 4) rfl (by rw [ex_58]; rfl) (by decide) rfl (fun ls hl => ?_)
            refine lv_goto (tgt := 42) hx hb dX8_plan_67 (by decide) ?_
            have e_59 := Option.some.inj hf
            exact hz1_0_42 _ e_59.symm _ _ _ hw (lv_sub hl [1, 2, 3, 4, 0] rfl)
        · replace hf := if_t c_15 hf
          refine lv_bipush (v := (-2)) hx hb dX8_plan_36 (by decide) ?_
          have e_60 := Option.some.inj hf
          obtain ⟨rfl, rfl⟩ := Prod.mk.inj e_60
          exact wd_iret hx hb hr hlocks hw dX8_plan_38
/-! DutyDeskModel.uneven()I -/
def rm_X8_uneven : Room := { frames := 1, cells := 0, slots := 0, locals := 25 }
def f_X8_uneven_L4 (S : St) : (Int32 × Int32) → Option ((Int32 × Int32) ⊕ (Int32))
  | (v_1, v_2) =>
  (if (gI S 10) ≤ v_2 then
    some (.inr (v_1))
  else
    (f_X8_duties S v_2 999).bind (fun r_7 => (f_X8_duties S v_2 999).bind (fun r_9 => bnd (v_1 + (r_7 * r_9)) fun x_10 => bnd (v_2 + 1) fun x_11 => some (.inl (x_10, x_11)))))
def f_X8_uneven (S : St) : Option (Int32) :=
  loopF (f_X8_uneven_L4 S) FU (0, 0)
set_option maxHeartbeats 4000000 in
set_option maxRecDepth 100000 in
theorem c_X8_uneven (G : GP) (l : Launch) (a : Nat → Nat) (R : va_W) (S : St) (r0 : Int32) (hf : f_X8_uneven S = some r0) : MC G l yX8_uneven wsX8_uneven rm_X8_uneven [.ref (a 0)] (mw G.2.1 a R S) (mw G.2.1 a R S) (some (.int r0)) 0 0 := by
  refine MC.mk (cc := cX8_uneven) (maxL := 3) (ret := (some .int)) (by decide) rfl (Nat.le_of_ble_eq_true rfl) ?_
  intro p e s m below meth c A ls ⟨hx, hb, hr, hml, hown, hlocks, _, hts⟩ hw hG hA hl
  have hl : lv_has ls 3 [(0, .ref (a 0))] := hl
  have hin8 : ∀ w ∈ u_ws RX8 TX8 45, w ∈ wsX8_uneven := by decide +kernel
  rw [f_X8_uneven] at hf
  refine lv_iconst (v := 0) hx hb dX8_uneven_0 (by decide) ?_
  refine lv_istore_n (lv' := [(1, .int 0), (0, .ref (a 0))]) hx hb dX8_uneven_1 rfl hl (by decide) rfl (fun ls hl => ?_)
  refine lv_iconst (v := 0) hx hb dX8_uneven_2 (by decide) ?_
  refine lv_istore_n (lv' := [(2, .int 0), (1, .int 0), (0, .ref (a 0))]) hx hb dX8_uneven_3 rfl hl (by decide) rfl (fun ls hl => ?_)
  refine loopF_ind (body := f_X8_uneven_L4 S) (fun (q : Int32 × Int32) => match q with | (v_1, v_2) => ∀ (H : Heap) (locs : List Loc) (ls : Array Slot), Wd G A s H locs (mw G.2.1 a R S) → lv_has ls 3 [(0, .ref (a 0)), (1, .int v_1), (2, .int v_2)] → WQ p l e rm_X8_uneven s m [.ref (a 0)] below meth c G A (mw G.2.1 a R S) (some (.int r0)) 0 0 H locs 0 0 (F0 m 4 ls [])) ?_ FU (0, 0) hf _ _ _ hw (lv_sub hl [2, 1, 0] rfl)
  clear hf hw hl
  intro ⟨v_1, v_2⟩ t0_4 hf hz1_0_4 hz2_0_4 H locs ls hw hl
  rw [f_X8_uneven_L4] at hf
  refine lv_iload_n hx hb dX8_uneven_4 rfl (lv_at hl 2 rfl) ?_
  refine lv_aload_n hx hb dX8_uneven_5 rfl (lv_at hl 0 rfl) ?_
  refine va_get (D := G.1) (ci := 8) (v := .int (gI S 10)) (C := RX8) (T := TX8) (N := 45) hx hb hts hin8 hown hG.1 hw.1 0 rfl rfl 14 (by decide) (hts (.fieldLink RX8 189 "DutyDeskModel" "lawyers" "I") (List.mem_of_getElem? (i := 1) rfl)) (fun _ h9 => h9) rfl dX8_uneven_6 ?_
  refine lv_icmp_ge (tgt := 38) hx hb dX8_uneven_9 (by decide) (fun c_3 => ?_) (fun c_3 => ?_)
  · replace hf := if_t c_3 hf
    refine lv_iload_n hx hb dX8_uneven_38 rfl (lv_at hl 1 rfl) ?_
    have e_4 := Option.some.inj hf
    have e_5 := hz2_0_4 _ e_4.symm
    subst e_5
    exact wd_iret hx hb hr hlocks hw dX8_uneven_39
  · replace hf := if_f c_3 hf
    refine lv_iload_n hx hb dX8_uneven_12 rfl (lv_at hl 1 rfl) ?_
    refine lv_aload_n hx hb dX8_uneven_13 rfl (lv_at hl 0 rfl) ?_
    refine lv_iload_n hx hb dX8_uneven_14 rfl (lv_at hl 2 rfl) ?_
    refine lv_sipush (v := 999) hx hb dX8_uneven_15 (by decide) ?_
    obtain ⟨r_7, h_6, hf⟩ := bind_of hf
    refine cV (As := [.int v_2, .int 999]) (rest := [.int v_1]) ⟨hx, hb, hml, hown, hts⟩ hG hA hw (c_X8_duties G l a R S v_2 999 r_7 h_6) (cwV 2 hts gX8_uneven_X8_duties rfl rfl rfl (by decide +kernel) ⟨Nat.le_of_ble_eq_true rfl, Nat.le_of_ble_eq_true rfl⟩) (va_recv hG.1 hw.1 (ci := 8) (q0 := 0) rfl rfl) rfl hl.1 rfl (Nat.le_of_ble_eq_true rfl) dX8_uneven_18 ⟨Nat.zero_le _, Nat.zero_le _⟩ (fun H locs hw => ?_)
    refine lv_aload_n hx hb dX8_uneven_21 rfl (lv_at hl 0 rfl) ?_
    refine lv_iload_n hx hb dX8_uneven_22 rfl (lv_at hl 2 rfl) ?_
    refine lv_sipush (v := 999) hx hb dX8_uneven_23 (by decide) ?_
    obtain ⟨r_9, h_8, hf⟩ := bind_of hf
    refine cV (As := [.int v_2, .int 999]) (rest := [.int r_7, .int v_1]) ⟨hx, hb, hml, hown, hts⟩ hG hA hw (c_X8_duties G l a R S v_2 999 r_9 h_8) (cwV 2 hts gX8_uneven_X8_duties rfl rfl rfl (by decide +kernel) ⟨Nat.le_of_ble_eq_true rfl, Nat.le_of_ble_eq_true rfl⟩) (va_recv hG.1 hw.1 (ci := 8) (q0 := 0) rfl rfl) rfl hl.1 rfl (Nat.le_of_ble_eq_true rfl) dX8_uneven_26 ⟨Nat.zero_le _, Nat.zero_le _⟩ (fun H locs hw => ?_)
    refine lv_imul hx hb dX8_uneven_29 ?_
    refine lv_iadd hx hb dX8_uneven_30 ?_
    refine lv_topi (fun x_10 ex_10 => ?_)
    replace hf := bnd_of ex_10 hf
    refine lv_istore_n (lv' := [(1, .int x_10), (0, .ref (a 0)), (2, .int v_2)]) hx hb dX8_uneven_31 rfl hl (by decide) rfl (fun ls hl => ?_)
    obtain ⟨x_11, ex_11⟩ : ∃ z : Int32, z = v_2 + 1 := ⟨_, rfl⟩
    replace hf := bnd_of ex_11 hf
    refine lv_iinc (v := x_11) (lv' := [(2, .int x_11), (1, .int x_10), (0, .ref (a 0))]) hx hb dX8_uneven_32 hl (k := 2) rfl (by rw [ex_11]; rfl) (by decide) rfl (fun ls hl => ?_)
    refine lv_goto (tgt := 4) hx hb dX8_uneven_35 (by decide) ?_
    have e_12 := Option.some.inj hf
    exact hz1_0_4 _ e_12.symm _ _ _ hw (lv_sub hl [2, 1, 0] rfl)
/-! DutyDeskModel.against(II)I -/
def rm_X8_against : Room := { frames := 2, cells := 0, slots := 0, locals := 43 }
def f_X8_against (S : St) (p1 : Int32) (p2 : Int32) : Option (Int32 × St) :=
  (f_X8_isLawyer S p1).bind (fun r_2 => (if r_2 = 0 then
    some (((-2), S))
  else
    (f_X8_in p2 0 99).bind (fun r_6 => (if r_6 = 0 then
    some (((-2), S))
  else
    gd ((100 * p1) + p2) 2400 (bnd (gM S 30 ((100 * p1) + p2).toNatClampNeg) fun x_9 => gd ((100 * p1) + p2) 2400 (bnd (sM S 30 (((100 * p1) + p2).toNatClampNeg) (vp_nar .boolean 1)) fun S_11 => (if x_9 = 0 then
    some ((1, S_11))
  else
    some ((0, S_11)))))))))
set_option maxHeartbeats 4000000 in
set_option maxRecDepth 100000 in
theorem c_X8_against (G : GP) (l : Launch) (a : Nat → Nat) (R : va_W) (S : St) (p1 : Int32) (p2 : Int32) (r0 : Int32) (S9 : St) (hf : f_X8_against S p1 p2 = some (r0, S9)) : MC G l yX8_against wsX8_against rm_X8_against [.ref (a 0), .int p1, .int p2] (mw G.2.1 a R S) (mw G.2.1 a R S9) (some (.int r0)) 0 0 := by
  refine MC.mk (cc := cX8_against) (maxL := 4) (ret := (some .int)) (by decide) rfl (Nat.le_of_ble_eq_true rfl) ?_
  intro p e s m below meth c A ls ⟨hx, hb, hr, hml, hown, hlocks, _, hts⟩ hw hG hA hl
  have hl : lv_has ls 4 [(0, .ref (a 0)), (1, .int p1), (2, .int p2)] := hl
  have hin8 : ∀ w ∈ u_ws RX8 TX8 45, w ∈ wsX8_against := by decide +kernel
  rw [f_X8_against] at hf
  refine lv_aload_n hx hb dX8_against_0 rfl (lv_at hl 0 rfl) ?_
  refine lv_iload_n hx hb dX8_against_1 rfl (lv_at hl 1 rfl) ?_
  obtain ⟨r_2, h_1, hf⟩ := bind_of hf
  refine cV (As := [.int p1]) (rest := []) ⟨hx, hb, hml, hown, hts⟩ hG hA hw (c_X8_isLawyer G l a R S p1 r_2 h_1) (cwV 1 hts gX8_against_X8_isLawyer rfl rfl rfl (by decide +kernel) ⟨Nat.le_of_ble_eq_true rfl, Nat.le_of_ble_eq_true rfl⟩) (va_recv hG.1 hw.1 (ci := 8) (q0 := 0) rfl rfl) rfl hl.1 rfl (Nat.le_of_ble_eq_true rfl) dX8_against_2 ⟨Nat.zero_le _, Nat.zero_le _⟩ (fun H locs hw => ?_)
  refine lv_if_eq (tgt := 18) hx hb dX8_against_5 (by decide) (fun c_3 => ?_) (fun c_3 => ?_)
  · replace hf := if_t c_3 hf
    refine lv_bipush (v := (-2)) hx hb dX8_against_18 (by decide) ?_
    have e_4 := Option.some.inj hf
    obtain ⟨rfl, rfl⟩ := Prod.mk.inj e_4
    exact wd_iret hx hb hr hlocks hw dX8_against_20
  · replace hf := if_f c_3 hf
    refine lv_iload_n hx hb dX8_against_8 rfl (lv_at hl 2 rfl) ?_
    refine lv_iconst (v := 0) hx hb dX8_against_9 (by decide) ?_
    refine lv_bipush (v := 99) hx hb dX8_against_10 (by decide) ?_
    obtain ⟨r_6, h_5, hf⟩ := bind_of hf
    refine cS (As := [.int p2, .int 0, .int 99]) (rest := []) ⟨hx, hb, hml, hown, hts⟩ hG hA hw (c_X8_in G l _ p2 0 99 r_6 h_5) (va_cwS 3 hts gX8_against_X8_in rfl rfl rfl (by decide +kernel) ⟨Nat.le_of_ble_eq_true rfl, Nat.le_of_ble_eq_true rfl⟩) rfl hl.1 rfl (Nat.le_of_ble_eq_true rfl) dX8_against_12 ⟨Nat.zero_le _, Nat.zero_le _⟩ (fun H locs hw => ?_)
    refine lv_if_ne (tgt := 21) hx hb dX8_against_15 (by decide) (fun c_7 => ?_) (fun c_7 => ?_)
    · replace hf := if_f c_7 hf
      refine lv_aload_n hx hb dX8_against_21 rfl (lv_at hl 0 rfl) ?_
      refine va_get (D := G.1) (ci := 8) (v := .ref (a 30)) (C := RX8) (T := TX8) (N := 45) hx hb hts hin8 hown hG.1 hw.1 0 rfl rfl 43 (by decide) (hts (.fieldLink RX8 103 "DutyDeskModel" "isAgainst" "[Z") (List.mem_of_getElem? (i := 1) rfl)) (fun _ h9 => h9) rfl dX8_against_22 ?_
      refine lv_bipush (v := 100) hx hb dX8_against_25 (by decide) ?_
      refine lv_iload_n hx hb dX8_against_27 rfl (lv_at hl 1 rfl) ?_
      refine lv_imul hx hb dX8_against_28 ?_
      refine lv_iload_n hx hb dX8_against_29 rfl (lv_at hl 2 rfl) ?_
      refine lv_iadd hx hb dX8_against_30 ?_
      obtain ⟨h_8, hf⟩ := gd_of hf
      refine va_zald hx hb hG.1 hw.1 30 3 (mw_atZ (k := 30) rfl) rfl h_8 dX8_against_31 ?_
      refine lv_topi (fun x_9 ex_9 => ?_)
      replace hf := bnd_of ex_9 hf
      refine lv_istore_n (lv' := [(3, .int x_9), (0, .ref (a 0)), (1, .int p1), (2, .int p2)]) hx hb dX8_against_32 rfl hl (by decide) rfl (fun ls hl => ?_)
      refine lv_aload_n hx hb dX8_against_33 rfl (lv_at hl 1 rfl) ?_
      refine va_get (D := G.1) (ci := 8) (v := .ref (a 30)) (C := RX8) (T := TX8) (N := 45) hx hb hts hin8 hown hG.1 hw.1 0 rfl rfl 43 (by decide) (hts (.fieldLink RX8 103 "DutyDeskModel" "isAgainst" "[Z") (List.mem_of_getElem? (i := 1) rfl)) (fun _ h9 => h9) rfl dX8_against_34 ?_
      refine lv_bipush (v := 100) hx hb dX8_against_37 (by decide) ?_
      refine lv_iload_n hx hb dX8_against_39 rfl (lv_at hl 2 rfl) ?_
      refine lv_imul hx hb dX8_against_40 ?_
      refine lv_iload_n hx hb dX8_against_41 rfl (lv_at hl 3 rfl) ?_
      refine lv_iadd hx hb dX8_against_42 ?_
      refine lv_iconst (v := 1) hx hb dX8_against_43 (by decide) ?_
      obtain ⟨h_10, hf⟩ := gd_of hf
      refine va_zast hx hb hG.1 hw.1 hw.2.1 hw.2.2 30 3 (mw_atZ (k := 30) rfl) rfl h_10 dX8_against_44 (fun H locs hP hD hS => ?_)
      obtain ⟨S_11, eS_11⟩ : ∃ z : St, z = sM S 30 (((100 * p1) + p2).toNatClampNeg) (vp_nar .boolean 1) := ⟨_, rfl⟩
      replace hf := bnd_of eS_11 hf
      have hw : Wd G A s H locs (mw G.2.1 a R S_11) := wd_eq (by rw [eS_11]; exact mw_upZ (k := 30) rfl _) hP hD hS
      refine lv_iload_n hx hb dX8_against_45 rfl (lv_at hl 0 rfl) ?_
      refine lv_if_eq (tgt := 53) hx hb dX8_against_46 (by decide) (fun c_12 => ?_) (fun c_12 => ?_)
      · replace hf := if_t c_12 hf
        refine lv_iconst (v := 1) hx hb dX8_against_53 (by decide) ?_
        have e_13 := Option.some.inj hf
        obtain ⟨rfl, rfl⟩ := Prod.mk.inj e_13
        exact wd_iret hx hb hr hlocks hw dX8_against_54
      · replace hf := if_f c_12 hf
        refine lv_iconst (v := 0) hx hb dX8_against_49 (by decide) ?_
        refine lv_goto (tgt := 54) hx hb dX8_against_50 (by decide) ?_
        have e_14 := Option.some.inj hf
        obtain ⟨rfl, rfl⟩ := Prod.mk.inj e_14
        exact wd_iret hx hb hr hlocks hw dX8_against_54
    · replace hf := if_t c_7 hf
      refine lv_bipush (v := (-2)) hx hb dX8_against_18 (by decide) ?_
      have e_15 := Option.some.inj hf
      obtain ⟨rfl, rfl⟩ := Prod.mk.inj e_15
      exact wd_iret hx hb hr hlocks hw dX8_against_20
/-! DutyDeskModel.waive(II)I -/
def rm_X8_waive : Room := { frames := 1, cells := 0, slots := 0, locals := 22 }
def f_X8_waive (S : St) (p1 : Int32) (p2 : Int32) : Option (Int32 × St) :=
  (f_X8_in p1 0 99).bind (fun r_2 => (if r_2 = 0 then
    some (((-2), S))
  else
    (f_X8_in p2 0 9).bind (fun r_6 => (if r_6 = 0 then
    some (((-2), S))
  else
    gd ((10 * p1) + p2) 1000 (bnd (gM S 31 ((10 * p1) + p2).toNatClampNeg) fun x_9 => gd ((10 * p1) + p2) 1000 (bnd (sM S 31 (((10 * p1) + p2).toNatClampNeg) (vp_nar .boolean 1)) fun S_11 => (if x_9 = 0 then
    some ((1, S_11))
  else
    some ((0, S_11)))))))))
set_option maxHeartbeats 4000000 in
set_option maxRecDepth 100000 in
theorem c_X8_waive (G : GP) (l : Launch) (a : Nat → Nat) (R : va_W) (S : St) (p1 : Int32) (p2 : Int32) (r0 : Int32) (S9 : St) (hf : f_X8_waive S p1 p2 = some (r0, S9)) : MC G l yX8_waive wsX8_waive rm_X8_waive [.ref (a 0), .int p1, .int p2] (mw G.2.1 a R S) (mw G.2.1 a R S9) (some (.int r0)) 0 0 := by
  refine MC.mk (cc := cX8_waive) (maxL := 4) (ret := (some .int)) (by decide) rfl (Nat.le_of_ble_eq_true rfl) ?_
  intro p e s m below meth c A ls ⟨hx, hb, hr, hml, hown, hlocks, _, hts⟩ hw hG hA hl
  have hl : lv_has ls 4 [(0, .ref (a 0)), (1, .int p1), (2, .int p2)] := hl
  have hin8 : ∀ w ∈ u_ws RX8 TX8 45, w ∈ wsX8_waive := by decide +kernel
  rw [f_X8_waive] at hf
  refine lv_iload_n hx hb dX8_waive_0 rfl (lv_at hl 1 rfl) ?_
  refine lv_iconst (v := 0) hx hb dX8_waive_1 (by decide) ?_
  refine lv_bipush (v := 99) hx hb dX8_waive_2 (by decide) ?_
  obtain ⟨r_2, h_1, hf⟩ := bind_of hf
  refine cS (As := [.int p1, .int 0, .int 99]) (rest := []) ⟨hx, hb, hml, hown, hts⟩ hG hA hw (c_X8_in G l _ p1 0 99 r_2 h_1) (va_cwS 3 hts gX8_waive_X8_in rfl rfl rfl (by decide +kernel) ⟨Nat.le_of_ble_eq_true rfl, Nat.le_of_ble_eq_true rfl⟩) rfl hl.1 rfl (Nat.le_of_ble_eq_true rfl) dX8_waive_4 ⟨Nat.zero_le _, Nat.zero_le _⟩ (fun H locs hw => ?_)
  refine lv_if_eq (tgt := 20) hx hb dX8_waive_7 (by decide) (fun c_3 => ?_) (fun c_3 => ?_)
  · replace hf := if_t c_3 hf
    refine lv_bipush (v := (-2)) hx hb dX8_waive_20 (by decide) ?_
    have e_4 := Option.some.inj hf
    obtain ⟨rfl, rfl⟩ := Prod.mk.inj e_4
    exact wd_iret hx hb hr hlocks hw dX8_waive_22
  · replace hf := if_f c_3 hf
    refine lv_iload_n hx hb dX8_waive_10 rfl (lv_at hl 2 rfl) ?_
    refine lv_iconst (v := 0) hx hb dX8_waive_11 (by decide) ?_
    refine lv_bipush (v := 9) hx hb dX8_waive_12 (by decide) ?_
    obtain ⟨r_6, h_5, hf⟩ := bind_of hf
    refine cS (As := [.int p2, .int 0, .int 9]) (rest := []) ⟨hx, hb, hml, hown, hts⟩ hG hA hw (c_X8_in G l _ p2 0 9 r_6 h_5) (va_cwS 3 hts gX8_waive_X8_in rfl rfl rfl (by decide +kernel) ⟨Nat.le_of_ble_eq_true rfl, Nat.le_of_ble_eq_true rfl⟩) rfl hl.1 rfl (Nat.le_of_ble_eq_true rfl) dX8_waive_14 ⟨Nat.zero_le _, Nat.zero_le _⟩ (fun H locs hw => ?_)
    refine lv_if_ne (tgt := 23) hx hb dX8_waive_17 (by decide) (fun c_7 => ?_) (fun c_7 => ?_)
    · replace hf := if_f c_7 hf
      refine lv_aload_n hx hb dX8_waive_23 rfl (lv_at hl 0 rfl) ?_
      refine va_get (D := G.1) (ci := 8) (v := .ref (a 31)) (C := RX8) (T := TX8) (N := 45) hx hb hts hin8 hown hG.1 hw.1 0 rfl rfl 44 (by decide) (hts (.fieldLink RX8 106 "DutyDeskModel" "isWaived" "[Z") (List.mem_of_getElem? (i := 1) rfl)) (fun _ h9 => h9) rfl dX8_waive_24 ?_
      refine lv_bipush (v := 10) hx hb dX8_waive_27 (by decide) ?_
      refine lv_iload_n hx hb dX8_waive_29 rfl (lv_at hl 1 rfl) ?_
      refine lv_imul hx hb dX8_waive_30 ?_
      refine lv_iload_n hx hb dX8_waive_31 rfl (lv_at hl 2 rfl) ?_
      refine lv_iadd hx hb dX8_waive_32 ?_
      obtain ⟨h_8, hf⟩ := gd_of hf
      refine va_zald hx hb hG.1 hw.1 31 3 (mw_atZ (k := 31) rfl) rfl h_8 dX8_waive_33 ?_
      refine lv_topi (fun x_9 ex_9 => ?_)
      replace hf := bnd_of ex_9 hf
      refine lv_istore_n (lv' := [(3, .int x_9), (0, .ref (a 0)), (1, .int p1), (2, .int p2)]) hx hb dX8_waive_34 rfl hl (by decide) rfl (fun ls hl => ?_)
      refine lv_aload_n hx hb dX8_waive_35 rfl (lv_at hl 1 rfl) ?_
      refine va_get (D := G.1) (ci := 8) (v := .ref (a 31)) (C := RX8) (T := TX8) (N := 45) hx hb hts hin8 hown hG.1 hw.1 0 rfl rfl 44 (by decide) (hts (.fieldLink RX8 106 "DutyDeskModel" "isWaived" "[Z") (List.mem_of_getElem? (i := 1) rfl)) (fun _ h9 => h9) rfl dX8_waive_36 ?_
      refine lv_bipush (v := 10) hx hb dX8_waive_39 (by decide) ?_
      refine lv_iload_n hx hb dX8_waive_41 rfl (lv_at hl 2 rfl) ?_
      refine lv_imul hx hb dX8_waive_42 ?_
      refine lv_iload_n hx hb dX8_waive_43 rfl (lv_at hl 3 rfl) ?_
      refine lv_iadd hx hb dX8_waive_44 ?_
      refine lv_iconst (v := 1) hx hb dX8_waive_45 (by decide) ?_
      obtain ⟨h_10, hf⟩ := gd_of hf
      refine va_zast hx hb hG.1 hw.1 hw.2.1 hw.2.2 31 3 (mw_atZ (k := 31) rfl) rfl h_10 dX8_waive_46 (fun H locs hP hD hS => ?_)
      obtain ⟨S_11, eS_11⟩ : ∃ z : St, z = sM S 31 (((10 * p1) + p2).toNatClampNeg) (vp_nar .boolean 1) := ⟨_, rfl⟩
      replace hf := bnd_of eS_11 hf
      have hw : Wd G A s H locs (mw G.2.1 a R S_11) := wd_eq (by rw [eS_11]; exact mw_upZ (k := 31) rfl _) hP hD hS
      refine lv_iload_n hx hb dX8_waive_47 rfl (lv_at hl 0 rfl) ?_
      refine lv_if_eq (tgt := 55) hx hb dX8_waive_48 (by decide) (fun c_12 => ?_) (fun c_12 => ?_)
      · replace hf := if_t c_12 hf
        refine lv_iconst (v := 1) hx hb dX8_waive_55 (by decide) ?_
        have e_13 := Option.some.inj hf
        obtain ⟨rfl, rfl⟩ := Prod.mk.inj e_13
        exact wd_iret hx hb hr hlocks hw dX8_waive_56
      · replace hf := if_f c_12 hf
        refine lv_iconst (v := 0) hx hb dX8_waive_51 (by decide) ?_
        refine lv_goto (tgt := 56) hx hb dX8_waive_52 (by decide) ?_
        have e_14 := Option.some.inj hf
        obtain ⟨rfl, rfl⟩ := Prod.mk.inj e_14
        exact wd_iret hx hb hr hlocks hw dX8_waive_56
    · replace hf := if_t c_7 hf
      refine lv_bipush (v := (-2)) hx hb dX8_waive_20 (by decide) ?_
      have e_15 := Option.some.inj hf
      obtain ⟨rfl, rfl⟩ := Prod.mk.inj e_15
      exact wd_iret hx hb hr hlocks hw dX8_waive_22
