/-! DutyDesk$Planner.allNights(I)I -/
def rm_X4_allNights : Room := { frames := 0, cells := 0, slots := 0, locals := 0 }
def f_X4_allNights (p1 : Int32) : Option (Int32) :=
  some ((((1 : Int32) <<< (p1 &&& 31)) - 1))
set_option maxHeartbeats 4000000 in
set_option maxRecDepth 100000 in
theorem c_X4_allNights (G : GP) (l : Launch) (W0 : va_W) (p1 : Int32) (r0 : Int32) (hf : f_X4_allNights p1 = some r0) : MC G l yX4_allNights wsX4_allNights rm_X4_allNights [.int p1] (W0) (W0) (some (.int r0)) 0 0 := by
  refine MC.mk (cc := cX4_allNights) (maxL := 1) (ret := (some .int)) (by decide) rfl (Nat.le_of_ble_eq_true rfl) ?_
  intro p e s m below meth c A ls ⟨hx, hb, hr, hml, hown, hlocks, _, hts⟩ hw hG hA hl
  have hl : lv_has ls 1 [(0, .int p1)] := hl
  rw [f_X4_allNights] at hf
  refine lv_iconst (v := 1) hx hb dX4_allNights_0 (by decide) ?_
  refine lv_iload_n hx hb dX4_allNights_1 rfl (lv_at hl 0 rfl) ?_
  refine lv_ishl hx hb dX4_allNights_2 ?_
  refine lv_iconst (v := 1) hx hb dX4_allNights_3 (by decide) ?_
  refine lv_isub hx hb dX4_allNights_4 ?_
  have e_1 := Option.some.inj hf
  subst e_1
  exact wd_iret hx hb hr hlocks hw dX4_allNights_5
/-! DutyDesk$Planner.giveSet(IIII)V -/
def rm_X4_giveSet : Room := { frames := 2, cells := 0, slots := 0, locals := 47 }
def f_X4_giveSet_L3 (p1 : Int32) (p2 : Int32) (p3 : Int32) (p4 : Int32) : (Int32 × St) → Option ((Int32 × St) ⊕ (St))
  | (v_1, S_2) =>
  (if 4 ≤ v_1 then
    some (.inr (S_2))
  else
    (f_X7_hasBit p3 v_1).bind (fun r_7 => (if r_7 = 0 then
    bnd (v_1 + 1) fun x_9 => some (.inl (x_9, S_2))
  else
    (f_X2_put S_2 p1 (p2 + v_1) p4).bind (fun S_12 => bnd (v_1 + 1) fun x_13 => some (.inl (x_13, S_12))))))
def f_X4_giveSet (S : St) (p1 : Int32) (p2 : Int32) (p3 : Int32) (p4 : Int32) : Option (St) :=
  loopF (f_X4_giveSet_L3 p1 p2 p3 p4) FU (0, S)
set_option maxHeartbeats 4000000 in
set_option maxRecDepth 100000 in
theorem c_X4_giveSet (G : GP) (l : Launch) (a : Nat → Nat) (ha : a 45 = G.2.2.1) (R : va_W) (S : St) (p1 : Int32) (p2 : Int32) (p3 : Int32) (p4 : Int32) (S9 : St) (hf : f_X4_giveSet S p1 p2 p3 p4 = some S9) : MC G l yX4_giveSet wsX4_giveSet rm_X4_giveSet [.ref (a 5), .int p1, .int p2, .int p3, .int p4] (xw G.2.1 a R S) (xw G.2.1 a R S9) none 0 0 := by
  refine MC.mk (cc := cX4_giveSet) (maxL := 6) (ret := none) (by decide) rfl (Nat.le_of_ble_eq_true rfl) ?_
  intro p e s m below meth c A ls ⟨hx, hb, hr, hml, hown, hlocks, _, hts⟩ hw hG hA hl
  have hl : lv_has ls 6 [(0, .ref (a 5)), (1, .int p1), (2, .int p2), (3, .int p3), (4, .int p4)] := hl
  have hin4 : ∀ w ∈ u_ws RX4 TX4 3, w ∈ wsX4_giveSet := by decide +kernel
  rw [f_X4_giveSet] at hf
  refine lv_iconst (v := 0) hx hb dX4_giveSet_0 (by decide) ?_
  refine lv_istore (lv' := [(5, .int 0), (0, .ref (a 5)), (1, .int p1), (2, .int p2), (3, .int p3), (4, .int p4)]) hx hb dX4_giveSet_1 hl (by decide) rfl (fun ls hl => ?_)
  refine loopF_ind (body := f_X4_giveSet_L3 p1 p2 p3 p4) (fun (q : Int32 × St) => match q with | (v_1, S_2) => ∀ (H : Heap) (locs : List Loc) (ls : Array Slot), Wd G A s H locs (xw G.2.1 a R S_2) → lv_has ls 6 [(0, .ref (a 5)), (1, .int p1), (2, .int p2), (3, .int p3), (4, .int p4), (5, .int v_1)] → WQ p l e rm_X4_giveSet s m [.ref (a 5), .int p1, .int p2, .int p3, .int p4] below meth c G A (xw G.2.1 a R S9) none 0 0 H locs 0 0 (F0 m 3 ls [])) ?_ FU (0, S) hf _ _ _ hw (lv_sub hl [1, 2, 3, 4, 5, 0] rfl)
  clear hf hw hl
  intro ⟨v_1, S_2⟩ t0_3 hf hz1_0_3 hz2_0_3 H locs ls hw hl
  rw [f_X4_giveSet_L3] at hf
  refine lv_iload hx hb dX4_giveSet_3 (lv_at hl 5 rfl) ?_
  refine lv_iconst (v := 4) hx hb dX4_giveSet_5 (by decide) ?_
  refine lv_icmp_ge (tgt := 38) hx hb dX4_giveSet_6 (by decide) (fun c_3 => ?_) (fun c_3 => ?_)
  · replace hf := if_t c_3 hf
    have e_4 := Option.some.inj hf
    have e_5 := hz2_0_3 _ e_4.symm
    subst e_5
    exact wd_vret hx hb hr hlocks hw dX4_giveSet_38
  · replace hf := if_f c_3 hf
    refine lv_iload_n hx hb dX4_giveSet_9 rfl (lv_at hl 3 rfl) ?_
    refine lv_iload hx hb dX4_giveSet_10 (lv_at hl 5 rfl) ?_
    obtain ⟨r_7, h_6, hf⟩ := bind_of hf
    refine cSN (As := [.int p3, .int v_1]) (rest := []) ⟨hx, hb, hml, hown, hts⟩ hG hA hw (c_X7_hasBit G l _ p3 v_1 r_7 h_6) ⟨va_cnB 2 hts gX4_giveSet_X7_hasBit_n65 rfl rfl rfl (hG.2.1 (.methodLinkNest "DutyDesk$Planner" 65 yX7_hasBit "DutyDesk") (List.mem_of_getElem? (i := 76) rfl)) (hts (.initialized RX7) (List.mem_of_getElem? (i := 3) rfl)) (by decide +kernel) ⟨Nat.le_of_ble_eq_true rfl, Nat.le_of_ble_eq_true rfl⟩, hts (.static yX7_hasBit) (List.mem_of_getElem? (i := 2) rfl), trivial⟩ rfl hl.1 rfl (Nat.le_of_ble_eq_true rfl) dX4_giveSet_12 ⟨Nat.zero_le _, Nat.zero_le _⟩ (fun H locs hw => ?_)
    refine lv_if_eq (tgt := 32) hx hb dX4_giveSet_15 (by decide) (fun c_8 => ?_) (fun c_8 => ?_)
    · replace hf := if_t c_8 hf
      obtain ⟨x_9, ex_9⟩ : ∃ z : Int32, z = v_1 + 1 := ⟨_, rfl⟩
      replace hf := bnd_of ex_9 hf
      refine lv_iinc (v := x_9) (lv' := [(5, .int x_9), (0, .ref (a 5)), (1, .int p1), (2, .int p2), (3, .int p3), (4, .int p4)]) hx hb dX4_giveSet_32 hl (k := 5) rfl (by rw [ex_9]; rfl) (by decide) rfl (fun ls hl => ?_)
      refine lv_goto (tgt := 3) hx hb dX4_giveSet_35 (by decide) ?_
      have e_10 := Option.some.inj hf
      exact hz1_0_3 _ e_10.symm _ _ _ hw (lv_sub hl [1, 2, 3, 4, 5, 0] rfl)
    · replace hf := if_f c_8 hf
      refine lv_aload_n hx hb dX4_giveSet_18 rfl (lv_at hl 0 rfl) ?_
      refine va_get (D := G.1) (ci := 4) (v := .ref (a 4)) (C := RX4) (T := TX4) (N := 3) hx hb hts hin4 hown hG.1 hw.1 5 rfl rfl 1 (by decide) (hts (.fieldLink RX4 19 "DutyDesk$Planner" "nights" "LDutyDesk$Nights;") (List.mem_of_getElem? (i := 1) rfl)) (fun _ h9 => h9) rfl dX4_giveSet_19 ?_
      refine lv_iload_n hx hb dX4_giveSet_22 rfl (lv_at hl 1 rfl) ?_
      refine lv_iload_n hx hb dX4_giveSet_23 rfl (lv_at hl 2 rfl) ?_
      refine lv_iload hx hb dX4_giveSet_24 (lv_at hl 5 rfl) ?_
      refine lv_iadd hx hb dX4_giveSet_26 ?_
      refine lv_iload hx hb dX4_giveSet_27 (lv_at hl 4 rfl) ?_
      obtain ⟨S_12, h_11, hf⟩ := bind_of hf
      refine cVN (As := [.int p1, .int (p2 + v_1), .int p4]) (rest := []) ⟨hx, hb, hml, hown, hts⟩ hG hA hw (c_X2_put G l a ha R S_2 p1 (p2 + v_1) p4 S_12 h_11) ⟨va_cnB 3 hts gX4_giveSet_X2_put_n68 rfl rfl rfl (hG.2.1 (.methodLinkNest "DutyDesk$Planner" 68 yX2_put "DutyDesk") (List.mem_of_getElem? (i := 77) rfl)) (hts (.initialized RX2) (List.mem_of_getElem? (i := 6) rfl)) (by decide +kernel) ⟨Nat.le_of_ble_eq_true rfl, Nat.le_of_ble_eq_true rfl⟩, hts (.instanceMethod yX2_put) (List.mem_of_getElem? (i := 5) rfl), hts (.selects RX2 yX2_put yX2_put) (List.mem_of_getElem? (i := 7) rfl)⟩ (va_recv hG.1 hw.1 (ci := 2) (q0 := 4) rfl rfl) rfl hl.1 rfl (Nat.le_of_ble_eq_true rfl) dX4_giveSet_29 ⟨Nat.zero_le _, Nat.zero_le _⟩ (fun H locs hw => ?_)
      obtain ⟨x_13, ex_13⟩ : ∃ z : Int32, z = v_1 + 1 := ⟨_, rfl⟩
      replace hf := bnd_of ex_13 hf
      refine lv_iinc (v := x_13) (lv' := [(5, .int x_13), (0, .ref (a 5)), (1, .int p1), (2, .int p2), (3, .int p3), (4, .int p4)]) hx hb dX4_giveSet_32 hl (k := 5) rfl (by rw [ex_13]; rfl) (by decide) rfl (fun ls hl => ?_)
      refine lv_goto (tgt := 3) hx hb dX4_giveSet_35 (by decide) ?_
      have e_14 := Option.some.inj hf
      exact hz1_0_3 _ e_14.symm _ _ _ hw (lv_sub hl [1, 2, 3, 4, 5, 0] rfl)
/-! DutyDesk$Planner.mayAlso(IIIII)Z -/
def rm_X4_mayAlso : Room := { frames := 4, cells := 0, slots := 0, locals := 98 }
def f_X4_mayAlso (S : St) (p1 : Int32) (p2 : Int32) (p3 : Int32) (p4 : Int32) (p5 : Int32) : Option (Int32 × St) :=
  (f_X4_giveSet S p2 p3 p4 p1).bind (fun S_2 => (f_X2_mayHave S_2 p1 p2 (p3 + p5)).bind (fun r_4 => (f_X4_giveSet S_2 p2 p3 p4 (-1)).bind (fun S_6 => gz r_4 (some ((r_4, S_6))))))
set_option maxHeartbeats 4000000 in
set_option maxRecDepth 100000 in
theorem c_X4_mayAlso (G : GP) (l : Launch) (a : Nat → Nat) (ha : a 45 = G.2.2.1) (R : va_W) (S : St) (p1 : Int32) (p2 : Int32) (p3 : Int32) (p4 : Int32) (p5 : Int32) (r0 : Int32) (S9 : St) (hf : f_X4_mayAlso S p1 p2 p3 p4 p5 = some (r0, S9)) : MC G l yX4_mayAlso wsX4_mayAlso rm_X4_mayAlso [.ref (a 5), .int p1, .int p2, .int p3, .int p4, .int p5] (xw G.2.1 a R S) (xw G.2.1 a R S9) (some (.int r0)) 0 0 := by
  refine MC.mk (cc := cX4_mayAlso) (maxL := 7) (ret := (some .boolean)) (by decide) rfl (Nat.le_of_ble_eq_true rfl) ?_
  intro p e s m below meth c A ls ⟨hx, hb, hr, hml, hown, hlocks, _, hts⟩ hw hG hA hl
  have hl : lv_has ls 7 [(0, .ref (a 5)), (1, .int p1), (2, .int p2), (3, .int p3), (4, .int p4), (5, .int p5)] := hl
  have hin4 : ∀ w ∈ u_ws RX4 TX4 3, w ∈ wsX4_mayAlso := by decide +kernel
  rw [f_X4_mayAlso] at hf
  refine lv_aload_n hx hb dX4_mayAlso_0 rfl (lv_at hl 0 rfl) ?_
  refine lv_iload_n hx hb dX4_mayAlso_1 rfl (lv_at hl 2 rfl) ?_
  refine lv_iload_n hx hb dX4_mayAlso_2 rfl (lv_at hl 3 rfl) ?_
  refine lv_iload hx hb dX4_mayAlso_3 (lv_at hl 4 rfl) ?_
  refine lv_iload_n hx hb dX4_mayAlso_5 rfl (lv_at hl 1 rfl) ?_
  obtain ⟨S_2, h_1, hf⟩ := bind_of hf
  refine cV (As := [.int p2, .int p3, .int p4, .int p1]) (rest := []) ⟨hx, hb, hml, hown, hts⟩ hG hA hw (c_X4_giveSet G l a ha R S p2 p3 p4 p1 S_2 h_1) (cwV 4 hts gX4_mayAlso_X4_giveSet rfl rfl rfl (by decide +kernel) ⟨Nat.le_of_ble_eq_true rfl, Nat.le_of_ble_eq_true rfl⟩) (va_recv hG.1 hw.1 (ci := 4) (q0 := 5) rfl rfl) rfl hl.1 rfl (Nat.le_of_ble_eq_true rfl) dX4_mayAlso_6 ⟨Nat.zero_le _, Nat.zero_le _⟩ (fun H locs hw => ?_)
  refine lv_aload_n hx hb dX4_mayAlso_9 rfl (lv_at hl 0 rfl) ?_
  refine va_get (D := G.1) (ci := 4) (v := .ref (a 4)) (C := RX4) (T := TX4) (N := 3) hx hb hts hin4 hown hG.1 hw.1 5 rfl rfl 1 (by decide) (hts (.fieldLink RX4 19 "DutyDesk$Planner" "nights" "LDutyDesk$Nights;") (List.mem_of_getElem? (i := 1) rfl)) (fun _ h9 => h9) rfl dX4_mayAlso_10 ?_
  refine lv_iload_n hx hb dX4_mayAlso_13 rfl (lv_at hl 1 rfl) ?_
  refine lv_iload_n hx hb dX4_mayAlso_14 rfl (lv_at hl 2 rfl) ?_
  refine lv_iload_n hx hb dX4_mayAlso_15 rfl (lv_at hl 3 rfl) ?_
  refine lv_iload hx hb dX4_mayAlso_16 (lv_at hl 5 rfl) ?_
  refine lv_iadd hx hb dX4_mayAlso_18 ?_
  obtain ⟨r_4, h_3, hf⟩ := bind_of hf
  refine cVN (As := [.int p1, .int p2, .int (p3 + p5)]) (rest := []) ⟨hx, hb, hml, hown, hts⟩ hG hA hw (c_X2_mayHave G l a ha R S_2 p1 p2 (p3 + p5) r_4 h_3) ⟨va_cnB 3 hts gX4_mayAlso_X2_mayHave_n77 rfl rfl rfl (hG.2.1 (.methodLinkNest "DutyDesk$Planner" 77 yX2_mayHave "DutyDesk") (List.mem_of_getElem? (i := 79) rfl)) (hts (.initialized RX2) (List.mem_of_getElem? (i := 11) rfl)) (by decide +kernel) ⟨Nat.le_of_ble_eq_true rfl, Nat.le_of_ble_eq_true rfl⟩, hts (.instanceMethod yX2_mayHave) (List.mem_of_getElem? (i := 21) rfl), hts (.selects RX2 yX2_mayHave yX2_mayHave) (List.mem_of_getElem? (i := 22) rfl)⟩ (va_recv hG.1 hw.1 (ci := 2) (q0 := 4) rfl rfl) rfl hl.1 rfl (Nat.le_of_ble_eq_true rfl) dX4_mayAlso_19 ⟨Nat.zero_le _, Nat.zero_le _⟩ (fun H locs hw => ?_)
  refine lv_istore (lv' := [(6, .int r_4), (0, .ref (a 5)), (1, .int p1), (2, .int p2), (3, .int p3), (4, .int p4), (5, .int p5)]) hx hb dX4_mayAlso_22 hl (by decide) rfl (fun ls hl => ?_)
  refine lv_aload_n hx hb dX4_mayAlso_24 rfl (lv_at hl 1 rfl) ?_
  refine lv_iload_n hx hb dX4_mayAlso_25 rfl (lv_at hl 3 rfl) ?_
  refine lv_iload_n hx hb dX4_mayAlso_26 rfl (lv_at hl 4 rfl) ?_
  refine lv_iload hx hb dX4_mayAlso_27 (lv_at hl 5 rfl) ?_
  refine lv_iconst (v := (-1)) hx hb dX4_mayAlso_29 (by decide) ?_
  obtain ⟨S_6, h_5, hf⟩ := bind_of hf
  refine cV (As := [.int p2, .int p3, .int p4, .int (-1)]) (rest := []) ⟨hx, hb, hml, hown, hts⟩ hG hA hw (c_X4_giveSet G l a ha R S_2 p2 p3 p4 (-1) S_6 h_5) (cwV 4 hts gX4_mayAlso_X4_giveSet rfl rfl rfl (by decide +kernel) ⟨Nat.le_of_ble_eq_true rfl, Nat.le_of_ble_eq_true rfl⟩) (va_recv hG.1 hw.1 (ci := 4) (q0 := 5) rfl rfl) rfl hl.1 rfl (Nat.le_of_ble_eq_true rfl) dX4_mayAlso_30 ⟨Nat.zero_le _, Nat.zero_le _⟩ (fun H locs hw => ?_)
  refine lv_iload hx hb dX4_mayAlso_33 (lv_at hl 0 rfl) ?_
  obtain ⟨h_7, hf⟩ := gz_of hf
  have e_8 := Option.some.inj hf
  obtain ⟨rfl, rfl⟩ := Prod.mk.inj e_8
  exact wd_zret hx hb hr h_7 hlocks hw dX4_mayAlso_35
/-! DutyDesk$Planner.fittingSets(IIII)I -/
def rm_X4_fittingSets : Room := { frames := 5, cells := 0, slots := 0, locals := 124 }
def f_X4_fittingSets_L16 (v_2 : Int32) (p1 : Int32) (p2 : Int32) (p3 : Int32) : (Int32 × Int32 × St) → Option ((Int32 × Int32 × St) ⊕ ((Int32 × Int32 × St) ⊕ (Int32 × St)))
  | (v_7, v_8, S_9) =>
  (if ((1 : Int32) <<< (v_2 &&& 31)) ≤ v_8 then
    bnd (v_2 + 1) fun x_11 => some (.inr (.inl (v_7, x_11, S_9)))
  else
    (f_X7_hasBit v_7 v_8).bind (fun r_15 => (if r_15 = 0 then
    bnd (v_8 + 1) fun x_17 => some (.inl (v_7, x_17, S_9))
  else
    (f_X4_mayAlso S_9 p1 p2 p3 v_8 v_2).bind (fun (r_20, S_21) => (if r_20 = 0 then
    bnd (v_8 + 1) fun x_23 => some (.inl (v_7, x_23, S_21))
  else
    bnd (v_7 ||| ((1 : Int32) <<< ((v_8 ||| ((1 : Int32) <<< (v_2 &&& 31))) &&& 31))) fun x_25 => bnd (v_8 + 1) fun x_26 => some (.inl (x_25, x_26, S_21)))))))
def f_X4_fittingSets_L6 (p1 : Int32) (p2 : Int32) (p3 : Int32) (p4 : Int32) : (Int32 × Int32 × St) → Option ((Int32 × Int32 × St) ⊕ (Int32 × St))
  | (v_1, v_2, S_3) =>
  (if p4 ≤ v_2 then
    some (.inr ((v_1, S_3)))
  else
    loopF (f_X4_fittingSets_L16 v_2 p1 p2 p3) FU (v_1, 0, S_3))
def f_X4_fittingSets (S : St) (p1 : Int32) (p2 : Int32) (p3 : Int32) (p4 : Int32) : Option (Int32 × St) :=
  loopF (f_X4_fittingSets_L6 p1 p2 p3 p4) FU (1, 0, S)
set_option maxHeartbeats 4000000 in
set_option maxRecDepth 100000 in
theorem c_X4_fittingSets (G : GP) (l : Launch) (a : Nat → Nat) (ha : a 45 = G.2.2.1) (R : va_W) (S : St) (p1 : Int32) (p2 : Int32) (p3 : Int32) (p4 : Int32) (r0 : Int32) (S9 : St) (hf : f_X4_fittingSets S p1 p2 p3 p4 = some (r0, S9)) : MC G l yX4_fittingSets wsX4_fittingSets rm_X4_fittingSets [.ref (a 5), .int p1, .int p2, .int p3, .int p4] (xw G.2.1 a R S) (xw G.2.1 a R S9) (some (.int r0)) 0 0 := by
  refine MC.mk (cc := cX4_fittingSets) (maxL := 8) (ret := (some .int)) (by decide) rfl (Nat.le_of_ble_eq_true rfl) ?_
  intro p e s m below meth c A ls ⟨hx, hb, hr, hml, hown, hlocks, _, hts⟩ hw hG hA hl
  have hl : lv_has ls 8 [(0, .ref (a 5)), (1, .int p1), (2, .int p2), (3, .int p3), (4, .int p4)] := hl
  rw [f_X4_fittingSets] at hf
  refine lv_iconst (v := 1) hx hb dX4_fittingSets_0 (by decide) ?_
  refine lv_istore (lv' := [(5, .int 1), (0, .ref (a 5)), (1, .int p1), (2, .int p2), (3, .int p3), (4, .int p4)]) hx hb dX4_fittingSets_1 hl (by decide) rfl (fun ls hl => ?_)
  refine lv_iconst (v := 0) hx hb dX4_fittingSets_3 (by decide) ?_
  refine lv_istore (lv' := [(6, .int 0), (5, .int 1), (0, .ref (a 5)), (1, .int p1), (2, .int p2), (3, .int p3), (4, .int p4)]) hx hb dX4_fittingSets_4 hl (by decide) rfl (fun ls hl => ?_)
  refine loopF_ind (body := f_X4_fittingSets_L6 p1 p2 p3 p4) (fun (q : Int32 × Int32 × St) => match q with | (v_1, v_2, S_3) => ∀ (H : Heap) (locs : List Loc) (ls : Array Slot), Wd G A s H locs (xw G.2.1 a R S_3) → lv_has ls 8 [(0, .ref (a 5)), (1, .int p1), (2, .int p2), (3, .int p3), (4, .int p4), (5, .int v_1), (6, .int v_2)] → WQ p l e rm_X4_fittingSets s m [.ref (a 5), .int p1, .int p2, .int p3, .int p4] below meth c G A (xw G.2.1 a R S9) (some (.int r0)) 0 0 H locs 0 0 (F0 m 6 ls [])) ?_ FU (1, 0, S) hf _ _ _ hw (lv_sub hl [2, 3, 4, 5, 6, 1, 0] rfl)
  clear hf hw hl
  intro ⟨v_1, v_2, S_3⟩ t0_6 hf hz1_0_6 hz2_0_6 H locs ls hw hl
  rw [f_X4_fittingSets_L6] at hf
  refine lv_iload hx hb dX4_fittingSets_6 (lv_at hl 6 rfl) ?_
  refine lv_iload hx hb dX4_fittingSets_8 (lv_at hl 4 rfl) ?_
  refine lv_icmp_ge (tgt := 75) hx hb dX4_fittingSets_10 (by decide) (fun c_4 => ?_) (fun c_4 => ?_)
  · replace hf := if_t c_4 hf
    refine lv_iload hx hb dX4_fittingSets_75 (lv_at hl 5 rfl) ?_
    have e_5 := Option.some.inj hf
    have e_6 := hz2_0_6 _ e_5.symm
    obtain ⟨rfl, rfl⟩ := Prod.mk.inj e_6
    exact wd_iret hx hb hr hlocks hw dX4_fittingSets_77
  · replace hf := if_f c_4 hf
    refine lv_iconst (v := 0) hx hb dX4_fittingSets_13 (by decide) ?_
    refine lv_istore (lv' := [(7, .int 0), (0, .ref (a 5)), (1, .int p1), (2, .int p2), (3, .int p3), (4, .int p4), (5, .int v_1), (6, .int v_2)]) hx hb dX4_fittingSets_14 hl (by decide) rfl (fun ls hl => ?_)
    refine loopF_ind (body := f_X4_fittingSets_L16 v_2 p1 p2 p3) (fun (q : Int32 × Int32 × St) => match q with | (v_7, v_8, S_9) => ∀ (H : Heap) (locs : List Loc) (ls : Array Slot), Wd G A s H locs (xw G.2.1 a R S_9) → lv_has ls 8 [(0, .ref (a 5)), (1, .int p1), (2, .int p2), (3, .int p3), (4, .int p4), (5, .int v_7), (6, .int v_2), (7, .int v_8)] → WQ p l e rm_X4_fittingSets s m [.ref (a 5), .int p1, .int p2, .int p3, .int p4] below meth c G A (xw G.2.1 a R S9) (some (.int r0)) 0 0 H locs 0 0 (F0 m 16 ls [])) ?_ FU (v_1, 0, S_3) hf _ _ _ hw (lv_sub hl [1, 2, 3, 4, 5, 6, 7, 0] rfl)
    clear hf hw hl
    intro ⟨v_7, v_8, S_9⟩ t1_16 hf hz1_1_16 hz2_1_16 H locs ls hw hl
    rw [f_X4_fittingSets_L16] at hf
    refine lv_iload hx hb dX4_fittingSets_16 (lv_at hl 7 rfl) ?_
    refine lv_iconst (v := 1) hx hb dX4_fittingSets_18 (by decide) ?_
    refine lv_iload hx hb dX4_fittingSets_19 (lv_at hl 6 rfl) ?_
    refine lv_ishl hx hb dX4_fittingSets_21 ?_
    refine lv_icmp_ge (tgt := 69) hx hb dX4_fittingSets_22 (by decide) (fun c_10 => ?_) (fun c_10 => ?_)
    · replace hf := if_t c_10 hf
      obtain ⟨x_11, ex_11⟩ : ∃ z : Int32, z = v_2 + 1 := ⟨_, rfl⟩
      replace hf := bnd_of ex_11 hf
      refine lv_iinc (v := x_11) (lv' := [(6, .int x_11), (0, .ref (a 5)), (1, .int p1), (2, .int p2), (3, .int p3), (4, .int p4), (5, .int v_7), (7, .int v_8)]) hx hb dX4_fittingSets_69 hl (k := 6) rfl (by rw [ex_11]; rfl) (by decide) rfl (fun ls hl => ?_)
      refine lv_goto (tgt := 6) hx hb dX4_fittingSets_72 (by decide) ?_
      have e_12 := Option.some.inj hf
      have e_13 := hz2_1_16 _ e_12.symm
      exact hz1_0_6 _ e_13.symm _ _ _ hw (lv_sub hl [1, 2, 3, 4, 5, 6, 0] rfl)
    · replace hf := if_f c_10 hf
      refine lv_iload hx hb dX4_fittingSets_25 (lv_at hl 5 rfl) ?_
      refine lv_iload hx hb dX4_fittingSets_27 (lv_at hl 7 rfl) ?_
      obtain ⟨r_15, h_14, hf⟩ := bind_of hf
      refine cSN (As := [.int v_7, .int v_8]) (rest := []) ⟨hx, hb, hml, hown, hts⟩ hG hA hw (c_X7_hasBit G l _ v_7 v_8 r_15 h_14) ⟨va_cnB 2 hts gX4_fittingSets_X7_hasBit_n65 rfl rfl rfl (hG.2.1 (.methodLinkNest "DutyDesk$Planner" 65 yX7_hasBit "DutyDesk") (List.mem_of_getElem? (i := 76) rfl)) (hts (.initialized RX7) (List.mem_of_getElem? (i := 2) rfl)) (by decide +kernel) ⟨Nat.le_of_ble_eq_true rfl, Nat.le_of_ble_eq_true rfl⟩, hts (.static yX7_hasBit) (List.mem_of_getElem? (i := 1) rfl), trivial⟩ rfl hl.1 rfl (Nat.le_of_ble_eq_true rfl) dX4_fittingSets_29 ⟨Nat.zero_le _, Nat.zero_le _⟩ (fun H locs hw => ?_)
      refine lv_if_eq (tgt := 63) hx hb dX4_fittingSets_32 (by decide) (fun c_16 => ?_) (fun c_16 => ?_)
      · replace hf := if_t c_16 hf
        obtain ⟨x_17, ex_17⟩ : ∃ z : Int32, z = v_8 + 1 := ⟨_, rfl⟩
        replace hf := bnd_of ex_17 hf
        refine lv_iinc (v := x_17) (lv' := [(7, .int x_17), (0, .ref (a 5)), (1, .int p1), (2, .int p2), (3, .int p3), (4, .int p4), (5, .int v_7), (6, .int v_2)]) hx hb dX4_fittingSets_63 hl (k := 7) rfl (by rw [ex_17]; rfl) (by decide) rfl (fun ls hl => ?_)
        refine lv_goto (tgt := 16) hx hb dX4_fittingSets_66 (by decide) ?_
        have e_18 := Option.some.inj hf
        exact hz1_1_16 _ e_18.symm _ _ _ hw (lv_sub hl [1, 2, 3, 4, 5, 6, 7, 0] rfl)
      · replace hf := if_f c_16 hf
        refine lv_aload_n hx hb dX4_fittingSets_35 rfl (lv_at hl 0 rfl) ?_
        refine lv_iload_n hx hb dX4_fittingSets_36 rfl (lv_at hl 1 rfl) ?_
        refine lv_iload_n hx hb dX4_fittingSets_37 rfl (lv_at hl 2 rfl) ?_
        refine lv_iload_n hx hb dX4_fittingSets_38 rfl (lv_at hl 3 rfl) ?_
        refine lv_iload hx hb dX4_fittingSets_39 (lv_at hl 7 rfl) ?_
        refine lv_iload hx hb dX4_fittingSets_41 (lv_at hl 6 rfl) ?_
        obtain ⟨⟨r_20, S_21⟩, h_19, hf⟩ := bind_of hf
        replace hf : _ = some _ := hf
        refine cV (As := [.int p1, .int p2, .int p3, .int v_8, .int v_2]) (rest := []) ⟨hx, hb, hml, hown, hts⟩ hG hA hw (c_X4_mayAlso G l a ha R S_9 p1 p2 p3 v_8 v_2 r_20 S_21 h_19) (cwV 5 hts gX4_fittingSets_X4_mayAlso rfl rfl rfl (by decide +kernel) ⟨Nat.le_of_ble_eq_true rfl, Nat.le_of_ble_eq_true rfl⟩) (va_recv hG.1 hw.1 (ci := 4) (q0 := 5) rfl rfl) rfl hl.1 rfl (Nat.le_of_ble_eq_true rfl) dX4_fittingSets_43 ⟨Nat.zero_le _, Nat.zero_le _⟩ (fun H locs hw => ?_)
        refine lv_if_eq (tgt := 63) hx hb dX4_fittingSets_46 (by decide) (fun c_22 => ?_) (fun c_22 => ?_)
        · replace hf := if_t c_22 hf
          obtain ⟨x_23, ex_23⟩ : ∃ z : Int32, z = v_8 + 1 := ⟨_, rfl⟩
          replace hf := bnd_of ex_23 hf
          refine lv_iinc (v := x_23) (lv' := [(7, .int x_23), (0, .ref (a 5)), (1, .int p1), (2, .int p2), (3, .int p3), (4, .int p4), (5, .int v_7), (6, .int v_2)]) hx hb dX4_fittingSets_63 hl (k := 7) rfl (by rw [ex_23]; rfl) (by decide) rfl (fun ls hl => ?_)
          refine lv_goto (tgt := 16) hx hb dX4_fittingSets_66 (by decide) ?_
          have e_24 := Option.some.inj hf
          exact hz1_1_16 _ e_24.symm _ _ _ hw (lv_sub hl [1, 2, 3, 4, 5, 6, 7, 0] rfl)
        · replace hf := if_f c_22 hf
          refine lv_iload hx hb dX4_fittingSets_49 (lv_at hl 5 rfl) ?_
          refine lv_iconst (v := 1) hx hb dX4_fittingSets_51 (by decide) ?_
          refine lv_iload hx hb dX4_fittingSets_52 (lv_at hl 7 rfl) ?_
          refine lv_iconst (v := 1) hx hb dX4_fittingSets_54 (by decide) ?_
          refine lv_iload hx hb dX4_fittingSets_55 (lv_at hl 6 rfl) ?_
          refine lv_ishl hx hb dX4_fittingSets_57 ?_
          refine lv_ior hx hb dX4_fittingSets_58 ?_
          refine lv_ishl hx hb dX4_fittingSets_59 ?_
          refine lv_ior hx hb dX4_fittingSets_60 ?_
          refine lv_topi (fun x_25 ex_25 => ?_)
          replace hf := bnd_of ex_25 hf
          refine lv_istore (lv' := [(5, .int x_25), (0, .ref (a 5)), (1, .int p1), (2, .int p2), (3, .int p3), (4, .int p4), (6, .int v_2), (7, .int v_8)]) hx hb dX4_fittingSets_61 hl (by decide) rfl (fun ls hl => ?_)
          obtain ⟨x_26, ex_26⟩ : ∃ z : Int32, z = v_8 + 1 := ⟨_, rfl⟩
          replace hf := bnd_of ex_26 hf
          refine lv_iinc (v := x_26) (lv' := [(7, .int x_26), (5, .int x_25), (0, .ref (a 5)), (1, .int p1), (2, .int p2), (3, .int p3), (4, .int p4), (6, .int v_2)]) hx hb dX4_fittingSets_63 hl (k := 7) rfl (by rw [ex_26]; rfl) (by decide) rfl (fun ls hl => ?_)
          refine lv_goto (tgt := 16) hx hb dX4_fittingSets_66 (by decide) ?_
          have e_27 := Option.some.inj hf
          exact hz1_1_16 _ e_27.symm _ _ _ hw (lv_sub hl [2, 3, 4, 5, 6, 1, 7, 0] rfl)
/-! DutyDesk$Planner.rowOf(III)J -/
def rm_X4_rowOf : Room := { frames := 1, cells := 0, slots := 0, locals := 21 }
def f_X4_rowOf_L5 (p1 : Int32) (p2 : Int32) (p3 : Int32) : (Int64 × Int32) → Option ((Int64 × Int32) ⊕ (Int64))
  | (v_1, v_2) =>
  (if p3 ≤ v_2 then
    some (.inr (v_1))
  else
    (f_X7_hasBit p2 v_2).bind (fun r_7 => (if r_7 = 0 then
    bnd ((v_1 <<< ((5 : Int32).toInt64 &&& 63)) + ((0 : Int32).toInt64)) fun x_9 => bnd (v_2 + 1) fun x_10 => some (.inl (x_9, x_10))
  else
    bnd ((v_1 <<< ((5 : Int32).toInt64 &&& 63)) + p1.toInt64) fun x_12 => bnd (v_2 + 1) fun x_13 => some (.inl (x_12, x_13)))))
def f_X4_rowOf (p1 : Int32) (p2 : Int32) (p3 : Int32) : Option (Int64) :=
  loopF (f_X4_rowOf_L5 p1 p2 p3) FU (0, 0)
set_option maxHeartbeats 4000000 in
set_option maxRecDepth 100000 in
theorem c_X4_rowOf (G : GP) (l : Launch) (W0 : va_W) (p1 : Int32) (p2 : Int32) (p3 : Int32) (r0 : Int64) (hf : f_X4_rowOf p1 p2 p3 = some r0) : MC G l yX4_rowOf wsX4_rowOf rm_X4_rowOf [.int p1, .int p2, .int p3] (W0) (W0) (some (.long r0)) 0 0 := by
  refine MC.mk (cc := cX4_rowOf) (maxL := 6) (ret := (some .long)) (by decide) rfl (Nat.le_of_ble_eq_true rfl) ?_
  intro p e s m below meth c A ls ⟨hx, hb, hr, hml, hown, hlocks, _, hts⟩ hw hG hA hl
  have hl : lv_has ls 6 [(0, .int p1), (1, .int p2), (2, .int p3)] := hl
  rw [f_X4_rowOf] at hf
  refine lv_lconst (v := 0) hx hb dX4_rowOf_0 (by decide) ?_
  refine lv_lstore_n (lv' := [(3, .long 0), (0, .int p1), (1, .int p2), (2, .int p3)]) hx hb dX4_rowOf_1 rfl hl (by decide) rfl (fun ls hl => ?_)
  refine lv_iconst (v := 0) hx hb dX4_rowOf_2 (by decide) ?_
  refine lv_istore (lv' := [(5, .int 0), (3, .long 0), (0, .int p1), (1, .int p2), (2, .int p3)]) hx hb dX4_rowOf_3 hl (by decide) rfl (fun ls hl => ?_)
  refine loopF_ind (body := f_X4_rowOf_L5 p1 p2 p3) (fun (q : Int64 × Int32) => match q with | (v_1, v_2) => ∀ (H : Heap) (locs : List Loc) (ls : Array Slot), Wd G A s H locs (W0) → lv_has ls 6 [(0, .int p1), (1, .int p2), (2, .int p3), (3, .long v_1), (5, .int v_2)] → WQ p l e rm_X4_rowOf s m [.int p1, .int p2, .int p3] below meth c G A (W0) (some (.long r0)) 0 0 H locs 0 0 (F0 m 5 ls [])) ?_ FU (0, 0) hf _ _ _ hw (lv_sub hl [2, 3, 4, 1, 0] rfl)
  clear hf hw hl
  intro ⟨v_1, v_2⟩ t0_5 hf hz1_0_5 hz2_0_5 H locs ls hw hl
  rw [f_X4_rowOf_L5] at hf
  refine lv_iload hx hb dX4_rowOf_5 (lv_at hl 4 rfl) ?_
  refine lv_iload_n hx hb dX4_rowOf_7 rfl (lv_at hl 2 rfl) ?_
  refine lv_icmp_ge (tgt := 37) hx hb dX4_rowOf_8 (by decide) (fun c_3 => ?_) (fun c_3 => ?_)
  · replace hf := if_t c_3 hf
    refine lv_lload_n hx hb dX4_rowOf_37 rfl (lv_at hl 3 rfl) ?_
    have e_4 := Option.some.inj hf
    have e_5 := hz2_0_5 _ e_4.symm
    subst e_5
    exact wd_lret hx hb hr hlocks hw dX4_rowOf_38
  · replace hf := if_f c_3 hf
    refine lv_lload_n hx hb dX4_rowOf_11 rfl (lv_at hl 3 rfl) ?_
    refine lv_iconst (v := 5) hx hb dX4_rowOf_12 (by decide) ?_
    refine lv_lshl (v := v_1 <<< ((5 : Int32).toInt64 &&& 63)) hx hb dX4_rowOf_13 rfl ?_
    refine lv_iload_n hx hb dX4_rowOf_14 rfl (lv_at hl 1 rfl) ?_
    refine lv_iload hx hb dX4_rowOf_15 (lv_at hl 4 rfl) ?_
    obtain ⟨r_7, h_6, hf⟩ := bind_of hf
    refine cSN (As := [.int p2, .int v_2]) (rest := [.long (v_1 <<< ((5 : Int32).toInt64 &&& 63))]) ⟨hx, hb, hml, hown, hts⟩ hG hA hw (c_X7_hasBit G l _ p2 v_2 r_7 h_6) ⟨va_cnB 2 hts gX4_rowOf_X7_hasBit_n65 rfl rfl rfl (hG.2.1 (.methodLinkNest "DutyDesk$Planner" 65 yX7_hasBit "DutyDesk") (List.mem_of_getElem? (i := 76) rfl)) (hts (.initialized RX7) (List.mem_of_getElem? (i := 2) rfl)) (by decide +kernel) ⟨Nat.le_of_ble_eq_true rfl, Nat.le_of_ble_eq_true rfl⟩, hts (.static yX7_hasBit) (List.mem_of_getElem? (i := 1) rfl), trivial⟩ rfl hl.1 rfl (Nat.le_of_ble_eq_true rfl) dX4_rowOf_17 ⟨Nat.zero_le _, Nat.zero_le _⟩ (fun H locs hw => ?_)
    refine lv_if_eq (tgt := 27) hx hb dX4_rowOf_20 (by decide) (fun c_8 => ?_) (fun c_8 => ?_)
    · replace hf := if_t c_8 hf
      refine lv_iconst (v := 0) hx hb dX4_rowOf_27 (by decide) ?_
      refine lv_i2l (v := (0 : Int32).toInt64) hx hb dX4_rowOf_28 rfl ?_
      refine lv_ladd hx hb dX4_rowOf_29 ?_
      refine lv_topl (fun x_9 ex_9 => ?_)
      replace hf := bnd_of ex_9 hf
      refine lv_lstore_n (lv' := [(3, .long x_9), (0, .int p1), (1, .int p2), (2, .int p3), (5, .int v_2)]) hx hb dX4_rowOf_30 rfl hl (by decide) rfl (fun ls hl => ?_)
      obtain ⟨x_10, ex_10⟩ : ∃ z : Int32, z = v_2 + 1 := ⟨_, rfl⟩
      replace hf := bnd_of ex_10 hf
      refine lv_iinc (v := x_10) (lv' := [(5, .int x_10), (3, .long x_9), (0, .int p1), (1, .int p2), (2, .int p3)]) hx hb dX4_rowOf_31 hl (k := 4) rfl (by rw [ex_10]; rfl) (by decide) rfl (fun ls hl => ?_)
      refine lv_goto (tgt := 5) hx hb dX4_rowOf_34 (by decide) ?_
      have e_11 := Option.some.inj hf
      exact hz1_0_5 _ e_11.symm _ _ _ hw (lv_sub hl [2, 3, 4, 1, 0] rfl)
    · replace hf := if_f c_8 hf
      refine lv_iload_n hx hb dX4_rowOf_23 rfl (lv_at hl 0 rfl) ?_
      refine lv_goto (tgt := 28) hx hb dX4_rowOf_24 (by decide) ?_
      refine lv_i2l (v := p1.toInt64) hx hb dX4_rowOf_28 rfl ?_
      refine lv_ladd hx hb dX4_rowOf_29 ?_
      refine lv_topl (fun x_12 ex_12 => ?_)
      replace hf := bnd_of ex_12 hf
      refine lv_lstore_n (lv' := [(3, .long x_12), (0, .int p1), (1, .int p2), (2, .int p3), (5, .int v_2)]) hx hb dX4_rowOf_30 rfl hl (by decide) rfl (fun ls hl => ?_)
      obtain ⟨x_13, ex_13⟩ : ∃ z : Int32, z = v_2 + 1 := ⟨_, rfl⟩
      replace hf := bnd_of ex_13 hf
      refine lv_iinc (v := x_13) (lv' := [(5, .int x_13), (3, .long x_12), (0, .int p1), (1, .int p2), (2, .int p3)]) hx hb dX4_rowOf_31 hl (k := 4) rfl (by rw [ex_13]; rfl) (by decide) rfl (fun ls hl => ?_)
      refine lv_goto (tgt := 5) hx hb dX4_rowOf_34 (by decide) ?_
      have e_14 := Option.some.inj hf
      exact hz1_0_5 _ e_14.symm _ _ _ hw (lv_sub hl [2, 3, 4, 1, 0] rfl)
/-! DutyDesk$Planner.costOf(III)J -/
def rm_X4_costOf : Room := { frames := 2, cells := 0, slots := 0, locals := 46 }
def f_X4_costOf (S : St) (p1 : Int32) (p2 : Int32) (p3 : Int32) : Option (Int64) :=
  bnd ((f_bitCount p2).toInt64) fun x_1 => gd p1 24 (bnd (x_1 * ((2 * ((gM S 19 p1.toNatClampNeg).toInt64)) + x_1)) fun x_3 => (f_X4_rowOf p1 p2 p3).bind (fun r_5 => some (((x_3 <<< ((20 : Int32).toInt64 &&& 63)) + r_5))))
set_option maxHeartbeats 4000000 in
set_option maxRecDepth 100000 in
theorem c_X4_costOf (G : GP) (l : Launch) (a : Nat → Nat) (ha : a 45 = G.2.2.1) (R : va_W) (S : St) (p1 : Int32) (p2 : Int32) (p3 : Int32) (r0 : Int64) (hf : f_X4_costOf S p1 p2 p3 = some r0) : MC G l yX4_costOf wsX4_costOf rm_X4_costOf [.ref (a 5), .int p1, .int p2, .int p3] (xw G.2.1 a R S) (xw G.2.1 a R S) (some (.long r0)) 0 0 := by
  refine MC.mk (cc := cX4_costOf) (maxL := 8) (ret := (some .long)) (by decide) rfl (Nat.le_of_ble_eq_true rfl) ?_
  intro p e s m below meth c A ls ⟨hx, hb, hr, hml, hown, hlocks, _, hts⟩ hw hG hA hl
  have hl : lv_has ls 8 [(0, .ref (a 5)), (1, .int p1), (2, .int p2), (3, .int p3)] := hl
  have hin2 : ∀ w ∈ u_ws RX2 TX2 6, w ∈ wsX4_costOf := by decide +kernel
  have hin4 : ∀ w ∈ u_ws RX4 TX4 3, w ∈ wsX4_costOf := by decide +kernel
  rw [f_X4_costOf] at hf
  refine lv_iload_n hx hb dX4_costOf_0 rfl (lv_at hl 2 rfl) ?_
  refine cS (As := [.int p2]) (rest := []) ⟨hx, hb, hml, hown, hts⟩ hG hA hw (c_bitCount G l _ p2) (va_cwS 1 hts gX4_costOf_J6_bitCount_0f7a4 rfl rfl rfl (by decide +kernel) ⟨Nat.le_of_ble_eq_true rfl, Nat.le_of_ble_eq_true rfl⟩) rfl hl.1 rfl (Nat.le_of_ble_eq_true rfl) dX4_costOf_1 ⟨Nat.zero_le _, Nat.zero_le _⟩ (fun H locs hw => ?_)
  refine lv_i2l (v := (f_bitCount p2).toInt64) hx hb dX4_costOf_4 rfl ?_
  refine lv_topl (fun x_1 ex_1 => ?_)
  replace hf := bnd_of ex_1 hf
  refine lv_lstore (lv' := [(4, .long x_1), (0, .ref (a 5)), (1, .int p1), (2, .int p2), (3, .int p3)]) hx hb dX4_costOf_5 hl (by decide) rfl (fun ls hl => ?_)
  refine lv_lload hx hb dX4_costOf_7 (lv_at hl 0 rfl) ?_
  refine lv_ldc2 (v := 2) hx hb hown (hts (.constantLong RX4 96 (2)) (List.mem_of_getElem? (i := 1) rfl)) dX4_costOf_9 ?_
  refine lv_aload_n hx hb dX4_costOf_12 rfl (lv_at hl 1 rfl) ?_
  refine va_get (D := G.1) (ci := 4) (v := .ref (a 4)) (C := RX4) (T := TX4) (N := 3) hx hb hts hin4 hown hG.1 hw.1 5 rfl rfl 1 (by decide) (hts (.fieldLink RX4 19 "DutyDesk$Planner" "nights" "LDutyDesk$Nights;") (List.mem_of_getElem? (i := 2) rfl)) (fun _ h9 => h9) rfl dX4_costOf_13 ?_
  refine va_getN (D := G.1) (ci := 2) (v := .ref (a 19)) (C := RX2) (T := TX2) (N := 6) (host := "DutyDesk") hx hb hts hin2 hown hG.1 hw.1 4 rfl rfl 4 (by decide) (va_Nw.use rfl (hG.2.1 (.fieldLinkNest "DutyDesk$Planner" 98 "DutyDesk$Nights" "duties" "[I" "DutyDesk") (List.mem_of_getElem? (i := 16) rfl))) (fun _ h9 => h9) rfl dX4_costOf_16 ?_
  refine lv_iload_n hx hb dX4_costOf_19 rfl (lv_at hl 2 rfl) ?_
  obtain ⟨h_2, hf⟩ := gd_of hf
  refine va_iald hx hb hG.1 hw.1 19 1 (xw_atM (k := 19) rfl) rfl h_2 dX4_costOf_20 ?_
  refine lv_i2l (v := (gM S 19 p1.toNatClampNeg).toInt64) hx hb dX4_costOf_21 rfl ?_
  refine lv_lmul hx hb dX4_costOf_22 ?_
  refine lv_lload hx hb dX4_costOf_23 (lv_at hl 0 rfl) ?_
  refine lv_ladd hx hb dX4_costOf_25 ?_
  refine lv_lmul hx hb dX4_costOf_26 ?_
  refine lv_topl (fun x_3 ex_3 => ?_)
  replace hf := bnd_of ex_3 hf
  refine lv_lstore (lv' := [(6, .long x_3), (4, .long x_1), (0, .ref (a 5)), (1, .int p1), (2, .int p2), (3, .int p3)]) hx hb dX4_costOf_27 hl (by decide) rfl (fun ls hl => ?_)
  refine lv_lload hx hb dX4_costOf_29 (lv_at hl 0 rfl) ?_
  refine lv_bipush (v := 20) hx hb dX4_costOf_31 (by decide) ?_
  refine lv_lshl (v := x_3 <<< ((20 : Int32).toInt64 &&& 63)) hx hb dX4_costOf_33 rfl ?_
  refine lv_iload_n hx hb dX4_costOf_34 rfl (lv_at hl 3 rfl) ?_
  refine lv_iload_n hx hb dX4_costOf_35 rfl (lv_at hl 4 rfl) ?_
  refine lv_iload_n hx hb dX4_costOf_36 rfl (lv_at hl 5 rfl) ?_
  obtain ⟨r_5, h_4, hf⟩ := bind_of hf
  refine cS (As := [.int p1, .int p2, .int p3]) (rest := [.long (x_3 <<< ((20 : Int32).toInt64 &&& 63))]) ⟨hx, hb, hml, hown, hts⟩ hG hA hw (c_X4_rowOf G l _ p1 p2 p3 r_5 h_4) (va_cwS 3 hts gX4_costOf_X4_rowOf rfl rfl rfl (by decide +kernel) ⟨Nat.le_of_ble_eq_true rfl, Nat.le_of_ble_eq_true rfl⟩) rfl hl.1 rfl (Nat.le_of_ble_eq_true rfl) dX4_costOf_37 ⟨Nat.zero_le _, Nat.zero_le _⟩ (fun H locs hw => ?_)
  refine lv_ladd hx hb dX4_costOf_40 ?_
  have e_6 := Option.some.inj hf
  subst e_6
  exact wd_lret hx hb hr hlocks hw dX4_costOf_41
/-! DutyDesk$Planner.offer(III)V -/
def rm_X4_offer : Room := { frames := 3, cells := 0, slots := 0, locals := 73 }
def f_X4_offer_L14 (v_3 : Int32) (p1 : Int32) (p2 : Int32) (p3 : Int32) : (Int32 × St) → Option ((Int32 × St) ⊕ ((Int32 × St) ⊕ (St)))
  | (v_8, S_9) =>
  (if v_3 < v_8 then
    bnd (v_3 + (-1)) fun x_11 => some (.inr (.inl (x_11, S_9)))
  else
    (if (v_8 &&& v_3) = v_8 then
    (f_X7_hasBit p3 v_8).bind (fun r_18 => (if r_18 = 0 then
    bnd (v_8 + 1) fun x_20 => some (.inl (x_20, S_9))
  else
    gd (v_3 ^^^ v_8) 16 ((if (lg_cmp (gJ S_9 (v_3 ^^^ v_8).toNatClampNeg) 1152921504606846976) = 0 then
    bnd (v_8 + 1) fun x_24 => some (.inl (x_24, S_9))
  else
    gd (v_3 ^^^ v_8) 16 ((f_X4_costOf S_9 p1 v_8 p2).bind (fun r_28 => bnd ((gJ S_9 (v_3 ^^^ v_8).toNatClampNeg) + r_28) fun x_29 => gd v_3 16 (gd v_3 16 (bnd (sJ S_9 (v_3.toNatClampNeg) (if x_29 < (gJ S_9 v_3.toNatClampNeg) then x_29 else (gJ S_9 v_3.toNatClampNeg))) fun S_32 => bnd (v_8 + 1) fun x_33 => some (.inl (x_33, S_32))))))))))
  else
    bnd (v_8 + 1) fun x_15 => some (.inl (x_15, S_9))))
def f_X4_offer_L6 (p1 : Int32) (p2 : Int32) (p3 : Int32) : (Int32 × St) → Option ((Int32 × St) ⊕ (St))
  | (v_3, S_4) =>
  (if v_3 ≤ 0 then
    some (.inr (S_4))
  else
    loopF (f_X4_offer_L14 v_3 p1 p2 p3) FU (1, S_4))
def f_X4_offer (S : St) (p1 : Int32) (p2 : Int32) (p3 : Int32) : Option (St) :=
  (f_X4_allNights p2).bind (fun r_2 => loopF (f_X4_offer_L6 p1 p2 p3) FU (r_2, S))
set_option maxHeartbeats 4000000 in
set_option maxRecDepth 100000 in
theorem c_X4_offer (G : GP) (l : Launch) (a : Nat → Nat) (ha : a 45 = G.2.2.1) (R : va_W) (S : St) (p1 : Int32) (p2 : Int32) (p3 : Int32) (S9 : St) (hf : f_X4_offer S p1 p2 p3 = some S9) : MC G l yX4_offer wsX4_offer rm_X4_offer [.ref (a 5), .int p1, .int p2, .int p3] (xw G.2.1 a R S) (xw G.2.1 a R S9) none 0 0 := by
  refine MC.mk (cc := cX4_offer) (maxL := 8) (ret := none) (by decide) rfl (Nat.le_of_ble_eq_true rfl) ?_
  intro p e s m below meth c A ls ⟨hx, hb, hr, hml, hown, hlocks, _, hts⟩ hw hG hA hl
  have hl : lv_has ls 8 [(0, .ref (a 5)), (1, .int p1), (2, .int p2), (3, .int p3)] := hl
  have hin4 : ∀ w ∈ u_ws RX4 TX4 3, w ∈ wsX4_offer := by decide +kernel
  rw [f_X4_offer] at hf
  refine lv_iload_n hx hb dX4_offer_0 rfl (lv_at hl 2 rfl) ?_
  obtain ⟨r_2, h_1, hf⟩ := bind_of hf
  refine cS (As := [.int p2]) (rest := []) ⟨hx, hb, hml, hown, hts⟩ hG hA hw (c_X4_allNights G l _ p2 r_2 h_1) (va_cwS 1 hts gX4_offer_X4_allNights rfl rfl rfl (by decide +kernel) ⟨Nat.le_of_ble_eq_true rfl, Nat.le_of_ble_eq_true rfl⟩) rfl hl.1 rfl (Nat.le_of_ble_eq_true rfl) dX4_offer_1 ⟨Nat.zero_le _, Nat.zero_le _⟩ (fun H locs hw => ?_)
  refine lv_istore (lv' := [(4, .int r_2), (0, .ref (a 5)), (1, .int p1), (2, .int p2), (3, .int p3)]) hx hb dX4_offer_4 hl (by decide) rfl (fun ls hl => ?_)
  refine loopF_ind (body := f_X4_offer_L6 p1 p2 p3) (fun (q : Int32 × St) => match q with | (v_3, S_4) => ∀ (H : Heap) (locs : List Loc) (ls : Array Slot), Wd G A s H locs (xw G.2.1 a R S_4) → lv_has ls 8 [(0, .ref (a 5)), (1, .int p1), (2, .int p2), (3, .int p3), (4, .int v_3)] → WQ p l e rm_X4_offer s m [.ref (a 5), .int p1, .int p2, .int p3] below meth c G A (xw G.2.1 a R S9) none 0 0 H locs 0 0 (F0 m 6 ls [])) ?_ FU (r_2, S) hf _ _ _ hw (lv_sub hl [1, 2, 3, 4, 0] rfl)
  clear hf hw hl
  intro ⟨v_3, S_4⟩ t0_6 hf hz1_0_6 hz2_0_6 H locs ls hw hl
  rw [f_X4_offer_L6] at hf
  refine lv_iload hx hb dX4_offer_6 (lv_at hl 4 rfl) ?_
  refine lv_if_le (tgt := 109) hx hb dX4_offer_8 (by decide) (fun c_5 => ?_) (fun c_5 => ?_)
  · replace hf := if_t c_5 hf
    have e_6 := Option.some.inj hf
    have e_7 := hz2_0_6 _ e_6.symm
    subst e_7
    exact wd_vret hx hb hr hlocks hw dX4_offer_109
  · replace hf := if_f c_5 hf
    refine lv_iconst (v := 1) hx hb dX4_offer_11 (by decide) ?_
    refine lv_istore (lv' := [(5, .int 1), (0, .ref (a 5)), (1, .int p1), (2, .int p2), (3, .int p3), (4, .int v_3)]) hx hb dX4_offer_12 hl (by decide) rfl (fun ls hl => ?_)
    refine loopF_ind (body := f_X4_offer_L14 v_3 p1 p2 p3) (fun (q : Int32 × St) => match q with | (v_8, S_9) => ∀ (H : Heap) (locs : List Loc) (ls : Array Slot), Wd G A s H locs (xw G.2.1 a R S_9) → lv_has ls 8 [(0, .ref (a 5)), (1, .int p1), (2, .int p2), (3, .int p3), (4, .int v_3), (5, .int v_8)] → WQ p l e rm_X4_offer s m [.ref (a 5), .int p1, .int p2, .int p3] below meth c G A (xw G.2.1 a R S9) none 0 0 H locs 0 0 (F0 m 14 ls [])) ?_ FU (1, S_4) hf _ _ _ hw (lv_sub hl [1, 2, 3, 4, 5, 0] rfl)
    clear hf hw hl
    intro ⟨v_8, S_9⟩ t1_14 hf hz1_1_14 hz2_1_14 H locs ls hw hl
    rw [f_X4_offer_L14] at hf
    refine lv_iload hx hb dX4_offer_14 (lv_at hl 5 rfl) ?_
    refine lv_iload hx hb dX4_offer_16 (lv_at hl 4 rfl) ?_
    refine lv_icmp_gt (tgt := 103) hx hb dX4_offer_18 (by decide) (fun c_10 => ?_) (fun c_10 => ?_)
    · replace hf := if_t c_10 hf
      obtain ⟨x_11, ex_11⟩ : ∃ z : Int32, z = v_3 + (-1) := ⟨_, rfl⟩
      replace hf := bnd_of ex_11 hf
      refine lv_iinc (v := x_11) (lv' := [(4, .int x_11), (0, .ref (a 5)), (1, .int p1), (2, .int p2), (3, .int p3), (5, .int v_8)]) hx hb dX4_offer_103 hl (k := 4) rfl (by rw [ex_11]; rfl) (by decide) rfl (fun ls hl => ?_)
      refine lv_goto (tgt := 6) hx hb dX4_offer_106 (by decide) ?_
      have e_12 := Option.some.inj hf
      have e_13 := hz2_1_14 _ e_12.symm
      exact hz1_0_6 _ e_13.symm _ _ _ hw (lv_sub hl [1, 2, 3, 4, 0] rfl)
    · replace hf := if_f c_10 hf
      refine lv_iload hx hb dX4_offer_21 (lv_at hl 5 rfl) ?_
      refine lv_iload hx hb dX4_offer_23 (lv_at hl 4 rfl) ?_
      refine lv_iand hx hb dX4_offer_25 ?_
      refine lv_iload hx hb dX4_offer_26 (lv_at hl 5 rfl) ?_
      refine lv_icmp_ne (tgt := 97) hx hb dX4_offer_28 (by decide) (fun c_14 => ?_) (fun c_14 => ?_)
      · replace hf := if_f c_14 hf
        obtain ⟨x_15, ex_15⟩ : ∃ z : Int32, z = v_8 + 1 := ⟨_, rfl⟩
        replace hf := bnd_of ex_15 hf
        refine lv_iinc (v := x_15) (lv' := [(5, .int x_15), (0, .ref (a 5)), (1, .int p1), (2, .int p2), (3, .int p3), (4, .int v_3)]) hx hb dX4_offer_97 hl (k := 5) rfl (by rw [ex_15]; rfl) (by decide) rfl (fun ls hl => ?_)
        refine lv_goto (tgt := 14) hx hb dX4_offer_100 (by decide) ?_
        have e_16 := Option.some.inj hf
        exact hz1_1_14 _ e_16.symm _ _ _ hw (lv_sub hl [1, 2, 3, 4, 5, 0] rfl)
      · replace hf := if_t c_14 hf
        refine lv_iload_n hx hb dX4_offer_31 rfl (lv_at hl 3 rfl) ?_
        refine lv_iload hx hb dX4_offer_32 (lv_at hl 5 rfl) ?_
        obtain ⟨r_18, h_17, hf⟩ := bind_of hf
        refine cSN (As := [.int p3, .int v_8]) (rest := []) ⟨hx, hb, hml, hown, hts⟩ hG hA hw (c_X7_hasBit G l _ p3 v_8 r_18 h_17) ⟨va_cnB 2 hts gX4_offer_X7_hasBit_n65 rfl rfl rfl (hG.2.1 (.methodLinkNest "DutyDesk$Planner" 65 yX7_hasBit "DutyDesk") (List.mem_of_getElem? (i := 76) rfl)) (hts (.initialized RX7) (List.mem_of_getElem? (i := 12) rfl)) (by decide +kernel) ⟨Nat.le_of_ble_eq_true rfl, Nat.le_of_ble_eq_true rfl⟩, hts (.static yX7_hasBit) (List.mem_of_getElem? (i := 11) rfl), trivial⟩ rfl hl.1 rfl (Nat.le_of_ble_eq_true rfl) dX4_offer_34 ⟨Nat.zero_le _, Nat.zero_le _⟩ (fun H locs hw => ?_)
        refine lv_if_eq (tgt := 97) hx hb dX4_offer_37 (by decide) (fun c_19 => ?_) (fun c_19 => ?_)
        · replace hf := if_t c_19 hf
          obtain ⟨x_20, ex_20⟩ : ∃ z : Int32, z = v_8 + 1 := ⟨_, rfl⟩
          replace hf := bnd_of ex_20 hf
          refine lv_iinc (v := x_20) (lv' := [(5, .int x_20), (0, .ref (a 5)), (1, .int p1), (2, .int p2), (3, .int p3), (4, .int v_3)]) hx hb dX4_offer_97 hl (k := 5) rfl (by rw [ex_20]; rfl) (by decide) rfl (fun ls hl => ?_)
          refine lv_goto (tgt := 14) hx hb dX4_offer_100 (by decide) ?_
          have e_21 := Option.some.inj hf
          exact hz1_1_14 _ e_21.symm _ _ _ hw (lv_sub hl [1, 2, 3, 4, 5, 0] rfl)
        · replace hf := if_f c_19 hf
          refine lv_aload_n hx hb dX4_offer_40 rfl (lv_at hl 0 rfl) ?_
          refine va_get (D := G.1) (ci := 4) (v := .ref (a 21)) (C := RX4) (T := TX4) (N := 3) hx hb hts hin4 hown hG.1 hw.1 5 rfl rfl 2 (by decide) (hts (.fieldLink RX4 11 "DutyDesk$Planner" "least" "[J") (List.mem_of_getElem? (i := 1) rfl)) (fun _ h9 => h9) rfl dX4_offer_41 ?_
          refine lv_iload hx hb dX4_offer_44 (lv_at hl 4 rfl) ?_
          refine lv_iload hx hb dX4_offer_46 (lv_at hl 5 rfl) ?_
          refine lv_ixor hx hb dX4_offer_48 ?_
          obtain ⟨h_22, hf⟩ := gd_of hf
          refine va_lald hx hb hG.1 hw.1 21 2 rfl rfl h_22 dX4_offer_49 ?_
          refine lv_ldc2 (v := 1152921504606846976) hx hb hown (hts (.constantLong RX4 31 (1152921504606846976)) (List.mem_of_getElem? (i := 2) rfl)) dX4_offer_50 ?_
          refine W.lcmp hx hb dX4_offer_53 ?_
          refine lv_if_eq (tgt := 97) hx hb dX4_offer_54 (by decide) (fun c_23 => ?_) (fun c_23 => ?_)
          · replace hf := if_t c_23 hf
            obtain ⟨x_24, ex_24⟩ : ∃ z : Int32, z = v_8 + 1 := ⟨_, rfl⟩
            replace hf := bnd_of ex_24 hf
            refine lv_iinc (v := x_24) (lv' := [(5, .int x_24), (0, .ref (a 5)), (1, .int p1), (2, .int p2), (3, .int p3), (4, .int v_3)]) hx hb dX4_offer_97 hl (k := 5) rfl (by rw [ex_24]; rfl) (by decide) rfl (fun ls hl => ?_)
            refine lv_goto (tgt := 14) hx hb dX4_offer_100 (by decide) ?_
            have e_25 := Option.some.inj hf
            exact hz1_1_14 _ e_25.symm _ _ _ hw (lv_sub hl [1, 2, 3, 4, 5, 0] rfl)
          · replace hf := if_f c_23 hf
            refine lv_aload_n hx hb dX4_offer_57 rfl (lv_at hl 0 rfl) ?_
            refine va_get (D := G.1) (ci := 4) (v := .ref (a 21)) (C := RX4) (T := TX4) (N := 3) hx hb hts hin4 hown hG.1 hw.1 5 rfl rfl 2 (by decide) (hts (.fieldLink RX4 11 "DutyDesk$Planner" "least" "[J") (List.mem_of_getElem? (i := 1) rfl)) (fun _ h9 => h9) rfl dX4_offer_58 ?_
            refine lv_iload hx hb dX4_offer_61 (lv_at hl 4 rfl) ?_
            refine lv_iload hx hb dX4_offer_63 (lv_at hl 5 rfl) ?_
            refine lv_ixor hx hb dX4_offer_65 ?_
            obtain ⟨h_26, hf⟩ := gd_of hf
            refine va_lald hx hb hG.1 hw.1 21 2 rfl rfl h_26 dX4_offer_66 ?_
            refine lv_aload_n hx hb dX4_offer_67 rfl (lv_at hl 0 rfl) ?_
            refine lv_iload_n hx hb dX4_offer_68 rfl (lv_at hl 1 rfl) ?_
            refine lv_iload hx hb dX4_offer_69 (lv_at hl 5 rfl) ?_
            refine lv_iload_n hx hb dX4_offer_71 rfl (lv_at hl 2 rfl) ?_
            obtain ⟨r_28, h_27, hf⟩ := bind_of hf
            refine cV (As := [.int p1, .int v_8, .int p2]) (rest := [.long (gJ S_9 (v_3 ^^^ v_8).toNatClampNeg)]) ⟨hx, hb, hml, hown, hts⟩ hG hA hw (c_X4_costOf G l a ha R S_9 p1 v_8 p2 r_28 h_27) (cwV 3 hts gX4_offer_X4_costOf rfl rfl rfl (by decide +kernel) ⟨Nat.le_of_ble_eq_true rfl, Nat.le_of_ble_eq_true rfl⟩) (va_recv hG.1 hw.1 (ci := 4) (q0 := 5) rfl rfl) rfl hl.1 rfl (Nat.le_of_ble_eq_true rfl) dX4_offer_72 ⟨Nat.zero_le _, Nat.zero_le _⟩ (fun H locs hw => ?_)
            refine lv_ladd hx hb dX4_offer_75 ?_
            refine lv_topl (fun x_29 ex_29 => ?_)
            replace hf := bnd_of ex_29 hf
            refine lv_lstore (lv' := [(6, .long x_29), (0, .ref (a 5)), (1, .int p1), (2, .int p2), (3, .int p3), (4, .int v_3), (5, .int v_8)]) hx hb dX4_offer_76 hl (by decide) rfl (fun ls hl => ?_)
            refine lv_aload_n hx hb dX4_offer_78 rfl (lv_at hl 1 rfl) ?_
            refine va_get (D := G.1) (ci := 4) (v := .ref (a 21)) (C := RX4) (T := TX4) (N := 3) hx hb hts hin4 hown hG.1 hw.1 5 rfl rfl 2 (by decide) (hts (.fieldLink RX4 11 "DutyDesk$Planner" "least" "[J") (List.mem_of_getElem? (i := 1) rfl)) (fun _ h9 => h9) rfl dX4_offer_79 ?_
            refine lv_iload hx hb dX4_offer_82 (lv_at hl 5 rfl) ?_
            refine lv_aload_n hx hb dX4_offer_84 rfl (lv_at hl 1 rfl) ?_
            refine va_get (D := G.1) (ci := 4) (v := .ref (a 21)) (C := RX4) (T := TX4) (N := 3) hx hb hts hin4 hown hG.1 hw.1 5 rfl rfl 2 (by decide) (hts (.fieldLink RX4 11 "DutyDesk$Planner" "least" "[J") (List.mem_of_getElem? (i := 1) rfl)) (fun _ h9 => h9) rfl dX4_offer_85 ?_
            refine lv_iload hx hb dX4_offer_88 (lv_at hl 5 rfl) ?_
            obtain ⟨h_30, hf⟩ := gd_of hf
            refine va_lald hx hb hG.1 hw.1 21 2 rfl rfl h_30 dX4_offer_90 ?_
            refine lv_lload hx hb dX4_offer_91 (lv_at hl 0 rfl) ?_
            refine va_mmin_long hx hb (by rw [hml]; exact hl.1.symm) hown (hts (.methodLink RX4 85 Lib.MathLoose.min_long.x) (List.mem_of_getElem? (i := 3) rfl)) (hts (.static Lib.MathLoose.min_long.x) (List.mem_of_getElem? (i := 4) rfl)) (hts (.initialized "java/lang/Math") (List.mem_of_getElem? (i := 5) rfl)) (hts (.code Lib.MathLoose.min_long.x Lib.MathLoose.min_long.code 4 (some .long)) (List.mem_of_getElem? (i := 6) rfl)) (Nat.le_of_ble_eq_true rfl) (Nat.le_of_ble_eq_true rfl) (Nat.zero_le _) (Nat.zero_le _) dX4_offer_93 ?_
            obtain ⟨h_31, hf⟩ := gd_of hf
            refine va_last hx hb hG.1 hw.1 hw.2.1 hw.2.2 21 2 rfl rfl h_31 dX4_offer_96 (fun H locs hP hD hS => ?_)
            obtain ⟨S_32, eS_32⟩ : ∃ z : St, z = sJ S_9 (v_3.toNatClampNeg) (if x_29 < (gJ S_9 v_3.toNatClampNeg) then x_29 else (gJ S_9 v_3.toNatClampNeg)) := ⟨_, rfl⟩
            replace hf := bnd_of eS_32 hf
            have hw : Wd G A s H locs (xw G.2.1 a R S_32) := wd_eq (by rw [eS_32]; exact xw_upJ _ _) hP hD hS
            obtain ⟨x_33, ex_33⟩ : ∃ z : Int32, z = v_8 + 1 := ⟨_, rfl⟩
            replace hf := bnd_of ex_33 hf
            refine lv_iinc (v := x_33) (lv' := [(5, .int x_33), (6, .long x_29), (0, .ref (a 5)), (1, .int p1), (2, .int p2), (3, .int p3), (4, .int v_3)]) hx hb dX4_offer_97 hl (k := 6) rfl (by rw [ex_33]; rfl) (by decide) rfl (fun ls hl => ?_)
            refine lv_goto (tgt := 14) hx hb dX4_offer_100 (by decide) ?_
            have e_34 := Option.some.inj hf
            exact hz1_1_14 _ e_34.symm _ _ _ hw (lv_sub hl [2, 3, 4, 5, 6, 0] rfl)
/-! DutyDesk$Planner.costOfNone(II)J -/
def rm_X4_costOfNone : Room := { frames := 2, cells := 0, slots := 0, locals := 46 }
def f_X4_costOfNone (p1 : Int32) (p2 : Int32) : Option (Int64) :=
  bnd ((f_bitCount p1).toInt64) fun x_1 => (f_X4_rowOf 24 p1 p2).bind (fun r_3 => some (((x_1 <<< ((44 : Int32).toInt64 &&& 63)) + r_3)))
set_option maxHeartbeats 4000000 in
set_option maxRecDepth 100000 in
theorem c_X4_costOfNone (G : GP) (l : Launch) (W0 : va_W) (p1 : Int32) (p2 : Int32) (r0 : Int64) (hf : f_X4_costOfNone p1 p2 = some r0) : MC G l yX4_costOfNone wsX4_costOfNone rm_X4_costOfNone [.int p1, .int p2] (W0) (W0) (some (.long r0)) 0 0 := by
  refine MC.mk (cc := cX4_costOfNone) (maxL := 4) (ret := (some .long)) (by decide) rfl (Nat.le_of_ble_eq_true rfl) ?_
  intro p e s m below meth c A ls ⟨hx, hb, hr, hml, hown, hlocks, _, hts⟩ hw hG hA hl
  have hl : lv_has ls 4 [(0, .int p1), (1, .int p2)] := hl
  rw [f_X4_costOfNone] at hf
  refine lv_iload_n hx hb dX4_costOfNone_0 rfl (lv_at hl 0 rfl) ?_
  refine cS (As := [.int p1]) (rest := []) ⟨hx, hb, hml, hown, hts⟩ hG hA hw (c_bitCount G l _ p1) (va_cwS 1 hts gX4_costOfNone_J6_bitCount_0f7a4 rfl rfl rfl (by decide +kernel) ⟨Nat.le_of_ble_eq_true rfl, Nat.le_of_ble_eq_true rfl⟩) rfl hl.1 rfl (Nat.le_of_ble_eq_true rfl) dX4_costOfNone_1 ⟨Nat.zero_le _, Nat.zero_le _⟩ (fun H locs hw => ?_)
  refine lv_i2l (v := (f_bitCount p1).toInt64) hx hb dX4_costOfNone_4 rfl ?_
  refine lv_topl (fun x_1 ex_1 => ?_)
  replace hf := bnd_of ex_1 hf
  refine lv_lstore_n (lv' := [(2, .long x_1), (0, .int p1), (1, .int p2)]) hx hb dX4_costOfNone_5 rfl hl (by decide) rfl (fun ls hl => ?_)
  refine lv_lload_n hx hb dX4_costOfNone_6 rfl (lv_at hl 0 rfl) ?_
  refine lv_bipush (v := 44) hx hb dX4_costOfNone_7 (by decide) ?_
  refine lv_lshl (v := x_1 <<< ((44 : Int32).toInt64 &&& 63)) hx hb dX4_costOfNone_9 rfl ?_
  refine lv_bipush (v := 24) hx hb dX4_costOfNone_10 (by decide) ?_
  refine lv_iload_n hx hb dX4_costOfNone_12 rfl (lv_at hl 1 rfl) ?_
  refine lv_iload_n hx hb dX4_costOfNone_13 rfl (lv_at hl 2 rfl) ?_
  obtain ⟨r_3, h_2, hf⟩ := bind_of hf
  refine cS (As := [.int 24, .int p1, .int p2]) (rest := [.long (x_1 <<< ((44 : Int32).toInt64 &&& 63))]) ⟨hx, hb, hml, hown, hts⟩ hG hA hw (c_X4_rowOf G l _ 24 p1 p2 r_3 h_2) (va_cwS 3 hts gX4_costOfNone_X4_rowOf rfl rfl rfl (by decide +kernel) ⟨Nat.le_of_ble_eq_true rfl, Nat.le_of_ble_eq_true rfl⟩) rfl hl.1 rfl (Nat.le_of_ble_eq_true rfl) dX4_costOfNone_14 ⟨Nat.zero_le _, Nat.zero_le _⟩ (fun H locs hw => ?_)
  refine lv_ladd hx hb dX4_costOfNone_17 ?_
  have e_4 := Option.some.inj hf
  subst e_4
  exact wd_lret hx hb hr hlocks hw dX4_costOfNone_18
/-! DutyDesk$Planner.leastWay(I)J -/
def rm_X4_leastWay : Room := { frames := 3, cells := 0, slots := 0, locals := 69 }
def f_X4_leastWay_L7 (S : St) (p1 : Int32) : (Int64 × Int32) → Option ((Int64 × Int32) ⊕ (Int64))
  | (v_1, v_2) =>
  (f_X4_allNights p1).bind (fun r_4 => (if r_4 < v_2 then
    some (.inr (v_1))
  else
    gd v_2 16 ((if (lg_cmp (gJ S v_2.toNatClampNeg) 1152921504606846976) = 0 then
    bnd (v_2 + 1) fun x_10 => some (.inl (v_1, x_10))
  else
    gd v_2 16 ((f_X4_allNights p1).bind (fun r_14 => (f_X4_costOfNone (r_14 ^^^ v_2) p1).bind (fun r_16 => bnd (if ((gJ S v_2.toNatClampNeg) + r_16) < v_1 then ((gJ S v_2.toNatClampNeg) + r_16) else v_1) fun x_17 => bnd (v_2 + 1) fun x_18 => some (.inl (x_17, x_18)))))))))
def f_X4_leastWay (S : St) (p1 : Int32) : Option (Int64) :=
  loopF (f_X4_leastWay_L7 S p1) FU (1152921504606846976, 0)
set_option maxHeartbeats 4000000 in
set_option maxRecDepth 100000 in
theorem c_X4_leastWay (G : GP) (l : Launch) (a : Nat → Nat) (ha : a 45 = G.2.2.1) (R : va_W) (S : St) (p1 : Int32) (r0 : Int64) (hf : f_X4_leastWay S p1 = some r0) : MC G l yX4_leastWay wsX4_leastWay rm_X4_leastWay [.ref (a 5), .int p1] (xw G.2.1 a R S) (xw G.2.1 a R S) (some (.long r0)) 0 0 := by
  refine MC.mk (cc := cX4_leastWay) (maxL := 5) (ret := (some .long)) (by decide) rfl (Nat.le_of_ble_eq_true rfl) ?_
  intro p e s m below meth c A ls ⟨hx, hb, hr, hml, hown, hlocks, _, hts⟩ hw hG hA hl
  have hl : lv_has ls 5 [(0, .ref (a 5)), (1, .int p1)] := hl
  have hin4 : ∀ w ∈ u_ws RX4 TX4 3, w ∈ wsX4_leastWay := by decide +kernel
  rw [f_X4_leastWay] at hf
  refine lv_ldc2 (v := 1152921504606846976) hx hb hown (hts (.constantLong RX4 31 (1152921504606846976)) (List.mem_of_getElem? (i := 1) rfl)) dX4_leastWay_0 ?_
  refine lv_lstore_n (lv' := [(2, .long 1152921504606846976), (0, .ref (a 5)), (1, .int p1)]) hx hb dX4_leastWay_3 rfl hl (by decide) rfl (fun ls hl => ?_)
  refine lv_iconst (v := 0) hx hb dX4_leastWay_4 (by decide) ?_
  refine lv_istore (lv' := [(4, .int 0), (2, .long 1152921504606846976), (0, .ref (a 5)), (1, .int p1)]) hx hb dX4_leastWay_5 hl (by decide) rfl (fun ls hl => ?_)
  refine loopF_ind (body := f_X4_leastWay_L7 S p1) (fun (q : Int64 × Int32) => match q with | (v_1, v_2) => ∀ (H : Heap) (locs : List Loc) (ls : Array Slot), Wd G A s H locs (xw G.2.1 a R S) → lv_has ls 5 [(0, .ref (a 5)), (1, .int p1), (2, .long v_1), (4, .int v_2)] → WQ p l e rm_X4_leastWay s m [.ref (a 5), .int p1] below meth c G A (xw G.2.1 a R S) (some (.long r0)) 0 0 H locs 0 0 (F0 m 7 ls [])) ?_ FU (1152921504606846976, 0) hf _ _ _ hw (lv_sub hl [2, 3, 1, 0] rfl)
  clear hf hw hl
  intro ⟨v_1, v_2⟩ t0_7 hf hz1_0_7 hz2_0_7 H locs ls hw hl
  rw [f_X4_leastWay_L7] at hf
  refine lv_iload hx hb dX4_leastWay_7 (lv_at hl 3 rfl) ?_
  refine lv_iload_n hx hb dX4_leastWay_9 rfl (lv_at hl 1 rfl) ?_
  obtain ⟨r_4, h_3, hf⟩ := bind_of hf
  refine cS (As := [.int p1]) (rest := [.int v_2]) ⟨hx, hb, hml, hown, hts⟩ hG hA hw (c_X4_allNights G l _ p1 r_4 h_3) (va_cwS 1 hts gX4_leastWay_X4_allNights rfl rfl rfl (by decide +kernel) ⟨Nat.le_of_ble_eq_true rfl, Nat.le_of_ble_eq_true rfl⟩) rfl hl.1 rfl (Nat.le_of_ble_eq_true rfl) dX4_leastWay_10 ⟨Nat.zero_le _, Nat.zero_le _⟩ (fun H locs hw => ?_)
  refine lv_icmp_gt (tgt := 60) hx hb dX4_leastWay_13 (by decide) (fun c_5 => ?_) (fun c_5 => ?_)
  · replace hf := if_t c_5 hf
    refine lv_lload_n hx hb dX4_leastWay_60 rfl (lv_at hl 2 rfl) ?_
    have e_6 := Option.some.inj hf
    have e_7 := hz2_0_7 _ e_6.symm
    subst e_7
    exact wd_lret hx hb hr hlocks hw dX4_leastWay_61
  · replace hf := if_f c_5 hf
    refine lv_aload_n hx hb dX4_leastWay_16 rfl (lv_at hl 0 rfl) ?_
    refine va_get (D := G.1) (ci := 4) (v := .ref (a 21)) (C := RX4) (T := TX4) (N := 3) hx hb hts hin4 hown hG.1 hw.1 5 rfl rfl 2 (by decide) (hts (.fieldLink RX4 11 "DutyDesk$Planner" "least" "[J") (List.mem_of_getElem? (i := 2) rfl)) (fun _ h9 => h9) rfl dX4_leastWay_17 ?_
    refine lv_iload hx hb dX4_leastWay_20 (lv_at hl 3 rfl) ?_
    obtain ⟨h_8, hf⟩ := gd_of hf
    refine va_lald hx hb hG.1 hw.1 21 2 rfl rfl h_8 dX4_leastWay_22 ?_
    refine lv_ldc2 (v := 1152921504606846976) hx hb hown (hts (.constantLong RX4 31 (1152921504606846976)) (List.mem_of_getElem? (i := 1) rfl)) dX4_leastWay_23 ?_
    refine W.lcmp hx hb dX4_leastWay_26 ?_
    refine lv_if_eq (tgt := 54) hx hb dX4_leastWay_27 (by decide) (fun c_9 => ?_) (fun c_9 => ?_)
    · replace hf := if_t c_9 hf
      obtain ⟨x_10, ex_10⟩ : ∃ z : Int32, z = v_2 + 1 := ⟨_, rfl⟩
      replace hf := bnd_of ex_10 hf
      refine lv_iinc (v := x_10) (lv' := [(4, .int x_10), (0, .ref (a 5)), (1, .int p1), (2, .long v_1)]) hx hb dX4_leastWay_54 hl (k := 3) rfl (by rw [ex_10]; rfl) (by decide) rfl (fun ls hl => ?_)
      refine lv_goto (tgt := 7) hx hb dX4_leastWay_57 (by decide) ?_
      have e_11 := Option.some.inj hf
      exact hz1_0_7 _ e_11.symm _ _ _ hw (lv_sub hl [1, 2, 3, 0] rfl)
    · replace hf := if_f c_9 hf
      refine lv_lload_n hx hb dX4_leastWay_30 rfl (lv_at hl 2 rfl) ?_
      refine lv_aload_n hx hb dX4_leastWay_31 rfl (lv_at hl 0 rfl) ?_
      refine va_get (D := G.1) (ci := 4) (v := .ref (a 21)) (C := RX4) (T := TX4) (N := 3) hx hb hts hin4 hown hG.1 hw.1 5 rfl rfl 2 (by decide) (hts (.fieldLink RX4 11 "DutyDesk$Planner" "least" "[J") (List.mem_of_getElem? (i := 2) rfl)) (fun _ h9 => h9) rfl dX4_leastWay_32 ?_
      refine lv_iload hx hb dX4_leastWay_35 (lv_at hl 3 rfl) ?_
      obtain ⟨h_12, hf⟩ := gd_of hf
      refine va_lald hx hb hG.1 hw.1 21 2 rfl rfl h_12 dX4_leastWay_37 ?_
      refine lv_iload_n hx hb dX4_leastWay_38 rfl (lv_at hl 1 rfl) ?_
      obtain ⟨r_14, h_13, hf⟩ := bind_of hf
      refine cS (As := [.int p1]) (rest := [.long (gJ S v_2.toNatClampNeg), .long v_1]) ⟨hx, hb, hml, hown, hts⟩ hG hA hw (c_X4_allNights G l _ p1 r_14 h_13) (va_cwS 1 hts gX4_leastWay_X4_allNights rfl rfl rfl (by decide +kernel) ⟨Nat.le_of_ble_eq_true rfl, Nat.le_of_ble_eq_true rfl⟩) rfl hl.1 rfl (Nat.le_of_ble_eq_true rfl) dX4_leastWay_39 ⟨Nat.zero_le _, Nat.zero_le _⟩ (fun H locs hw => ?_)
      refine lv_iload hx hb dX4_leastWay_42 (lv_at hl 3 rfl) ?_
      refine lv_ixor hx hb dX4_leastWay_44 ?_
      refine lv_iload_n hx hb dX4_leastWay_45 rfl (lv_at hl 1 rfl) ?_
      obtain ⟨r_16, h_15, hf⟩ := bind_of hf
      refine cS (As := [.int (r_14 ^^^ v_2), .int p1]) (rest := [.long (gJ S v_2.toNatClampNeg), .long v_1]) ⟨hx, hb, hml, hown, hts⟩ hG hA hw (c_X4_costOfNone G l _ (r_14 ^^^ v_2) p1 r_16 h_15) (va_cwS 2 hts gX4_leastWay_X4_costOfNone rfl rfl rfl (by decide +kernel) ⟨Nat.le_of_ble_eq_true rfl, Nat.le_of_ble_eq_true rfl⟩) rfl hl.1 rfl (Nat.le_of_ble_eq_true rfl) dX4_leastWay_46 ⟨Nat.zero_le _, Nat.zero_le _⟩ (fun H locs hw => ?_)
      refine lv_ladd hx hb dX4_leastWay_49 ?_
      refine va_mmin_long hx hb (by rw [hml]; exact hl.1.symm) hown (hts (.methodLink RX4 85 Lib.MathLoose.min_long.x) (List.mem_of_getElem? (i := 3) rfl)) (hts (.static Lib.MathLoose.min_long.x) (List.mem_of_getElem? (i := 4) rfl)) (hts (.initialized "java/lang/Math") (List.mem_of_getElem? (i := 5) rfl)) (hts (.code Lib.MathLoose.min_long.x Lib.MathLoose.min_long.code 4 (some .long)) (List.mem_of_getElem? (i := 6) rfl)) (Nat.le_of_ble_eq_true rfl) (Nat.le_of_ble_eq_true rfl) (Nat.zero_le _) (Nat.zero_le _) dX4_leastWay_50 ?_
      refine lv_topl (fun x_17 ex_17 => ?_)
      replace hf := bnd_of ex_17 hf
      refine lv_lstore_n (lv' := [(2, .long x_17), (0, .ref (a 5)), (1, .int p1), (4, .int v_2)]) hx hb dX4_leastWay_53 rfl hl (by decide) rfl (fun ls hl => ?_)
      obtain ⟨x_18, ex_18⟩ : ∃ z : Int32, z = v_2 + 1 := ⟨_, rfl⟩
      replace hf := bnd_of ex_18 hf
      refine lv_iinc (v := x_18) (lv' := [(4, .int x_18), (2, .long x_17), (0, .ref (a 5)), (1, .int p1)]) hx hb dX4_leastWay_54 hl (k := 3) rfl (by rw [ex_18]; rfl) (by decide) rfl (fun ls hl => ?_)
      refine lv_goto (tgt := 7) hx hb dX4_leastWay_57 (by decide) ?_
      have e_19 := Option.some.inj hf
      exact hz1_0_7 _ e_19.symm _ _ _ hw (lv_sub hl [2, 3, 1, 0] rfl)
/-! DutyDesk$Planner.giveRow(IIIJ)I -/
def rm_X4_giveRow : Room := { frames := 2, cells := 0, slots := 0, locals := 47 }
def f_X4_giveRow_L6 (p1 : Int32) (p2 : Int32) (p3 : Int32) (p4 : Int64) : (Int32 × Int32 × St) → Option ((Int32 × Int32 × St) ⊕ (Int32 × St))
  | (v_1, v_2, S_3) =>
  (if p3 ≤ v_2 then
    some (.inr ((v_1, S_3)))
  else
    bnd (((p4 >>> ((((p3 - 1) - v_2) * 5).toInt64 &&& 63)).toInt32) &&& 31) fun x_7 => (f_X3_has S_3 x_7).bind (fun r_9 => (if r_9 = 0 then
    bnd (v_1 + 1) fun x_11 => bnd (v_2 + 1) fun x_12 => some (.inl (x_11, x_12, S_3))
  else
    (f_X2_put S_3 p1 (p2 + v_2) x_7).bind (fun S_15 => bnd (v_2 + 1) fun x_16 => some (.inl (v_1, x_16, S_15))))))
def f_X4_giveRow (S : St) (p1 : Int32) (p2 : Int32) (p3 : Int32) (p4 : Int64) : Option (Int32 × St) :=
  loopF (f_X4_giveRow_L6 p1 p2 p3 p4) FU (0, 0, S)
set_option maxHeartbeats 4000000 in
set_option maxRecDepth 100000 in
theorem c_X4_giveRow (G : GP) (l : Launch) (a : Nat → Nat) (ha : a 45 = G.2.2.1) (R : va_W) (S : St) (p1 : Int32) (p2 : Int32) (p3 : Int32) (p4 : Int64) (r0 : Int32) (S9 : St) (hf : f_X4_giveRow S p1 p2 p3 p4 = some (r0, S9)) : MC G l yX4_giveRow wsX4_giveRow rm_X4_giveRow [.ref (a 5), .int p1, .int p2, .int p3, .long p4] (xw G.2.1 a R S) (xw G.2.1 a R S9) (some (.int r0)) 0 0 := by
  refine MC.mk (cc := cX4_giveRow) (maxL := 9) (ret := (some .int)) (by decide) rfl (Nat.le_of_ble_eq_true rfl) ?_
  intro p e s m below meth c A ls ⟨hx, hb, hr, hml, hown, hlocks, _, hts⟩ hw hG hA hl
  have hl : lv_has ls 9 [(0, .ref (a 5)), (1, .int p1), (2, .int p2), (3, .int p3), (4, .long p4)] := hl
  have hin4 : ∀ w ∈ u_ws RX4 TX4 3, w ∈ wsX4_giveRow := by decide +kernel
  rw [f_X4_giveRow] at hf
  refine lv_iconst (v := 0) hx hb dX4_giveRow_0 (by decide) ?_
  refine lv_istore (lv' := [(6, .int 0), (0, .ref (a 5)), (1, .int p1), (2, .int p2), (3, .int p3), (4, .long p4)]) hx hb dX4_giveRow_1 hl (by decide) rfl (fun ls hl => ?_)
  refine lv_iconst (v := 0) hx hb dX4_giveRow_3 (by decide) ?_
  refine lv_istore (lv' := [(7, .int 0), (6, .int 0), (0, .ref (a 5)), (1, .int p1), (2, .int p2), (3, .int p3), (4, .long p4)]) hx hb dX4_giveRow_4 hl (by decide) rfl (fun ls hl => ?_)
  refine loopF_ind (body := f_X4_giveRow_L6 p1 p2 p3 p4) (fun (q : Int32 × Int32 × St) => match q with | (v_1, v_2, S_3) => ∀ (H : Heap) (locs : List Loc) (ls : Array Slot), Wd G A s H locs (xw G.2.1 a R S_3) → lv_has ls 9 [(0, .ref (a 5)), (1, .int p1), (2, .int p2), (3, .int p3), (4, .long p4), (6, .int v_1), (7, .int v_2)] → WQ p l e rm_X4_giveRow s m [.ref (a 5), .int p1, .int p2, .int p3, .long p4] below meth c G A (xw G.2.1 a R S9) (some (.int r0)) 0 0 H locs 0 0 (F0 m 6 ls [])) ?_ FU (0, 0, S) hf _ _ _ hw (lv_sub hl [2, 3, 4, 5, 6, 1, 0] rfl)
  clear hf hw hl
  intro ⟨v_1, v_2, S_3⟩ t0_6 hf hz1_0_6 hz2_0_6 H locs ls hw hl
  rw [f_X4_giveRow_L6] at hf
  refine lv_iload hx hb dX4_giveRow_6 (lv_at hl 6 rfl) ?_
  refine lv_iload_n hx hb dX4_giveRow_8 rfl (lv_at hl 3 rfl) ?_
  refine lv_icmp_ge (tgt := 67) hx hb dX4_giveRow_9 (by decide) (fun c_4 => ?_) (fun c_4 => ?_)
  · replace hf := if_t c_4 hf
    refine lv_iload hx hb dX4_giveRow_67 (lv_at hl 5 rfl) ?_
    have e_5 := Option.some.inj hf
    have e_6 := hz2_0_6 _ e_5.symm
    obtain ⟨rfl, rfl⟩ := Prod.mk.inj e_6
    exact wd_iret hx hb hr hlocks hw dX4_giveRow_69
  · replace hf := if_f c_4 hf
    refine lv_lload hx hb dX4_giveRow_12 (lv_at hl 4 rfl) ?_
    refine lv_iload_n hx hb dX4_giveRow_14 rfl (lv_at hl 3 rfl) ?_
    refine lv_iconst (v := 1) hx hb dX4_giveRow_15 (by decide) ?_
    refine lv_isub hx hb dX4_giveRow_16 ?_
    refine lv_iload hx hb dX4_giveRow_17 (lv_at hl 6 rfl) ?_
    refine lv_isub hx hb dX4_giveRow_19 ?_
    refine lv_iconst (v := 5) hx hb dX4_giveRow_20 (by decide) ?_
    refine lv_imul hx hb dX4_giveRow_21 ?_
    refine lv_lshr (v := p4 >>> ((((p3 - 1) - v_2) * 5).toInt64 &&& 63)) hx hb dX4_giveRow_22 rfl ?_
    refine lv_l2i (v := (p4 >>> ((((p3 - 1) - v_2) * 5).toInt64 &&& 63)).toInt32) hx hb dX4_giveRow_23 rfl ?_
    refine lv_bipush (v := 31) hx hb dX4_giveRow_24 (by decide) ?_
    refine lv_iand hx hb dX4_giveRow_26 ?_
    refine lv_topi (fun x_7 ex_7 => ?_)
    replace hf := bnd_of ex_7 hf
    refine lv_istore (lv' := [(8, .int x_7), (0, .ref (a 5)), (1, .int p1), (2, .int p2), (3, .int p3), (4, .long p4), (6, .int v_1), (7, .int v_2)]) hx hb dX4_giveRow_27 hl (by decide) rfl (fun ls hl => ?_)
    refine lv_aload_n hx hb dX4_giveRow_29 rfl (lv_at hl 1 rfl) ?_
    refine va_get (D := G.1) (ci := 4) (v := .ref (a 3)) (C := RX4) (T := TX4) (N := 3) hx hb hts hin4 hown hG.1 hw.1 5 rfl rfl 0 (by decide) (hts (.fieldLink RX4 15 "DutyDesk$Planner" "people" "LDutyDesk$People;") (List.mem_of_getElem? (i := 1) rfl)) (fun _ h9 => h9) rfl dX4_giveRow_30 ?_
    refine lv_iload hx hb dX4_giveRow_33 (lv_at hl 0 rfl) ?_
    obtain ⟨r_9, h_8, hf⟩ := bind_of hf
    refine cVN (As := [.int x_7]) (rest := []) ⟨hx, hb, hml, hown, hts⟩ hG hA hw (c_X3_has G l a ha R S_3 x_7 r_9 h_8) ⟨va_cnB 1 hts gX4_giveRow_X3_has_n109 rfl rfl rfl (hG.2.1 (.methodLinkNest "DutyDesk$Planner" 109 yX3_has "DutyDesk") (List.mem_of_getElem? (i := 80) rfl)) (hts (.initialized RX3) (List.mem_of_getElem? (i := 4) rfl)) (by decide +kernel) ⟨Nat.le_of_ble_eq_true rfl, Nat.le_of_ble_eq_true rfl⟩, hts (.instanceMethod yX3_has) (List.mem_of_getElem? (i := 3) rfl), hts (.selects RX3 yX3_has yX3_has) (List.mem_of_getElem? (i := 5) rfl)⟩ (va_recv hG.1 hw.1 (ci := 3) (q0 := 3) rfl rfl) rfl hl.1 rfl (Nat.le_of_ble_eq_true rfl) dX4_giveRow_35 ⟨Nat.zero_le _, Nat.zero_le _⟩ (fun H locs hw => ?_)
    refine lv_if_eq (tgt := 58) hx hb dX4_giveRow_38 (by decide) (fun c_10 => ?_) (fun c_10 => ?_)
    · replace hf := if_t c_10 hf
      obtain ⟨x_11, ex_11⟩ : ∃ z : Int32, z = v_1 + 1 := ⟨_, rfl⟩
      replace hf := bnd_of ex_11 hf
      refine lv_iinc (v := x_11) (lv' := [(6, .int x_11), (8, .int x_7), (0, .ref (a 5)), (1, .int p1), (2, .int p2), (3, .int p3), (4, .long p4), (7, .int v_2)]) hx hb dX4_giveRow_58 hl (k := 6) rfl (by rw [ex_11]; rfl) (by decide) rfl (fun ls hl => ?_)
      obtain ⟨x_12, ex_12⟩ : ∃ z : Int32, z = v_2 + 1 := ⟨_, rfl⟩
      replace hf := bnd_of ex_12 hf
      refine lv_iinc (v := x_12) (lv' := [(7, .int x_12), (6, .int x_11), (8, .int x_7), (0, .ref (a 5)), (1, .int p1), (2, .int p2), (3, .int p3), (4, .long p4)]) hx hb dX4_giveRow_61 hl (k := 7) rfl (by rw [ex_12]; rfl) (by decide) rfl (fun ls hl => ?_)
      refine lv_goto (tgt := 6) hx hb dX4_giveRow_64 (by decide) ?_
      have e_13 := Option.some.inj hf
      exact hz1_0_6 _ e_13.symm _ _ _ hw (lv_sub hl [3, 4, 5, 6, 7, 1, 0] rfl)
    · replace hf := if_f c_10 hf
      refine lv_aload_n hx hb dX4_giveRow_41 rfl (lv_at hl 1 rfl) ?_
      refine va_get (D := G.1) (ci := 4) (v := .ref (a 4)) (C := RX4) (T := TX4) (N := 3) hx hb hts hin4 hown hG.1 hw.1 5 rfl rfl 1 (by decide) (hts (.fieldLink RX4 19 "DutyDesk$Planner" "nights" "LDutyDesk$Nights;") (List.mem_of_getElem? (i := 2) rfl)) (fun _ h9 => h9) rfl dX4_giveRow_42 ?_
      refine lv_iload_n hx hb dX4_giveRow_45 rfl (lv_at hl 2 rfl) ?_
      refine lv_iload_n hx hb dX4_giveRow_46 rfl (lv_at hl 3 rfl) ?_
      refine lv_iload hx hb dX4_giveRow_47 (lv_at hl 7 rfl) ?_
      refine lv_iadd hx hb dX4_giveRow_49 ?_
      refine lv_iload hx hb dX4_giveRow_50 (lv_at hl 0 rfl) ?_
      obtain ⟨S_15, h_14, hf⟩ := bind_of hf
      refine cVN (As := [.int p1, .int (p2 + v_2), .int x_7]) (rest := []) ⟨hx, hb, hml, hown, hts⟩ hG hA hw (c_X2_put G l a ha R S_3 p1 (p2 + v_2) x_7 S_15 h_14) ⟨va_cnB 3 hts gX4_giveRow_X2_put_n68 rfl rfl rfl (hG.2.1 (.methodLinkNest "DutyDesk$Planner" 68 yX2_put "DutyDesk") (List.mem_of_getElem? (i := 77) rfl)) (hts (.initialized RX2) (List.mem_of_getElem? (i := 12) rfl)) (by decide +kernel) ⟨Nat.le_of_ble_eq_true rfl, Nat.le_of_ble_eq_true rfl⟩, hts (.instanceMethod yX2_put) (List.mem_of_getElem? (i := 11) rfl), hts (.selects RX2 yX2_put yX2_put) (List.mem_of_getElem? (i := 13) rfl)⟩ (va_recv hG.1 hw.1 (ci := 2) (q0 := 4) rfl rfl) rfl hl.1 rfl (Nat.le_of_ble_eq_true rfl) dX4_giveRow_52 ⟨Nat.zero_le _, Nat.zero_le _⟩ (fun H locs hw => ?_)
      refine lv_goto (tgt := 61) hx hb dX4_giveRow_55 (by decide) ?_
      obtain ⟨x_16, ex_16⟩ : ∃ z : Int32, z = v_2 + 1 := ⟨_, rfl⟩
      replace hf := bnd_of ex_16 hf
      refine lv_iinc (v := x_16) (lv' := [(7, .int x_16), (8, .int x_7), (0, .ref (a 5)), (1, .int p1), (2, .int p2), (3, .int p3), (4, .long p4), (6, .int v_1)]) hx hb dX4_giveRow_61 hl (k := 7) rfl (by rw [ex_16]; rfl) (by decide) rfl (fun ls hl => ?_)
      refine lv_goto (tgt := 6) hx hb dX4_giveRow_64 (by decide) ?_
      have e_17 := Option.some.inj hf
      exact hz1_0_6 _ e_17.symm _ _ _ hw (lv_sub hl [2, 3, 4, 5, 6, 7, 0] rfl)
/-! DutyDesk$Planner.makePlan(III)I -/
def rm_X4_makePlan : Room := { frames := 6, cells := 0, slots := 0, locals := 151 }
def f_X4_makePlan_L31 (p1 : Int32) (p2 : Int32) (p3 : Int32) : (Int32 × St) → Option ((Int32 × St) ⊕ (Int32 × St))
  | (v_8, S_9) =>
  (if (gI S_9 11) ≤ v_8 then
    (f_X4_leastWay S_9 p3).bind (fun r_12 => (f_X4_giveRow S_9 p1 p2 p3 r_12).bind (fun (r_14, S_15) => some (.inr ((r_14, S_15)))))
  else
    (f_X3_isOn S_9 v_8 p1).bind (fun r_19 => (if r_19 = 0 then
    bnd (v_8 + 1) fun x_21 => some (.inl (x_21, S_9))
  else
    (f_X4_fittingSets S_9 v_8 p1 p2 p3).bind (fun (r_24, S_25) => (f_X4_offer S_25 v_8 p3 r_24).bind (fun S_27 => bnd (v_8 + 1) fun x_28 => some (.inl (x_28, S_27)))))))
def f_X4_makePlan (S : St) (p1 : Int32) (p2 : Int32) (p3 : Int32) : Option (Int32 × St) :=
  (f_X4_allNights p3).bind (fun r_2 => (f_X4_giveSet S p1 p2 r_2 (-1)).bind (fun S_4 => bnd (sJf S_4 (fill0 (gJ S_4) 16 1152921504606846976)) fun S_5 => gd 0 16 (bnd (sJ S_5 ((0 : Int32).toNatClampNeg) 0) fun S_7 => loopF (f_X4_makePlan_L31 p1 p2 p3) FU (0, S_7))))
set_option maxHeartbeats 4000000 in
set_option maxRecDepth 100000 in
theorem c_X4_makePlan (G : GP) (l : Launch) (a : Nat → Nat) (ha : a 45 = G.2.2.1) (R : va_W) (S : St) (p1 : Int32) (p2 : Int32) (p3 : Int32) (r0 : Int32) (S9 : St) (hf : f_X4_makePlan S p1 p2 p3 = some (r0, S9)) : MC G l yX4_makePlan wsX4_makePlan rm_X4_makePlan [.ref (a 5), .int p1, .int p2, .int p3] (xw G.2.1 a R S) (xw G.2.1 a R S9) (some (.int r0)) 0 0 := by
  refine MC.mk (cc := cX4_makePlan) (maxL := 5) (ret := (some .int)) (by decide) rfl (Nat.le_of_ble_eq_true rfl) ?_
  intro p e s m below meth c A ls ⟨hx, hb, hr, hml, hown, hlocks, _, hts⟩ hw hG hA hl
  have hl : lv_has ls 5 [(0, .ref (a 5)), (1, .int p1), (2, .int p2), (3, .int p3)] := hl
  have hin3 : ∀ w ∈ u_ws RX3 TX3 8, w ∈ wsX4_makePlan := by decide +kernel
  have hin4 : ∀ w ∈ u_ws RX4 TX4 3, w ∈ wsX4_makePlan := by decide +kernel
  rw [f_X4_makePlan] at hf
  refine lv_aload_n hx hb dX4_makePlan_0 rfl (lv_at hl 0 rfl) ?_
  refine lv_iload_n hx hb dX4_makePlan_1 rfl (lv_at hl 1 rfl) ?_
  refine lv_iload_n hx hb dX4_makePlan_2 rfl (lv_at hl 2 rfl) ?_
  refine lv_iload_n hx hb dX4_makePlan_3 rfl (lv_at hl 3 rfl) ?_
  obtain ⟨r_2, h_1, hf⟩ := bind_of hf
  refine cS (As := [.int p3]) (rest := [.int p2, .int p1, .ref (a 5)]) ⟨hx, hb, hml, hown, hts⟩ hG hA hw (c_X4_allNights G l _ p3 r_2 h_1) (va_cwS 1 hts gX4_makePlan_X4_allNights rfl rfl rfl (by decide +kernel) ⟨Nat.le_of_ble_eq_true rfl, Nat.le_of_ble_eq_true rfl⟩) rfl hl.1 rfl (Nat.le_of_ble_eq_true rfl) dX4_makePlan_4 ⟨Nat.zero_le _, Nat.zero_le _⟩ (fun H locs hw => ?_)
  refine lv_iconst (v := (-1)) hx hb dX4_makePlan_7 (by decide) ?_
  obtain ⟨S_4, h_3, hf⟩ := bind_of hf
  refine cV (As := [.int p1, .int p2, .int r_2, .int (-1)]) (rest := []) ⟨hx, hb, hml, hown, hts⟩ hG hA hw (c_X4_giveSet G l a ha R S p1 p2 r_2 (-1) S_4 h_3) (cwV 4 hts gX4_makePlan_X4_giveSet rfl rfl rfl (by decide +kernel) ⟨Nat.le_of_ble_eq_true rfl, Nat.le_of_ble_eq_true rfl⟩) (va_recv hG.1 hw.1 (ci := 4) (q0 := 5) rfl rfl) rfl hl.1 rfl (Nat.le_of_ble_eq_true rfl) dX4_makePlan_8 ⟨Nat.zero_le _, Nat.zero_le _⟩ (fun H locs hw => ?_)
  refine lv_aload_n hx hb dX4_makePlan_11 rfl (lv_at hl 0 rfl) ?_
  refine va_get (D := G.1) (ci := 4) (v := .ref (a 21)) (C := RX4) (T := TX4) (N := 3) hx hb hts hin4 hown hG.1 hw.1 5 rfl rfl 2 (by decide) (hts (.fieldLink RX4 11 "DutyDesk$Planner" "least" "[J") (List.mem_of_getElem? (i := 1) rfl)) (fun _ h9 => h9) rfl dX4_makePlan_12 ?_
  refine lv_ldc2 (v := 1152921504606846976) hx hb hown (hts (.constantLong RX4 31 (1152921504606846976)) (List.mem_of_getElem? (i := 2) rfl)) dX4_makePlan_15 ?_
  refine cS (As := [.ref (a 21), .long 1152921504606846976]) (rest := []) ⟨hx, hb, hml, hown, hts⟩ hG hA hw (c_fillJ G l (xw G.2.1 a R S_4) 21 16 (a 21) (gJ S_4) 1152921504606846976 rfl (by decide)) (va_cwS 2 hts gX4_makePlan_J7_fill_d0a16 rfl rfl rfl (by decide +kernel) ⟨Nat.le_of_ble_eq_true rfl, Nat.le_of_ble_eq_true rfl⟩) rfl hl.1 rfl (Nat.le_of_ble_eq_true rfl) dX4_makePlan_18 ⟨Nat.zero_le _, Nat.zero_le _⟩ (fun H locs hw => ?_)
  obtain ⟨hP, hD, hS⟩ := hw
  obtain ⟨S_5, eS_5⟩ : ∃ z : St, z = sJf S_4 (fill0 (gJ S_4) 16 1152921504606846976) := ⟨_, rfl⟩
  replace hf := bnd_of eS_5 hf
  have hw : Wd G A s H locs (xw G.2.1 a R S_5) := wd_eq (by rw [eS_5]; exact xw_upJf _) hP hD hS
  refine lv_aload_n hx hb dX4_makePlan_21 rfl (lv_at hl 0 rfl) ?_
  refine va_get (D := G.1) (ci := 4) (v := .ref (a 21)) (C := RX4) (T := TX4) (N := 3) hx hb hts hin4 hown hG.1 hw.1 5 rfl rfl 2 (by decide) (hts (.fieldLink RX4 11 "DutyDesk$Planner" "least" "[J") (List.mem_of_getElem? (i := 1) rfl)) (fun _ h9 => h9) rfl dX4_makePlan_22 ?_
  refine lv_iconst (v := 0) hx hb dX4_makePlan_25 (by decide) ?_
  refine lv_lconst (v := 0) hx hb dX4_makePlan_26 (by decide) ?_
  obtain ⟨h_6, hf⟩ := gd_of hf
  refine va_last hx hb hG.1 hw.1 hw.2.1 hw.2.2 21 2 rfl rfl h_6 dX4_makePlan_27 (fun H locs hP hD hS => ?_)
  obtain ⟨S_7, eS_7⟩ : ∃ z : St, z = sJ S_5 ((0 : Int32).toNatClampNeg) 0 := ⟨_, rfl⟩
  replace hf := bnd_of eS_7 hf
  have hw : Wd G A s H locs (xw G.2.1 a R S_7) := wd_eq (by rw [eS_7]; exact xw_upJ _ _) hP hD hS
  refine lv_iconst (v := 0) hx hb dX4_makePlan_28 (by decide) ?_
  refine lv_istore (lv' := [(4, .int 0), (0, .ref (a 5)), (1, .int p1), (2, .int p2), (3, .int p3)]) hx hb dX4_makePlan_29 hl (by decide) rfl (fun ls hl => ?_)
  refine loopF_ind (body := f_X4_makePlan_L31 p1 p2 p3) (fun (q : Int32 × St) => match q with | (v_8, S_9) => ∀ (H : Heap) (locs : List Loc) (ls : Array Slot), Wd G A s H locs (xw G.2.1 a R S_9) → lv_has ls 5 [(0, .ref (a 5)), (1, .int p1), (2, .int p2), (3, .int p3), (4, .int v_8)] → WQ p l e rm_X4_makePlan s m [.ref (a 5), .int p1, .int p2, .int p3] below meth c G A (xw G.2.1 a R S9) (some (.int r0)) 0 0 H locs 0 0 (F0 m 31 ls [])) ?_ FU (0, S_7) hf _ _ _ hw (lv_sub hl [1, 2, 3, 4, 0] rfl)
  clear hf hw hl
  intro ⟨v_8, S_9⟩ t0_31 hf hz1_0_31 hz2_0_31 H locs ls hw hl
  rw [f_X4_makePlan_L31] at hf
  refine lv_iload hx hb dX4_makePlan_31 (lv_at hl 4 rfl) ?_
  refine lv_aload_n hx hb dX4_makePlan_33 rfl (lv_at hl 0 rfl) ?_
  refine va_get (D := G.1) (ci := 4) (v := .ref (a 3)) (C := RX4) (T := TX4) (N := 3) hx hb hts hin4 hown hG.1 hw.1 5 rfl rfl 0 (by decide) (hts (.fieldLink RX4 15 "DutyDesk$Planner" "people" "LDutyDesk$People;") (List.mem_of_getElem? (i := 3) rfl)) (fun _ h9 => h9) rfl dX4_makePlan_34 ?_
  refine va_getN (D := G.1) (ci := 3) (v := .int (gI S_9 11)) (C := RX3) (T := TX3) (N := 8) (host := "DutyDesk") hx hb hts hin3 hown hG.1 hw.1 3 rfl rfl 7 (by decide) (va_Nw.use rfl (hG.2.1 (.fieldLinkNest "DutyDesk$Planner" 39 "DutyDesk$People" "size" "I" "DutyDesk") (List.mem_of_getElem? (i := 12) rfl))) (fun _ h9 => h9) rfl dX4_makePlan_37 ?_
  refine lv_icmp_ge (tgt := 78) hx hb dX4_makePlan_40 (by decide) (fun c_10 => ?_) (fun c_10 => ?_)
  · replace hf := if_t c_10 hf
    refine lv_aload_n hx hb dX4_makePlan_78 rfl (lv_at hl 0 rfl) ?_
    refine lv_iload_n hx hb dX4_makePlan_79 rfl (lv_at hl 1 rfl) ?_
    refine lv_iload_n hx hb dX4_makePlan_80 rfl (lv_at hl 2 rfl) ?_
    refine lv_iload_n hx hb dX4_makePlan_81 rfl (lv_at hl 3 rfl) ?_
    refine lv_aload_n hx hb dX4_makePlan_82 rfl (lv_at hl 0 rfl) ?_
    refine lv_iload_n hx hb dX4_makePlan_83 rfl (lv_at hl 3 rfl) ?_
    obtain ⟨r_12, h_11, hf⟩ := bind_of hf
    refine cV (As := [.int p3]) (rest := [.int p3, .int p2, .int p1, .ref (a 5)]) ⟨hx, hb, hml, hown, hts⟩ hG hA hw (c_X4_leastWay G l a ha R S_9 p3 r_12 h_11) (cwV 1 hts gX4_makePlan_X4_leastWay rfl rfl rfl (by decide +kernel) ⟨Nat.le_of_ble_eq_true rfl, Nat.le_of_ble_eq_true rfl⟩) (va_recv hG.1 hw.1 (ci := 4) (q0 := 5) rfl rfl) rfl hl.1 rfl (Nat.le_of_ble_eq_true rfl) dX4_makePlan_84 ⟨Nat.zero_le _, Nat.zero_le _⟩ (fun H locs hw => ?_)
    obtain ⟨⟨r_14, S_15⟩, h_13, hf⟩ := bind_of hf
    replace hf : _ = some _ := hf
    refine cV (As := [.int p1, .int p2, .int p3, .long r_12]) (rest := []) ⟨hx, hb, hml, hown, hts⟩ hG hA hw (c_X4_giveRow G l a ha R S_9 p1 p2 p3 r_12 r_14 S_15 h_13) (cwV 4 hts gX4_makePlan_X4_giveRow rfl rfl rfl (by decide +kernel) ⟨Nat.le_of_ble_eq_true rfl, Nat.le_of_ble_eq_true rfl⟩) (va_recv hG.1 hw.1 (ci := 4) (q0 := 5) rfl rfl) rfl hl.1 rfl (Nat.le_of_ble_eq_true rfl) dX4_makePlan_87 ⟨Nat.zero_le _, Nat.zero_le _⟩ (fun H locs hw => ?_)
    have e_16 := Option.some.inj hf
    have e_17 := hz2_0_31 _ e_16.symm
    obtain ⟨rfl, rfl⟩ := Prod.mk.inj e_17
    exact wd_iret hx hb hr hlocks hw dX4_makePlan_90
  · replace hf := if_f c_10 hf
    refine lv_aload_n hx hb dX4_makePlan_43 rfl (lv_at hl 0 rfl) ?_
    refine va_get (D := G.1) (ci := 4) (v := .ref (a 3)) (C := RX4) (T := TX4) (N := 3) hx hb hts hin4 hown hG.1 hw.1 5 rfl rfl 0 (by decide) (hts (.fieldLink RX4 15 "DutyDesk$Planner" "people" "LDutyDesk$People;") (List.mem_of_getElem? (i := 3) rfl)) (fun _ h9 => h9) rfl dX4_makePlan_44 ?_
    refine lv_iload hx hb dX4_makePlan_47 (lv_at hl 4 rfl) ?_
    refine lv_iload_n hx hb dX4_makePlan_49 rfl (lv_at hl 1 rfl) ?_
    obtain ⟨r_19, h_18, hf⟩ := bind_of hf
    refine cVN (As := [.int v_8, .int p1]) (rest := []) ⟨hx, hb, hml, hown, hts⟩ hG hA hw (c_X3_isOn G l a ha R S_9 v_8 p1 r_19 h_18) ⟨va_cnB 2 hts gX4_makePlan_X3_isOn_n45 rfl rfl rfl (hG.2.1 (.methodLinkNest "DutyDesk$Planner" 45 yX3_isOn "DutyDesk") (List.mem_of_getElem? (i := 78) rfl)) (hts (.initialized RX3) (List.mem_of_getElem? (i := 32) rfl)) (by decide +kernel) ⟨Nat.le_of_ble_eq_true rfl, Nat.le_of_ble_eq_true rfl⟩, hts (.instanceMethod yX3_isOn) (List.mem_of_getElem? (i := 31) rfl), hts (.selects RX3 yX3_isOn yX3_isOn) (List.mem_of_getElem? (i := 33) rfl)⟩ (va_recv hG.1 hw.1 (ci := 3) (q0 := 3) rfl rfl) rfl hl.1 rfl (Nat.le_of_ble_eq_true rfl) dX4_makePlan_50 ⟨Nat.zero_le _, Nat.zero_le _⟩ (fun H locs hw => ?_)
    refine lv_if_eq (tgt := 72) hx hb dX4_makePlan_53 (by decide) (fun c_20 => ?_) (fun c_20 => ?_)
    · replace hf := if_t c_20 hf
      obtain ⟨x_21, ex_21⟩ : ∃ z : Int32, z = v_8 + 1 := ⟨_, rfl⟩
      replace hf := bnd_of ex_21 hf
      refine lv_iinc (v := x_21) (lv' := [(4, .int x_21), (0, .ref (a 5)), (1, .int p1), (2, .int p2), (3, .int p3)]) hx hb dX4_makePlan_72 hl (k := 4) rfl (by rw [ex_21]; rfl) (by decide) rfl (fun ls hl => ?_)
      refine lv_goto (tgt := 31) hx hb dX4_makePlan_75 (by decide) ?_
      have e_22 := Option.some.inj hf
      exact hz1_0_31 _ e_22.symm _ _ _ hw (lv_sub hl [1, 2, 3, 4, 0] rfl)
    · replace hf := if_f c_20 hf
      refine lv_aload_n hx hb dX4_makePlan_56 rfl (lv_at hl 0 rfl) ?_
      refine lv_iload hx hb dX4_makePlan_57 (lv_at hl 4 rfl) ?_
      refine lv_iload_n hx hb dX4_makePlan_59 rfl (lv_at hl 3 rfl) ?_
      refine lv_aload_n hx hb dX4_makePlan_60 rfl (lv_at hl 0 rfl) ?_
      refine lv_iload hx hb dX4_makePlan_61 (lv_at hl 4 rfl) ?_
      refine lv_iload_n hx hb dX4_makePlan_63 rfl (lv_at hl 1 rfl) ?_
      refine lv_iload_n hx hb dX4_makePlan_64 rfl (lv_at hl 2 rfl) ?_
      refine lv_iload_n hx hb dX4_makePlan_65 rfl (lv_at hl 3 rfl) ?_
      obtain ⟨⟨r_24, S_25⟩, h_23, hf⟩ := bind_of hf
      replace hf : _ = some _ := hf
      refine cV (As := [.int v_8, .int p1, .int p2, .int p3]) (rest := [.int p3, .int v_8, .ref (a 5)]) ⟨hx, hb, hml, hown, hts⟩ hG hA hw (c_X4_fittingSets G l a ha R S_9 v_8 p1 p2 p3 r_24 S_25 h_23) (cwV 4 hts gX4_makePlan_X4_fittingSets rfl rfl rfl (by decide +kernel) ⟨Nat.le_of_ble_eq_true rfl, Nat.le_of_ble_eq_true rfl⟩) (va_recv hG.1 hw.1 (ci := 4) (q0 := 5) rfl rfl) rfl hl.1 rfl (Nat.le_of_ble_eq_true rfl) dX4_makePlan_66 ⟨Nat.zero_le _, Nat.zero_le _⟩ (fun H locs hw => ?_)
      obtain ⟨S_27, h_26, hf⟩ := bind_of hf
      refine cV (As := [.int v_8, .int p3, .int r_24]) (rest := []) ⟨hx, hb, hml, hown, hts⟩ hG hA hw (c_X4_offer G l a ha R S_25 v_8 p3 r_24 S_27 h_26) (cwV 3 hts gX4_makePlan_X4_offer rfl rfl rfl (by decide +kernel) ⟨Nat.le_of_ble_eq_true rfl, Nat.le_of_ble_eq_true rfl⟩) (va_recv hG.1 hw.1 (ci := 4) (q0 := 5) rfl rfl) rfl hl.1 rfl (Nat.le_of_ble_eq_true rfl) dX4_makePlan_69 ⟨Nat.zero_le _, Nat.zero_le _⟩ (fun H locs hw => ?_)
      obtain ⟨x_28, ex_28⟩ : ∃ z : Int32, z = v_8 + 1 := ⟨_, rfl⟩
      replace hf := bnd_of ex_28 hf
      refine lv_iinc (v := x_28) (lv' := [(4, .int x_28), (0, .ref (a 5)), (1, .int p1), (2, .int p2), (3, .int p3)]) hx hb dX4_makePlan_72 hl (k := 4) rfl (by rw [ex_28]; rfl) (by decide) rfl (fun ls hl => ?_)
      refine lv_goto (tgt := 31) hx hb dX4_makePlan_75 (by decide) ?_
      have e_29 := Option.some.inj hf
      exact hz1_0_31 _ e_29.symm _ _ _ hw (lv_sub hl [1, 2, 3, 4, 0] rfl)
