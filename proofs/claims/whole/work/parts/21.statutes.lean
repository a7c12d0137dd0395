/-! DutyDesk$Statutes.numberInForce(II)I -/
def rm_X6_numberInForce : Room := { frames := 0, cells := 0, slots := 0, locals := 0 }
def f_X6_numberInForce_L8 (S : St) (p1 : Int32) (p2 : Int32) : (Int32 × Int32 × Int32) → Option ((Int32 × Int32 × Int32) ⊕ (Int32))
  | (v_1, v_2, v_3) =>
  (if p2 ≤ v_3 then
    some (.inr (v_1))
  else
    (if (gI S 10) ≤ v_3 then
    some (.inr (v_1))
  else
    gd v_3 20 (bnd (25 + v_3.toNatClampNeg) fun k_11 => gd 11 12 (bnd (gT S k_11 (11 : Int32).toNatClampNeg) fun x_14 => (if p1 < x_14 then
    bnd (v_3 + 1) fun x_16 => some (.inl (v_1, v_2, x_16))
  else
    (if x_14 < v_2 then
    bnd (v_3 + 1) fun x_19 => some (.inl (v_1, v_2, x_19))
  else
    bnd (v_3 + 1) fun x_21 => some (.inl (v_3, x_14, x_21))))))))
def f_X6_numberInForce (S : St) (p1 : Int32) (p2 : Int32) : Option (Int32) :=
  loopF (f_X6_numberInForce_L8 S p1 p2) FU ((-1), (-1), 0)
set_option maxHeartbeats 4000000 in
set_option maxRecDepth 100000 in
theorem c_X6_numberInForce (G : GP) (l : Launch) (a : Nat → Nat) (ha : a 45 = G.2.2.1) (R : va_W) (S : St) (p1 : Int32) (p2 : Int32) (r0 : Int32) (hf : f_X6_numberInForce S p1 p2 = some r0) : MC G l yX6_numberInForce wsX6_numberInForce rm_X6_numberInForce [.ref (a 2), .int p1, .int p2] (xw G.2.1 a R S) (xw G.2.1 a R S) (some (.int r0)) 0 0 := by
  refine MC.mk (cc := cX6_numberInForce) (maxL := 7) (ret := (some .int)) (by decide) rfl (Nat.le_of_ble_eq_true rfl) ?_
  intro p e s m below meth c A ls ⟨hx, hb, hr, hml, hown, hlocks, _, hts⟩ hw hG hA hl
  have hl : lv_has ls 7 [(0, .ref (a 2)), (1, .int p1), (2, .int p2)] := hl
  have hin6 : ∀ w ∈ u_ws RX6 TX6 2, w ∈ wsX6_numberInForce := by decide +kernel
  rw [f_X6_numberInForce] at hf
  refine lv_iconst (v := (-1)) hx hb dX6_numberInForce_0 (by decide) ?_
  refine lv_istore_n (lv' := [(3, .int (-1)), (0, .ref (a 2)), (1, .int p1), (2, .int p2)]) hx hb dX6_numberInForce_1 rfl hl (by decide) rfl (fun ls hl => ?_)
  refine lv_iconst (v := (-1)) hx hb dX6_numberInForce_2 (by decide) ?_
  refine lv_istore (lv' := [(4, .int (-1)), (3, .int (-1)), (0, .ref (a 2)), (1, .int p1), (2, .int p2)]) hx hb dX6_numberInForce_3 hl (by decide) rfl (fun ls hl => ?_)
  refine lv_iconst (v := 0) hx hb dX6_numberInForce_5 (by decide) ?_
  refine lv_istore (lv' := [(5, .int 0), (4, .int (-1)), (3, .int (-1)), (0, .ref (a 2)), (1, .int p1), (2, .int p2)]) hx hb dX6_numberInForce_6 hl (by decide) rfl (fun ls hl => ?_)
  refine loopF_ind (body := f_X6_numberInForce_L8 S p1 p2) (fun (q : Int32 × Int32 × Int32) => match q with | (v_1, v_2, v_3) => ∀ (H : Heap) (locs : List Loc) (ls : Array Slot), Wd G A s H locs (xw G.2.1 a R S) → lv_has ls 7 [(0, .ref (a 2)), (1, .int p1), (2, .int p2), (3, .int v_1), (4, .int v_2), (5, .int v_3)] → WQ p l e rm_X6_numberInForce s m [.ref (a 2), .int p1, .int p2] below meth c G A (xw G.2.1 a R S) (some (.int r0)) 0 0 H locs 0 0 (F0 m 8 ls [])) ?_ FU ((-1), (-1), 0) hf _ _ _ hw (lv_sub hl [3, 4, 5, 2, 1, 0] rfl)
  clear hf hw hl
  intro ⟨v_1, v_2, v_3⟩ t0_8 hf hz1_0_8 hz2_0_8 H locs ls hw hl
  rw [f_X6_numberInForce_L8] at hf
  refine lv_iload hx hb dX6_numberInForce_8 (lv_at hl 5 rfl) ?_
  refine lv_iload_n hx hb dX6_numberInForce_10 rfl (lv_at hl 2 rfl) ?_
  refine lv_icmp_ge (tgt := 61) hx hb dX6_numberInForce_11 (by decide) (fun c_4 => ?_) (fun c_4 => ?_)
  · replace hf := if_t c_4 hf
    refine lv_iload_n hx hb dX6_numberInForce_61 rfl (lv_at hl 3 rfl) ?_
    have e_5 := Option.some.inj hf
    have e_6 := hz2_0_8 _ e_5.symm
    subst e_6
    exact wd_iret hx hb hr hlocks hw dX6_numberInForce_62
  · replace hf := if_f c_4 hf
    refine lv_iload hx hb dX6_numberInForce_14 (lv_at hl 5 rfl) ?_
    refine lv_aload_n hx hb dX6_numberInForce_16 rfl (lv_at hl 0 rfl) ?_
    refine va_get (D := G.1) (ci := 6) (v := .int (gI S 10)) (C := RX6) (T := TX6) (N := 2) hx hb hts hin6 hown hG.1 hw.1 2 rfl rfl 1 (by decide) (hts (.fieldLink RX6 16 "DutyDesk$Statutes" "size" "I") (List.mem_of_getElem? (i := 1) rfl)) (fun _ h9 => h9) rfl dX6_numberInForce_17 ?_
    refine lv_icmp_ge (tgt := 61) hx hb dX6_numberInForce_20 (by decide) (fun c_7 => ?_) (fun c_7 => ?_)
    · replace hf := if_t c_7 hf
      refine lv_iload_n hx hb dX6_numberInForce_61 rfl (lv_at hl 3 rfl) ?_
      have e_8 := Option.some.inj hf
      have e_9 := hz2_0_8 _ e_8.symm
      subst e_9
      exact wd_iret hx hb hr hlocks hw dX6_numberInForce_62
    · replace hf := if_f c_7 hf
      refine lv_aload_n hx hb dX6_numberInForce_23 rfl (lv_at hl 0 rfl) ?_
      refine va_get (D := G.1) (ci := 6) (v := .ref (a 9)) (C := RX6) (T := TX6) (N := 2) hx hb hts hin6 hown hG.1 hw.1 2 rfl rfl 0 (by decide) (hts (.fieldLink RX6 11 "DutyDesk$Statutes" "texts" "[[I") (List.mem_of_getElem? (i := 2) rfl)) (fun _ h9 => h9) rfl dX6_numberInForce_24 ?_
      refine lv_iload hx hb dX6_numberInForce_27 (lv_at hl 5 rfl) ?_
      obtain ⟨h_10, hf⟩ := gd_of hf
      refine x_ald9 hx hb hG hw h_10 dX6_numberInForce_29 ?_
      obtain ⟨k_11, ek_11⟩ : ∃ z : Nat, z = 25 + v_3.toNatClampNeg := ⟨_, rfl⟩
      rw [← ek_11]
      replace hf := bnd_of ek_11 hf
      have ht_12 : 25 ≤ k_11 ∧ k_11 ≤ 45 := by rw [ek_11]; exact x_in9 h_10
      refine lv_bipush (v := 11) hx hb dX6_numberInForce_30 (by decide) ?_
      obtain ⟨h_13, hf⟩ := gd_of hf
      refine x_tald hx hb ha hG hw ht_12 h_13 dX6_numberInForce_32 ?_
      refine lv_topi (fun x_14 ex_14 => ?_)
      replace hf := bnd_of ex_14 hf
      refine lv_istore (lv' := [(6, .int x_14), (0, .ref (a 2)), (1, .int p1), (2, .int p2), (3, .int v_1), (4, .int v_2), (5, .int v_3)]) hx hb dX6_numberInForce_33 hl (by decide) rfl (fun ls hl => ?_)
      refine lv_iload hx hb dX6_numberInForce_35 (lv_at hl 0 rfl) ?_
      refine lv_iload_n hx hb dX6_numberInForce_37 rfl (lv_at hl 2 rfl) ?_
      refine lv_icmp_gt (tgt := 55) hx hb dX6_numberInForce_38 (by decide) (fun c_15 => ?_) (fun c_15 => ?_)
      · replace hf := if_t c_15 hf
        obtain ⟨x_16, ex_16⟩ : ∃ z : Int32, z = v_3 + 1 := ⟨_, rfl⟩
        replace hf := bnd_of ex_16 hf
        refine lv_iinc (v := x_16) (lv' := [(5, .int x_16), (6, .int x_14), (0, .ref (a 2)), (1, .int p1), (2, .int p2), (3, .int v_1), (4, .int v_2)]) hx hb dX6_numberInForce_55 hl (k := 6) rfl (by rw [ex_16]; rfl) (by decide) rfl (fun ls hl => ?_)
        refine lv_goto (tgt := 8) hx hb dX6_numberInForce_58 (by decide) ?_
        have e_17 := Option.some.inj hf
        exact hz1_0_8 _ e_17.symm _ _ _ hw (lv_sub hl [2, 3, 4, 5, 6, 0] rfl)
      · replace hf := if_f c_15 hf
        refine lv_iload hx hb dX6_numberInForce_41 (lv_at hl 0 rfl) ?_
        refine lv_iload hx hb dX6_numberInForce_43 (lv_at hl 5 rfl) ?_
        refine lv_icmp_lt (tgt := 55) hx hb dX6_numberInForce_45 (by decide) (fun c_18 => ?_) (fun c_18 => ?_)
        · replace hf := if_t c_18 hf
          obtain ⟨x_19, ex_19⟩ : ∃ z : Int32, z = v_3 + 1 := ⟨_, rfl⟩
          replace hf := bnd_of ex_19 hf
          refine lv_iinc (v := x_19) (lv' := [(5, .int x_19), (6, .int x_14), (0, .ref (a 2)), (1, .int p1), (2, .int p2), (3, .int v_1), (4, .int v_2)]) hx hb dX6_numberInForce_55 hl (k := 6) rfl (by rw [ex_19]; rfl) (by decide) rfl (fun ls hl => ?_)
          refine lv_goto (tgt := 8) hx hb dX6_numberInForce_58 (by decide) ?_
          have e_20 := Option.some.inj hf
          exact hz1_0_8 _ e_20.symm _ _ _ hw (lv_sub hl [2, 3, 4, 5, 6, 0] rfl)
        · replace hf := if_f c_18 hf
          refine lv_iload hx hb dX6_numberInForce_48 (lv_at hl 6 rfl) ?_
          refine lv_istore_n (lv' := [(3, .int v_3), (6, .int x_14), (0, .ref (a 2)), (1, .int p1), (2, .int p2), (4, .int v_2), (5, .int v_3)]) hx hb dX6_numberInForce_50 rfl hl (by decide) rfl (fun ls hl => ?_)
          refine lv_iload hx hb dX6_numberInForce_51 (lv_at hl 1 rfl) ?_
          refine lv_istore (lv' := [(4, .int x_14), (3, .int v_3), (6, .int x_14), (0, .ref (a 2)), (1, .int p1), (2, .int p2), (5, .int v_3)]) hx hb dX6_numberInForce_53 hl (by decide) rfl (fun ls hl => ?_)
          obtain ⟨x_21, ex_21⟩ : ∃ z : Int32, z = v_3 + 1 := ⟨_, rfl⟩
          replace hf := bnd_of ex_21 hf
          refine lv_iinc (v := x_21) (lv' := [(5, .int x_21), (4, .int x_14), (3, .int v_3), (6, .int x_14), (0, .ref (a 2)), (1, .int p1), (2, .int p2)]) hx hb dX6_numberInForce_55 hl (k := 6) rfl (by rw [ex_21]; rfl) (by decide) rfl (fun ls hl => ?_)
          refine lv_goto (tgt := 8) hx hb dX6_numberInForce_58 (by decide) ?_
          have e_22 := Option.some.inj hf
          exact hz1_0_8 _ e_22.symm _ _ _ hw (lv_sub hl [4, 5, 6, 2, 1, 0] rfl)
/-! DutyDesk$Statutes.text(I)[I -/
def rm_X6_text : Room := { frames := 0, cells := 0, slots := 0, locals := 0 }
def f_X6_text (S : St) (p1 : Int32) : Option (Nat) :=
  (if p1 < 0 then
    some (45)
  else
    (if (gI S 10) ≤ p1 then
    some (45)
  else
    gd p1 20 (bnd (25 + p1.toNatClampNeg) fun k_6 => some (k_6))))
set_option maxHeartbeats 4000000 in
set_option maxRecDepth 100000 in
theorem c_X6_text (G : GP) (l : Launch) (a : Nat → Nat) (ha : a 45 = G.2.2.1) (R : va_W) (S : St) (p1 : Int32) (r0 : Nat) (hf : f_X6_text S p1 = some r0) : MC G l yX6_text wsX6_text rm_X6_text [.ref (a 2), .int p1] (xw G.2.1 a R S) (xw G.2.1 a R S) (some (.ref (a r0))) 0 0 := by
  refine MC.mk (cc := cX6_text) (maxL := 2) (ret := (some (.array .int))) (by decide) rfl (Nat.le_of_ble_eq_true rfl) ?_
  intro p e s m below meth c A ls ⟨hx, hb, hr, hml, hown, hlocks, _, hts⟩ hw hG hA hl
  have hl : lv_has ls 2 [(0, .ref (a 2)), (1, .int p1)] := hl
  have hin6 : ∀ w ∈ u_ws RX6 TX6 2, w ∈ wsX6_text := by decide +kernel
  rw [f_X6_text] at hf
  refine lv_iload_n hx hb dX6_text_0 rfl (lv_at hl 1 rfl) ?_
  refine lv_if_lt (tgt := 21) hx hb dX6_text_1 (by decide) (fun c_1 => ?_) (fun c_1 => ?_)
  · replace hf := if_t c_1 hf
    refine va_getsN (C := "DutyDesk") (host := "DutyDesk") hx hb hG.2.2.1 hw.2.2 hown (va_Nw.use rfl (hG.2.1 (.fieldLinkNest "DutyDesk$Statutes" 26 "DutyDesk" "PLAIN_TEXT" "[I" "DutyDesk") (List.mem_of_getElem? (i := 21) rfl))) (fun _ h9 => h9) dX6_text_21 ?_
    rw [← ha]
    have e_2 := Option.some.inj hf
    subst e_2
    exact wd_aret hx hb hr (by first | exact Or.inl ⟨_, rfl⟩ | exact Or.inr ⟨_, rfl⟩) hlocks hw dX6_text_24
  · replace hf := if_f c_1 hf
    refine lv_iload_n hx hb dX6_text_4 rfl (lv_at hl 1 rfl) ?_
    refine lv_aload_n hx hb dX6_text_5 rfl (lv_at hl 0 rfl) ?_
    refine va_get (D := G.1) (ci := 6) (v := .int (gI S 10)) (C := RX6) (T := TX6) (N := 2) hx hb hts hin6 hown hG.1 hw.1 2 rfl rfl 1 (by decide) (hts (.fieldLink RX6 16 "DutyDesk$Statutes" "size" "I") (List.mem_of_getElem? (i := 1) rfl)) (fun _ h9 => h9) rfl dX6_text_6 ?_
    refine lv_icmp_ge (tgt := 21) hx hb dX6_text_9 (by decide) (fun c_3 => ?_) (fun c_3 => ?_)
    · replace hf := if_t c_3 hf
      refine va_getsN (C := "DutyDesk") (host := "DutyDesk") hx hb hG.2.2.1 hw.2.2 hown (va_Nw.use rfl (hG.2.1 (.fieldLinkNest "DutyDesk$Statutes" 26 "DutyDesk" "PLAIN_TEXT" "[I" "DutyDesk") (List.mem_of_getElem? (i := 21) rfl))) (fun _ h9 => h9) dX6_text_21 ?_
      rw [← ha]
      have e_4 := Option.some.inj hf
      subst e_4
      exact wd_aret hx hb hr (by first | exact Or.inl ⟨_, rfl⟩ | exact Or.inr ⟨_, rfl⟩) hlocks hw dX6_text_24
    · replace hf := if_f c_3 hf
      refine lv_aload_n hx hb dX6_text_12 rfl (lv_at hl 0 rfl) ?_
      refine va_get (D := G.1) (ci := 6) (v := .ref (a 9)) (C := RX6) (T := TX6) (N := 2) hx hb hts hin6 hown hG.1 hw.1 2 rfl rfl 0 (by decide) (hts (.fieldLink RX6 11 "DutyDesk$Statutes" "texts" "[[I") (List.mem_of_getElem? (i := 2) rfl)) (fun _ h9 => h9) rfl dX6_text_13 ?_
      refine lv_iload_n hx hb dX6_text_16 rfl (lv_at hl 1 rfl) ?_
      obtain ⟨h_5, hf⟩ := gd_of hf
      refine x_ald9 hx hb hG hw h_5 dX6_text_17 ?_
      obtain ⟨k_6, ek_6⟩ : ∃ z : Nat, z = 25 + p1.toNatClampNeg := ⟨_, rfl⟩
      rw [← ek_6]
      replace hf := bnd_of ek_6 hf
      have ht_7 : 25 ≤ k_6 ∧ k_6 ≤ 45 := by rw [ek_6]; exact x_in9 h_5
      refine lv_goto (tgt := 24) hx hb dX6_text_18 (by decide) ?_
      have e_8 := Option.some.inj hf
      subst e_8
      exact wd_aret hx hb hr (by first | exact Or.inl ⟨_, rfl⟩ | exact Or.inr ⟨_, rfl⟩) hlocks hw dX6_text_24
/-! DutyDesk$Statutes.textNow(I)[I -/
def rm_X6_textNow : Room := { frames := 1, cells := 0, slots := 0, locals := 26 }
def f_X6_textNow (S : St) (p1 : Int32) : Option (Nat) :=
  (f_X6_numberInForce S p1 (gI S 10)).bind (fun r_2 => (f_X6_text S r_2).bind (fun r_4 => gk r_4 (some (r_4))))
set_option maxHeartbeats 4000000 in
set_option maxRecDepth 100000 in
theorem c_X6_textNow (G : GP) (l : Launch) (a : Nat → Nat) (ha : a 45 = G.2.2.1) (R : va_W) (S : St) (p1 : Int32) (r0 : Nat) (hf : f_X6_textNow S p1 = some r0) : MC G l yX6_textNow wsX6_textNow rm_X6_textNow [.ref (a 2), .int p1] (xw G.2.1 a R S) (xw G.2.1 a R S) (some (.ref (a r0))) 0 0 := by
  refine MC.mk (cc := cX6_textNow) (maxL := 2) (ret := (some (.array .int))) (by decide) rfl (Nat.le_of_ble_eq_true rfl) ?_
  intro p e s m below meth c A ls ⟨hx, hb, hr, hml, hown, hlocks, _, hts⟩ hw hG hA hl
  have hl : lv_has ls 2 [(0, .ref (a 2)), (1, .int p1)] := hl
  have hin6 : ∀ w ∈ u_ws RX6 TX6 2, w ∈ wsX6_textNow := by decide +kernel
  rw [f_X6_textNow] at hf
  refine lv_aload_n hx hb dX6_textNow_0 rfl (lv_at hl 0 rfl) ?_
  refine lv_aload_n hx hb dX6_textNow_1 rfl (lv_at hl 0 rfl) ?_
  refine lv_iload_n hx hb dX6_textNow_2 rfl (lv_at hl 1 rfl) ?_
  refine lv_aload_n hx hb dX6_textNow_3 rfl (lv_at hl 0 rfl) ?_
  refine va_get (D := G.1) (ci := 6) (v := .int (gI S 10)) (C := RX6) (T := TX6) (N := 2) hx hb hts hin6 hown hG.1 hw.1 2 rfl rfl 1 (by decide) (hts (.fieldLink RX6 16 "DutyDesk$Statutes" "size" "I") (List.mem_of_getElem? (i := 1) rfl)) (fun _ h9 => h9) rfl dX6_textNow_4 ?_
  obtain ⟨r_2, h_1, hf⟩ := bind_of hf
  refine cV (As := [.int p1, .int (gI S 10)]) (rest := [.ref (a 2)]) ⟨hx, hb, hml, hown, hts⟩ hG hA hw (c_X6_numberInForce G l a ha R S p1 (gI S 10) r_2 h_1) (cwV 2 hts gX6_textNow_X6_numberInForce rfl rfl rfl (by decide +kernel) ⟨Nat.le_of_ble_eq_true rfl, Nat.le_of_ble_eq_true rfl⟩) (va_recv hG.1 hw.1 (ci := 6) (q0 := 2) rfl rfl) rfl hl.1 rfl (Nat.le_of_ble_eq_true rfl) dX6_textNow_7 ⟨Nat.zero_le _, Nat.zero_le _⟩ (fun H locs hw => ?_)
  obtain ⟨r_4, h_3, hf⟩ := bind_of hf
  refine cV (As := [.int r_2]) (rest := []) ⟨hx, hb, hml, hown, hts⟩ hG hA hw (c_X6_text G l a ha R S r_2 r_4 h_3) (cwV 1 hts gX6_textNow_X6_text rfl rfl rfl (by decide +kernel) ⟨Nat.le_of_ble_eq_true rfl, Nat.le_of_ble_eq_true rfl⟩) (va_recv hG.1 hw.1 (ci := 6) (q0 := 2) rfl rfl) rfl hl.1 rfl (Nat.le_of_ble_eq_true rfl) dX6_textNow_10 ⟨Nat.zero_le _, Nat.zero_le _⟩ (fun H locs hw => ?_)
  obtain ⟨ht_5, hf⟩ := gk_of hf
  have e_6 := Option.some.inj hf
  subst e_6
  exact wd_aret hx hb hr (by first | exact Or.inl ⟨_, rfl⟩ | exact Or.inr ⟨_, rfl⟩) hlocks hw dX6_textNow_13
/-! DutyDesk$Statutes.add([II)I -/
def rm_X6_add : Room := { frames := 1, cells := 0, slots := 0, locals := 60 }
def f_X6_add (S : St) (p2 : Int32) : Option (Int32 × St) :=
  gd (gI S 10) 20 (bnd (25 + (gI S 10).toNatClampNeg) fun k_2 => gn k_2 45 (bnd (sF S k_2 (fun j => if j < 12 then gM S 8 j else gM S k_2 j)) fun S_4 => gd (gI S_4 10) 20 (bnd (25 + (gI S_4 10).toNatClampNeg) fun k_7 => gn k_7 45 (gd 11 12 (bnd (sM S_4 k_7 ((11 : Int32).toNatClampNeg) p2) fun S_10 => bnd (sI S_10 10 ((gI S_10 10) + 1)) fun S_12 => some (((gI S_12 10) - 1, S_12)))))))
set_option maxHeartbeats 4000000 in
set_option maxRecDepth 100000 in
theorem c_X6_add (G : GP) (l : Launch) (a : Nat → Nat) (ha : a 45 = G.2.2.1) (R : va_W) (S : St) (p2 : Int32) (r0 : Int32) (S9 : St) (hf : f_X6_add S p2 = some (r0, S9)) : MC G l yX6_add wsX6_add rm_X6_add [.ref (a 2), .ref (a 8), .int p2] (xw G.2.1 a R S) (xw G.2.1 a R S9) (some (.int r0)) 0 0 := by
  refine MC.mk (cc := cX6_add) (maxL := 3) (ret := (some .int)) (by decide) rfl (Nat.le_of_ble_eq_true rfl) ?_
  intro p e s m below meth c A ls ⟨hx, hb, hr, hml, hown, hlocks, _, hts⟩ hw hG hA hl
  have hl : lv_has ls 3 [(0, .ref (a 2)), (1, .ref (a 8)), (2, .int p2)] := hl
  have hin6 : ∀ w ∈ u_ws RX6 TX6 2, w ∈ wsX6_add := by decide +kernel
  rw [f_X6_add] at hf
  refine lv_aload_n hx hb dX6_add_0 rfl (lv_at hl 1 rfl) ?_
  refine lv_iconst (v := 0) hx hb dX6_add_1 (by decide) ?_
  refine lv_aload_n hx hb dX6_add_2 rfl (lv_at hl 0 rfl) ?_
  refine va_get (D := G.1) (ci := 6) (v := .ref (a 9)) (C := RX6) (T := TX6) (N := 2) hx hb hts hin6 hown hG.1 hw.1 2 rfl rfl 0 (by decide) (hts (.fieldLink RX6 11 "DutyDesk$Statutes" "texts" "[[I") (List.mem_of_getElem? (i := 1) rfl)) (fun _ h9 => h9) rfl dX6_add_3 ?_
  refine lv_aload_n hx hb dX6_add_6 rfl (lv_at hl 0 rfl) ?_
  refine va_get (D := G.1) (ci := 6) (v := .int (gI S 10)) (C := RX6) (T := TX6) (N := 2) hx hb hts hin6 hown hG.1 hw.1 2 rfl rfl 1 (by decide) (hts (.fieldLink RX6 16 "DutyDesk$Statutes" "size" "I") (List.mem_of_getElem? (i := 2) rfl)) (fun _ h9 => h9) rfl dX6_add_7 ?_
  obtain ⟨h_1, hf⟩ := gd_of hf
  refine x_ald9 hx hb hG hw h_1 dX6_add_10 ?_
  obtain ⟨k_2, ek_2⟩ : ∃ z : Nat, z = 25 + (gI S 10).toNatClampNeg := ⟨_, rfl⟩
  rw [← ek_2]
  replace hf := bnd_of ek_2 hf
  have ht_3 : 25 ≤ k_2 ∧ k_2 ≤ 45 := by rw [ek_2]; exact x_in9 h_1
  refine lv_iconst (v := 0) hx hb dX6_add_11 (by decide) ?_
  refine lv_bipush (v := 12) hx hb dX6_add_12 (by decide) ?_
  obtain ⟨h_5, hf⟩ := gn_of hf
  refine x_copyT hx hb (by rw [hml]; exact hl.1.symm) hown (hts (.methodLink RX6 20 arraycopyName) (List.mem_of_getElem? (i := 3) rfl)) (hts (.native arraycopyName) (List.mem_of_getElem? (i := 4) rfl)) (hts (.static arraycopyName) (List.mem_of_getElem? (i := 5) rfl)) (hts (.initialized "java/lang/System") (List.mem_of_getElem? (i := 6) rfl)) hG hw 8 rfl ht_3 h_5 (by decide) (Nat.le_of_ble_eq_true rfl) (Nat.le_of_ble_eq_true rfl) dX6_add_14 (fun H locs hw => ?_)
  obtain ⟨hP, hD, hS⟩ := hw
  obtain ⟨S_4, eS_4⟩ : ∃ z : St, z = sF S k_2 (fun j => if j < 12 then gM S 8 j else gM S k_2 j) := ⟨_, rfl⟩
  replace hf := bnd_of eS_4 hf
  have hw : Wd G A s H locs (xw G.2.1 a R S_4) := wd_eq (by rw [eS_4]) hP hD hS
  refine lv_aload_n hx hb dX6_add_17 rfl (lv_at hl 0 rfl) ?_
  refine va_get (D := G.1) (ci := 6) (v := .ref (a 9)) (C := RX6) (T := TX6) (N := 2) hx hb hts hin6 hown hG.1 hw.1 2 rfl rfl 0 (by decide) (hts (.fieldLink RX6 11 "DutyDesk$Statutes" "texts" "[[I") (List.mem_of_getElem? (i := 1) rfl)) (fun _ h9 => h9) rfl dX6_add_18 ?_
  refine lv_aload_n hx hb dX6_add_21 rfl (lv_at hl 0 rfl) ?_
  refine va_get (D := G.1) (ci := 6) (v := .int (gI S_4 10)) (C := RX6) (T := TX6) (N := 2) hx hb hts hin6 hown hG.1 hw.1 2 rfl rfl 1 (by decide) (hts (.fieldLink RX6 16 "DutyDesk$Statutes" "size" "I") (List.mem_of_getElem? (i := 2) rfl)) (fun _ h9 => h9) rfl dX6_add_22 ?_
  obtain ⟨h_6, hf⟩ := gd_of hf
  refine x_ald9 hx hb hG hw h_6 dX6_add_25 ?_
  obtain ⟨k_7, ek_7⟩ : ∃ z : Nat, z = 25 + (gI S_4 10).toNatClampNeg := ⟨_, rfl⟩
  rw [← ek_7]
  replace hf := bnd_of ek_7 hf
  have ht_8 : 25 ≤ k_7 ∧ k_7 ≤ 45 := by rw [ek_7]; exact x_in9 h_6
  refine lv_bipush (v := 11) hx hb dX6_add_26 (by decide) ?_
  refine lv_iload_n hx hb dX6_add_28 rfl (lv_at hl 2 rfl) ?_
  obtain ⟨h_11, hf⟩ := gn_of hf
  obtain ⟨h_9, hf⟩ := gd_of hf
  refine va_iast hx hb hG.1 hw.1 hw.2.1 hw.2.2 k_7 1 (xw_atT2 ht_8.1 h_11) rfl h_9 dX6_add_29 (fun H locs hP hD hS => ?_)
  obtain ⟨S_10, eS_10⟩ : ∃ z : St, z = sM S_4 k_7 ((11 : Int32).toNatClampNeg) p2 := ⟨_, rfl⟩
  replace hf := bnd_of eS_10 hf
  have hw : Wd G A s H locs (xw G.2.1 a R S_10) := wd_eq (by rw [eS_10]; exact xw_upT2 ht_8.1 h_11 _) hP hD hS
  refine lv_aload_n hx hb dX6_add_30 rfl (lv_at hl 0 rfl) ?_
  refine lv_dup hx hb dX6_add_31 rfl ?_
  refine va_get (D := G.1) (ci := 6) (v := .int (gI S_10 10)) (C := RX6) (T := TX6) (N := 2) hx hb hts hin6 hown hG.1 hw.1 2 rfl rfl 1 (by decide) (hts (.fieldLink RX6 16 "DutyDesk$Statutes" "size" "I") (List.mem_of_getElem? (i := 2) rfl)) (fun _ h9 => h9) rfl dX6_add_32 ?_
  refine lv_iconst (v := 1) hx hb dX6_add_35 (by decide) ?_
  refine lv_iadd hx hb dX6_add_36 ?_
  refine va_put (D := G.1) (ci := 6) (v := .int ((gI S_10 10) + 1)) (ty := .int) (C := RX6) (T := TX6) (N := 2) hx hb hts hin6 tyX6 tyX6_ok nmX6 hown hG.1 hw.1 hw.2.1 hw.2.2 2 rfl rfl 1 (by decide) (hts (.fieldLink RX6 16 "DutyDesk$Statutes" "size" "I") (List.mem_of_getElem? (i := 2) rfl)) (fun _ h9 => h9) rfl (by decide +kernel) rfl rfl (Nat.le_of_ble_eq_true rfl) dX6_add_37 (fun H locs hP hD hS => ?_)
  obtain ⟨S_12, eS_12⟩ : ∃ z : St, z = sI S_10 10 ((gI S_10 10) + 1) := ⟨_, rfl⟩
  replace hf := bnd_of eS_12 hf
  have hw : Wd G A s H locs (xw G.2.1 a R S_12) := wd_eq (by rw [eS_12]; exact xw_upI10 _) hP hD hS
  refine lv_aload_n hx hb dX6_add_40 rfl (lv_at hl 0 rfl) ?_
  refine va_get (D := G.1) (ci := 6) (v := .int (gI S_12 10)) (C := RX6) (T := TX6) (N := 2) hx hb hts hin6 hown hG.1 hw.1 2 rfl rfl 1 (by decide) (hts (.fieldLink RX6 16 "DutyDesk$Statutes" "size" "I") (List.mem_of_getElem? (i := 2) rfl)) (fun _ h9 => h9) rfl dX6_add_41 ?_
  refine lv_iconst (v := 1) hx hb dX6_add_44 (by decide) ?_
  refine lv_isub hx hb dX6_add_45 ?_
  have e_13 := Option.some.inj hf
  obtain ⟨rfl, rfl⟩ := Prod.mk.inj e_13
  exact wd_iret hx hb hr hlocks hw dX6_add_46
/-! DutyDesk$Statutes.canKnow(I)Z -/
def rm_X6_canKnow : Room := { frames := 0, cells := 0, slots := 0, locals := 0 }
def f_X6_canKnow (S : St) (p1 : Int32) : Option (Int32) :=
  (if p1 < 0 then
    some (0)
  else
    (if (gI S 10) < p1 then
    some (0)
  else
    some (1)))
set_option maxHeartbeats 4000000 in
set_option maxRecDepth 100000 in
theorem c_X6_canKnow (G : GP) (l : Launch) (a : Nat → Nat) (ha : a 45 = G.2.2.1) (R : va_W) (S : St) (p1 : Int32) (r0 : Int32) (hf : f_X6_canKnow S p1 = some r0) : MC G l yX6_canKnow wsX6_canKnow rm_X6_canKnow [.ref (a 2), .int p1] (xw G.2.1 a R S) (xw G.2.1 a R S) (some (.int r0)) 0 0 := by
  refine MC.mk (cc := cX6_canKnow) (maxL := 2) (ret := (some .boolean)) (by decide) rfl (Nat.le_of_ble_eq_true rfl) ?_
  intro p e s m below meth c A ls ⟨hx, hb, hr, hml, hown, hlocks, _, hts⟩ hw hG hA hl
  have hl : lv_has ls 2 [(0, .ref (a 2)), (1, .int p1)] := hl
  have hin6 : ∀ w ∈ u_ws RX6 TX6 2, w ∈ wsX6_canKnow := by decide +kernel
  rw [f_X6_canKnow] at hf
  refine lv_iload_n hx hb dX6_canKnow_0 rfl (lv_at hl 1 rfl) ?_
  refine lv_if_lt (tgt := 16) hx hb dX6_canKnow_1 (by decide) (fun c_1 => ?_) (fun c_1 => ?_)
  · replace hf := if_t c_1 hf
    refine lv_iconst (v := 0) hx hb dX6_canKnow_16 (by decide) ?_
    have e_2 := Option.some.inj hf
    subst e_2
    exact wd_zret hx hb hr rfl hlocks hw dX6_canKnow_17
  · replace hf := if_f c_1 hf
    refine lv_iload_n hx hb dX6_canKnow_4 rfl (lv_at hl 1 rfl) ?_
    refine lv_aload_n hx hb dX6_canKnow_5 rfl (lv_at hl 0 rfl) ?_
    refine va_get (D := G.1) (ci := 6) (v := .int (gI S 10)) (C := RX6) (T := TX6) (N := 2) hx hb hts hin6 hown hG.1 hw.1 2 rfl rfl 1 (by decide) (hts (.fieldLink RX6 16 "DutyDesk$Statutes" "size" "I") (List.mem_of_getElem? (i := 1) rfl)) (fun _ h9 => h9) rfl dX6_canKnow_6 ?_
    refine lv_icmp_gt (tgt := 16) hx hb dX6_canKnow_9 (by decide) (fun c_3 => ?_) (fun c_3 => ?_)
    · replace hf := if_t c_3 hf
      refine lv_iconst (v := 0) hx hb dX6_canKnow_16 (by decide) ?_
      have e_4 := Option.some.inj hf
      subst e_4
      exact wd_zret hx hb hr rfl hlocks hw dX6_canKnow_17
    · replace hf := if_f c_3 hf
      refine lv_iconst (v := 1) hx hb dX6_canKnow_12 (by decide) ?_
      refine lv_goto (tgt := 17) hx hb dX6_canKnow_13 (by decide) ?_
      have e_5 := Option.some.inj hf
      subst e_5
      exact wd_zret hx hb hr rfl hlocks hw dX6_canKnow_17
/-! DutyDesk$Statutes.textKnown(II)[I -/
def rm_X6_textKnown : Room := { frames := 1, cells := 0, slots := 0, locals := 26 }
def f_X6_textKnown (S : St) (p1 : Int32) (p2 : Int32) : Option (Nat) :=
  (f_X6_numberInForce S p1 p2).bind (fun r_2 => (f_X6_text S r_2).bind (fun r_4 => gk r_4 (some (r_4))))
set_option maxHeartbeats 4000000 in
set_option maxRecDepth 100000 in
theorem c_X6_textKnown (G : GP) (l : Launch) (a : Nat → Nat) (ha : a 45 = G.2.2.1) (R : va_W) (S : St) (p1 : Int32) (p2 : Int32) (r0 : Nat) (hf : f_X6_textKnown S p1 p2 = some r0) : MC G l yX6_textKnown wsX6_textKnown rm_X6_textKnown [.ref (a 2), .int p1, .int p2] (xw G.2.1 a R S) (xw G.2.1 a R S) (some (.ref (a r0))) 0 0 := by
  refine MC.mk (cc := cX6_textKnown) (maxL := 3) (ret := (some (.array .int))) (by decide) rfl (Nat.le_of_ble_eq_true rfl) ?_
  intro p e s m below meth c A ls ⟨hx, hb, hr, hml, hown, hlocks, _, hts⟩ hw hG hA hl
  have hl : lv_has ls 3 [(0, .ref (a 2)), (1, .int p1), (2, .int p2)] := hl
  rw [f_X6_textKnown] at hf
  refine lv_aload_n hx hb dX6_textKnown_0 rfl (lv_at hl 0 rfl) ?_
  refine lv_aload_n hx hb dX6_textKnown_1 rfl (lv_at hl 0 rfl) ?_
  refine lv_iload_n hx hb dX6_textKnown_2 rfl (lv_at hl 1 rfl) ?_
  refine lv_iload_n hx hb dX6_textKnown_3 rfl (lv_at hl 2 rfl) ?_
  obtain ⟨r_2, h_1, hf⟩ := bind_of hf
  refine cV (As := [.int p1, .int p2]) (rest := [.ref (a 2)]) ⟨hx, hb, hml, hown, hts⟩ hG hA hw (c_X6_numberInForce G l a ha R S p1 p2 r_2 h_1) (cwV 2 hts gX6_textKnown_X6_numberInForce rfl rfl rfl (by decide +kernel) ⟨Nat.le_of_ble_eq_true rfl, Nat.le_of_ble_eq_true rfl⟩) (va_recv hG.1 hw.1 (ci := 6) (q0 := 2) rfl rfl) rfl hl.1 rfl (Nat.le_of_ble_eq_true rfl) dX6_textKnown_4 ⟨Nat.zero_le _, Nat.zero_le _⟩ (fun H locs hw => ?_)
  obtain ⟨r_4, h_3, hf⟩ := bind_of hf
  refine cV (As := [.int r_2]) (rest := []) ⟨hx, hb, hml, hown, hts⟩ hG hA hw (c_X6_text G l a ha R S r_2 r_4 h_3) (cwV 1 hts gX6_textKnown_X6_text rfl rfl rfl (by decide +kernel) ⟨Nat.le_of_ble_eq_true rfl, Nat.le_of_ble_eq_true rfl⟩) (va_recv hG.1 hw.1 (ci := 6) (q0 := 2) rfl rfl) rfl hl.1 rfl (Nat.le_of_ble_eq_true rfl) dX6_textKnown_7 ⟨Nat.zero_le _, Nat.zero_le _⟩ (fun H locs hw => ?_)
  obtain ⟨ht_5, hf⟩ := gk_of hf
  have e_6 := Option.some.inj hf
  subst e_6
  exact wd_aret hx hb hr (by first | exact Or.inl ⟨_, rfl⟩ | exact Or.inr ⟨_, rfl⟩) hlocks hw dX6_textKnown_10
