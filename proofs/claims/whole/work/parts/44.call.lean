abbrev cl1 (q : Nat) (fs : List Value) : va_W := [(q, .inr (0, fs))]
abbrev e22 (G : GP) (a : Nat → Nat) (S : St) (q : Nat) : Nat × va_E := (a 22, .inl (G.2.1 4, 150, .inr (.inr (.inr (.inr (va_up (fun i => if i < nC S then some (a (50 + i)) else none) (gI S 12).toNatClampNeg (some q)))))))
abbrev e6 (a : Nat → Nat) (S : St) : Nat × va_E := (a 6, .inr (1, [.ref (a 3), .ref (a 2), .ref (a 4), .ref (a 22), .int (gI S 12 + 1), .ref (a 23), .ref (a 24)]))
def addC (S : St) (f : Nat → Int32) : St := (va_up S.1 12 (S.1 12 + 1), S.2.1, S.2.2.1, S.2.2.2.1 + 1, va_up S.2.2.2.2 S.2.2.2.1 f)
def newF (p1 p3 p4 p5 p6 p7 : Int32) : Nat → Int32 := fun k => ([p1, p3, p4, p5, p6, p7, 0, -1, 0, 0, -1, 0, 0, 0, 0] : List Int32).getD k 0
def gq {β : Type} (x y : Int32) (f : Option β) : Option β := if x = y then f else none
theorem gq_of {β : Type} {x y : Int32} {f : Option β} {t : β} (h : gq x y f = some t) : x = y ∧ f = some t := by
  unfold gq at h
  split at h
  · rename_i q
    exact ⟨q, h⟩
  · cases h
def f_call9 (S : St) (p1 p3 p4 p5 p6 p7 : Int32) : Option (Int32 × St) :=
  gn (nC S) 150 (gq (gI S 12) (nI (nC S)) ((f_X1_askNext (addC S (newF p1 p3 p4 p5 p6 p7)) (gI S 12 + 1 - 1)).bind fun (_, S') => some (gI S 12 + 1 - 1, S')))
theorem wd_iretE {p : Program} {l : Launch} {e : Env} {R : Room} {s : State} {m : MethodId} {args : Array Value} {below : List Frame} {meth : Method} {c : Code} {H : Heap} {locs : List Loc} {cells slots : Nat} {cc : ByteArray} {pc : Nat} {ls : Array Slot} {G : GP} {A : Nat → Prop} {Po : va_W → Prop} {W1 : va_W} {v : Int32} (hx : p.tables.exec = Jvm.exec) (hb : c.code = cc) (hr : meth.sig.returnType = some .int) (hlocks : meth.locks = false) (hp : Po W1) (hw : Wd G A s H locs W1) (hdg : decode cc pc = .ok (.ireturn, 1)) : W p l e R s m args below meth c H locs cells slots (MQ below (QE G A Po (some (.int v))) args s cells slots A) (F0 m pc ls [.int v]) :=
  W.iret hx hb hr (fun t ht hW => ⟨⟨W1, hp, rfl, by rw [ht]; exact hw.1, hw.2.1⟩, hw.2.2.F ht⟩) hw.2.2.2.2 hdg hlocks
def rm_X1_add : Room := { frames := 0, cells := 0, slots := 0, locals := 0 }
set_option maxHeartbeats 4000000 in
set_option maxRecDepth 100000 in
theorem c_X1_add (G : GP) (l : Launch) (a : Nat → Nat) (R : va_W) (S : St) (q : Nat) (fs : List Value) (hin9 : vp_in (gI S 12) 150) : MC G l yX1_add wsX1_add rm_X1_add [.ref (a 6), .ref q] (xw G.2.1 a R S ++ cl1 q fs) (((xw G.2.1 a R S ++ cl1 q fs).set 22 (e22 G a S q)).set 6 (e6 a S)) (some (.int (gI S 12 + 1 - 1))) 0 0 := by
  refine MC.mk (cc := cX1_add) (maxL := 2) (ret := (some .int)) (by decide) rfl (Nat.le_of_ble_eq_true rfl) ?_
  intro p e s m below meth c A ls ⟨hx, hb, hr, hml, hown, hlocks, _, hts⟩ hw hG hA hl
  have hl : lv_has ls 2 [(0, .ref (a 6)), (1, .ref q)] := hl
  have hin1 : ∀ w ∈ u_ws RX1 TX1 7, w ∈ wsX1_add := by decide +kernel
  refine lv_aload_n hx hb dX1_add_0 rfl (lv_at hl 0 rfl) ?_
  refine va_get (D := G.1) (ci := 1) (v := .ref (a 22)) (C := RX1) (T := TX1) (N := 7) hx hb hts hin1 hown hG.1 hw.1 6 rfl rfl 3 (by decide) (hts (.fieldLink RX1 11 "DutyDesk$Calls" "list" "[LDutyDesk$Call;") (List.mem_of_getElem? (i := 1) rfl)) (fun _ h9 => h9) rfl dX1_add_1 ?_
  refine lv_aload_n hx hb dX1_add_4 rfl (lv_at hl 0 rfl) ?_
  refine va_get (D := G.1) (ci := 1) (v := .int (gI S 12)) (C := RX1) (T := TX1) (N := 7) hx hb hts hin1 hown hG.1 hw.1 6 rfl rfl 4 (by decide) (hts (.fieldLink RX1 36 "DutyDesk$Calls" "size" "I") (List.mem_of_getElem? (i := 2) rfl)) (fun _ h9 => h9) rfl dX1_add_5 ?_
  refine lv_aload_n hx hb dX1_add_8 rfl (lv_at hl 1 rfl) ?_
  refine va_astq (r := (RX0, TX0, 15)) hx hb hG.1 hw.1 hw.2.1 hw.2.2 22 4 (xw G.2.1 a R S).length 0 rfl rfl (List.getElem?_concat_length) rfl hin9 dX1_add_9 (fun H locs hP hD hS => ?_)
  have hw : Wd G A s H locs ((xw G.2.1 a R S ++ cl1 q fs).set 22 (e22 G a S q)) := ⟨hP, hD, hS⟩
  refine lv_aload_n hx hb dX1_add_10 rfl (lv_at hl 0 rfl) ?_
  refine lv_dup hx hb dX1_add_11 rfl ?_
  refine va_get (D := G.1) (ci := 1) (v := .int (gI S 12)) (C := RX1) (T := TX1) (N := 7) hx hb hts hin1 hown hG.1 hw.1 6 rfl rfl 4 (by decide) (hts (.fieldLink RX1 36 "DutyDesk$Calls" "size" "I") (List.mem_of_getElem? (i := 2) rfl)) (fun _ h9 => h9) rfl dX1_add_12 ?_
  refine lv_iconst (v := 1) hx hb dX1_add_15 (by decide) ?_
  refine lv_iadd hx hb dX1_add_16 ?_
  refine va_put (D := G.1) (ci := 1) (v := .int (gI S 12 + 1)) (ty := .int) (C := RX1) (T := TX1) (N := 7) hx hb hts hin1 tyX1 tyX1_ok nmX1 hown hG.1 hw.1 hw.2.1 hw.2.2 6 rfl rfl 4 (by decide) (hts (.fieldLink RX1 36 "DutyDesk$Calls" "size" "I") (List.mem_of_getElem? (i := 2) rfl)) (fun _ h9 => h9) rfl (by decide +kernel) rfl rfl (Nat.le_of_ble_eq_true rfl) dX1_add_17 (fun H locs hP hD hS => ?_)
  have hw : Wd G A s H locs (((xw G.2.1 a R S ++ cl1 q fs).set 22 (e22 G a S q)).set 6 (e6 a S)) := ⟨hP, hD, hS⟩
  refine lv_aload_n hx hb dX1_add_20 rfl (lv_at hl 0 rfl) ?_
  refine va_get (D := G.1) (ci := 1) (v := .int (gI S 12 + 1)) (C := RX1) (T := TX1) (N := 7) hx hb hts hin1 hown hG.1 hw.1 6 rfl rfl 4 (by decide) (hts (.fieldLink RX1 36 "DutyDesk$Calls" "size" "I") (List.mem_of_getElem? (i := 2) rfl)) (fun _ h9 => h9) rfl dX1_add_21 ?_
  refine lv_iconst (v := 1) hx hb dX1_add_24 (by decide) ?_
  refine lv_isub hx hb dX1_add_25 ?_
  exact wd_iret hx hb hr hlocks hw dX1_add_26
theorem xf_grow {G : GP} {a : Nat → Nat} {S : St} {q : Nat} {f : Nat → Int32} (hn : gI S 12 = nI (nC S)) (hlt : nC S < 150) : xf G.2.1 (va_up a (50 + nC S) q) (addC S f) = ((xf G.2.1 a S).set 22 (e22 G a S q)).set 6 (e6 a S) := by
  have ha : ∀ k, k < 50 → va_up a (50 + nC S) q k = a k := fun k hk => if_neg (by omega)
  have hi : ∀ j, j ≠ 12 → gI (addC S f) j = gI S j := fun j hj => if_neg hj
  have hi12 : gI (addC S f) 12 = gI S 12 + 1 := by
    show va_up S.1 12 (S.1 12 + 1) 12 = _
    exact if_pos rfl
  have ht : (fun e => if e < 20 then some (va_up a (50 + nC S) q (25 + e)) else none) = (fun e => if e < 20 then some (a (25 + e)) else none) := by
    funext e
    by_cases h : e < 20
    · rw [if_pos h, if_pos h, ha (25 + e) (by omega)]
    · rw [if_neg h, if_neg h]
  have hcl : (gI S 12).toNatClampNeg = nC S := by rw [hn]; exact nI_clamp (by omega)
  have hL : (fun i => if i < nC (addC S f) then some (va_up a (50 + nC S) q (50 + i)) else none) = va_up (fun i => if i < nC S then some (a (50 + i)) else none) (gI S 12).toNatClampNeg (some q) := by
    funext i
    rw [hcl]
    show (if i < nC S + 1 then some (va_up a (50 + nC S) q (50 + i)) else none) = if i = nC S then some q else (if i < nC S then some (a (50 + i)) else none)
    by_cases h : i = nC S
    · subst h
      rw [if_pos (Nat.lt_succ_self _), if_pos rfl]
      exact congrArg some (if_pos rfl)
    · by_cases h2 : i < nC S
      · rw [if_pos (by omega), if_neg h, if_pos h2]
        exact congrArg some (if_neg (by omega))
      · rw [if_neg (by omega), if_neg h, if_neg h2]
  unfold xf
  rw [ht, hL]
  simp only [ha 0 (by omega), ha 1 (by omega), ha 2 (by omega), ha 3 (by omega), ha 4 (by omega), ha 5 (by omega), ha 6 (by omega), ha 7 (by omega), ha 8 (by omega), ha 9 (by omega), ha 10 (by omega), ha 11 (by omega), ha 12 (by omega), ha 13 (by omega), ha 14 (by omega), ha 15 (by omega), ha 16 (by omega), ha 17 (by omega), ha 18 (by omega), ha 19 (by omega), ha 20 (by omega), ha 21 (by omega), ha 22 (by omega), ha 23 (by omega), ha 24 (by omega), hi 0 (by decide), hi 1 (by decide), hi 2 (by decide), hi 3 (by decide), hi 4 (by decide), hi 5 (by decide), hi 6 (by decide), hi 7 (by decide), hi 8 (by decide), hi 9 (by decide), hi 10 (by decide), hi 11 (by decide), hi12]
  rfl
theorem wd_grow {G : GP} {A : Nat → Prop} {s : State} {H : Heap} {locs : List Loc} {a : Nat → Nat} {R : va_W} {S : St} {q : Nat} {f : Nat → Int32} (hn : gI S 12 = nI (nC S)) (hlt : nC S < 150) (hw : Wd G A s H locs (((xw G.2.1 a R S ++ cl1 q [.int (f 0), .int (f 1), .int (f 2), .int (f 3), .int (f 4), .int (f 5), .int (f 6), .int (f 7), .int (f 8), .int (f 9), .int (f 10), .int (f 11), .int (f 12), .int (f 13), .int (f 14)]).set 22 (e22 G a S q)).set 6 (e6 a S))) : Wd G A s H locs (xw G.2.1 (va_up a (50 + nC S) q) R (addC S f)) := by
  have ha : ∀ k, k < 50 + nC S → va_up a (50 + nC S) q k = a k := fun k hk => if_neg (by omega)
  have ht : xt G.2.1 (va_up a (50 + nC S) q) (addC S f) = xt G.2.1 a S := by
    refine List.map_congr_left (fun e he => ?_)
    have := List.mem_range.mp he
    rw [ha (25 + e) (by omega)]
    rfl
  have hc : xc (va_up a (50 + nC S) q) (addC S f) = xc a S ++ cl1 q [.int (f 0), .int (f 1), .int (f 2), .int (f 3), .int (f 4), .int (f 5), .int (f 6), .int (f 7), .int (f 8), .int (f 9), .int (f 10), .int (f 11), .int (f 12), .int (f 13), .int (f 14)] := by
    show (List.range (nC S + 1)).map _ = _
    rw [List.range_succ, List.map_append]
    congr 1
    · refine List.map_congr_left (fun i hi => ?_)
      have := List.mem_range.mp hi
      rw [ha (50 + i) (by omega)]
      have hg : ∀ k, gC (addC S f) i k = gC S i k := fun k => congrFun (if_neg (by omega : ¬ i = nC S)) k
      unfold cf
      simp only [hg]
    · have h1 : va_up a (50 + nC S) q (50 + nC S) = q := if_pos rfl
      have hg : ∀ k, gC (addC S f) (nC S) k = f k := fun k => congrFun (if_pos rfl) k
      show [(va_up a (50 + nC S) q (50 + nC S), Sum.inr (0, cf (addC S f) (nC S)))] = _
      rw [h1]
      unfold cf
      simp only [hg]
  obtain ⟨hP, hD, hS⟩ := hw
  have e1 : ((xw G.2.1 a R S ++ cl1 q [.int (f 0), .int (f 1), .int (f 2), .int (f 3), .int (f 4), .int (f 5), .int (f 6), .int (f 7), .int (f 8), .int (f 9), .int (f 10), .int (f 11), .int (f 12), .int (f 13), .int (f 14)]).set 22 (e22 G a S q)).set 6 (e6 a S) = (((((xf G.2.1 a S).set 22 (e22 G a S q)).set 6 (e6 a S)) ++ (xt G.2.1 a S ++ xc a S)) ++ R) ++ cl1 q [.int (f 0), .int (f 1), .int (f 2), .int (f 3), .int (f 4), .int (f 5), .int (f 6), .int (f 7), .int (f 8), .int (f 9), .int (f 10), .int (f 11), .int (f 12), .int (f 13), .int (f 14)] := by
    unfold xw
    simp only [List.append_assoc]
    rw [List.set_append_left _ _ (show 22 < (xf G.2.1 a S).length from Nat.le_of_ble_eq_true rfl), List.set_append_left _ _ (show 6 < ((xf G.2.1 a S).set 22 _).length by rw [List.length_set]; exact Nat.le_of_ble_eq_true rfl)]
  rw [e1] at hP hD
  refine wd_eq ?_ (va_P.swap hP) (va_D.swap hD) hS
  unfold xw
  rw [ht, hc, xf_grow hn hlt]
  simp only [List.append_assoc]
/-! DutyDesk.call(IIIIIII)I -/
def rm_X7_call : Room := { frames := 7, cells := 1, slots := 15, locals := 166 }
def f_X7_call_J72 (y_1 : Int32) (y_2 : Int32) (y_3 : Int32) (y_4 : Int32) (y_5 : Int32) (y_6 : Int32) (S_7 : St) : Option (Int32 × St) :=
  (f_X7_isBelow y_5 100).bind (fun r_9 => (if r_9 = 0 then
    some (((-2), S_7))
  else
    (f_X7_isBelow y_6 10).bind (fun r_13 => (if r_13 = 0 then
    some (((-2), S_7))
  else
    (if (gI S_7 12) < 150 then
    f_call9 S_7 y_1 y_2 y_3 y_4 y_5 y_6
  else
    some (((-3), S_7)))))))
def f_X7_call (S : St) (p1 : Int32) (p2 : Int32) (p3 : Int32) (p4 : Int32) (p5 : Int32) (p6 : Int32) (p7 : Int32) : Option (Int32 × St) :=
  (f_X7_isBelow p1 1000).bind (fun r_19 => (if r_19 = 0 then
    some (((-2), S))
  else
    (f_X7_isBelow p2 1440).bind (fun r_23 => (if r_23 = 0 then
    some (((-2), S))
  else
    (f_X1_latestDay S).bind (fun r_27 => (if r_27 ≤ p1 then
    (f_X7_isBelow p3 6).bind (fun r_30 => (if r_30 = 0 then
    some (((-2), S))
  else
    (f_X7_isBelow p4 10).bind (fun r_34 => (if r_34 = 0 then
    some (((-2), S))
  else
    (if p5 = (-1) then
    f_X7_call_J72 p1 p3 p4 p5 p6 p7 S
  else
    (f_X7_isBelow p5 8).bind (fun r_39 => (if r_39 = 0 then
    some (((-2), S))
  else
    f_X7_call_J72 p1 p3 p4 p5 p6 p7 S)))))))
  else
    some (((-2), S))))))))
set_option maxHeartbeats 4000000 in
set_option maxRecDepth 100000 in
theorem c_X7_call (G : GP) (l : Launch) (a : Nat → Nat) (ha : a 45 = G.2.2.1) (R : va_W) (S : St) (p1 : Int32) (p2 : Int32) (p3 : Int32) (p4 : Int32) (p5 : Int32) (p6 : Int32) (p7 : Int32) (r0 : Int32) (S9 : St) (hf : f_X7_call S p1 p2 p3 p4 p5 p6 p7 = some (r0, S9)) : ME G l yX7_call wsX7_call rm_X7_call [.ref (a 0), .int p1, .int p2, .int p3, .int p4, .int p5, .int p6, .int p7] (xw G.2.1 a R S) (fun W1 => ∃ a2 : Nat → Nat, (∀ k, k < 50 → a2 k = a k) ∧ W1 = xw G.2.1 a2 R S9) (some (.int r0)) 1 15 := by
  refine ME.mk (cc := cX7_call) (maxL := 9) (ret := (some .int)) (by decide) rfl (Nat.le_of_ble_eq_true rfl) ?_
  intro p e s m below meth c A ls ⟨hx, hb, hr, hml, hown, hlocks, _, hts⟩ hw hG hO hA hl
  have hl : lv_has ls 9 [(0, .ref (a 0)), (1, .int p1), (2, .int p2), (3, .int p3), (4, .int p4), (5, .int p5), (6, .int p6), (7, .int p7)] := hl
  have hin0 : ∀ w ∈ u_ws RX0 TX0 15, w ∈ wsX7_call := by decide +kernel
  have hin1 : ∀ w ∈ u_ws RX1 TX1 7, w ∈ wsX7_call := by decide +kernel
  have hin7 : ∀ w ∈ u_ws RX7 TX7 6, w ∈ wsX7_call := by decide +kernel
  rw [f_X7_call] at hf
  have j72 : ∀ (y_1 : Int32) (y_2 : Int32) (y_3 : Int32) (y_4 : Int32) (y_5 : Int32) (y_6 : Int32) (S_7 : St) (H : Heap) (locs : List Loc) (ls : Array Slot), f_X7_call_J72 y_1 y_2 y_3 y_4 y_5 y_6 S_7 = some (r0, S9) → Wd G A s H locs (xw G.2.1 a R S_7) → lv_has ls 9 [(0, .ref (a 0)), (1, .int y_1), (3, .int y_2), (4, .int y_3), (5, .int y_4), (6, .int y_5), (7, .int y_6)] → W p l e rm_X7_call s m ([.ref (a 0), .int p1, .int p2, .int p3, .int p4, .int p5, .int p6, .int p7] : List Value).toArray below meth c H locs 0 0 (MQ below (QE G A (fun W1 => ∃ a2 : Nat → Nat, (∀ k, k < 50 → a2 k = a k) ∧ W1 = xw G.2.1 a2 R S9) (some (.int r0))) ([.ref (a 0), .int p1, .int p2, .int p3, .int p4, .int p5, .int p6, .int p7] : List Value).toArray s 1 15 A) (F0 m 72 ls []) := by
    intro y_1 y_2 y_3 y_4 y_5 y_6 S_7 H locs ls hf hw hl
    rw [f_X7_call_J72] at hf
    refine lv_iload hx hb dX7_call_72 (lv_at hl 5 rfl) ?_
    refine lv_bipush (v := 100) hx hb dX7_call_74 (by decide) ?_
    obtain ⟨r_9, h_8, hf⟩ := bind_of hf
    refine cS (As := [.int y_5, .int 100]) (rest := []) ⟨hx, hb, hml, hown, hts⟩ hG hA hw (c_X7_isBelow G l _ y_5 100 r_9 h_8) (va_cwS 2 hts gX7_call_X7_isBelow rfl rfl rfl (by decide +kernel) ⟨Nat.le_of_ble_eq_true rfl, Nat.le_of_ble_eq_true rfl⟩) rfl hl.1 rfl (Nat.le_of_ble_eq_true rfl) dX7_call_76 ⟨Nat.zero_le _, Nat.zero_le _⟩ (fun H locs hw => ?_)
    refine lv_if_eq (tgt := 92) hx hb dX7_call_79 (by decide) (fun c_10 => ?_) (fun c_10 => ?_)
    · replace hf := if_t c_10 hf
      refine lv_bipush (v := (-2)) hx hb dX7_call_92 (by decide) ?_
      have e_11 := Option.some.inj hf
      obtain ⟨rfl, rfl⟩ := Prod.mk.inj e_11
      refine W.widen (k := 1) (n := 15) (by decide) (by decide) ?_
      exact wd_iretE hx hb hr hlocks ⟨a, fun _ _ => rfl, rfl⟩ hw dX7_call_94
    · replace hf := if_f c_10 hf
      refine lv_iload hx hb dX7_call_82 (lv_at hl 6 rfl) ?_
      refine lv_bipush (v := 10) hx hb dX7_call_84 (by decide) ?_
      obtain ⟨r_13, h_12, hf⟩ := bind_of hf
      refine cS (As := [.int y_6, .int 10]) (rest := []) ⟨hx, hb, hml, hown, hts⟩ hG hA hw (c_X7_isBelow G l _ y_6 10 r_13 h_12) (va_cwS 2 hts gX7_call_X7_isBelow rfl rfl rfl (by decide +kernel) ⟨Nat.le_of_ble_eq_true rfl, Nat.le_of_ble_eq_true rfl⟩) rfl hl.1 rfl (Nat.le_of_ble_eq_true rfl) dX7_call_86 ⟨Nat.zero_le _, Nat.zero_le _⟩ (fun H locs hw => ?_)
      refine lv_if_ne (tgt := 95) hx hb dX7_call_89 (by decide) (fun c_14 => ?_) (fun c_14 => ?_)
      · replace hf := if_f c_14 hf
        refine lv_aload_n hx hb dX7_call_95 rfl (lv_at hl 0 rfl) ?_
        refine va_get (D := G.1) (ci := 7) (v := .ref (a 6)) (C := RX7) (T := TX7) (N := 6) hx hb hts hin7 hown hG.1 hw.1 0 rfl rfl 5 (by decide) (hts (.fieldLink RX7 53 "DutyDesk" "calls" "LDutyDesk$Calls;") (List.mem_of_getElem? (i := 1) rfl)) (fun _ h9 => h9) rfl dX7_call_96 ?_
        refine va_getN (D := G.1) (ci := 1) (v := .int (gI S_7 12)) (C := RX1) (T := TX1) (N := 7) (host := "DutyDesk") hx hb hts hin1 hown hG.1 hw.1 6 rfl rfl 4 (by decide) (va_Nw.use rfl (hG.2.1 (.fieldLinkNest "DutyDesk" 169 "DutyDesk$Calls" "size" "I" "DutyDesk") (List.mem_of_getElem? (i := 18) rfl))) (fun _ h9 => h9) rfl dX7_call_99 ?_
        refine lv_sipush (v := 150) hx hb dX7_call_102 (by decide) ?_
        refine lv_icmp_lt (tgt := 111) hx hb dX7_call_105 (by decide) (fun c_15 => ?_) (fun c_15 => ?_)
        · replace hf := if_t c_15 hf
          rw [f_call9] at hf
          obtain ⟨hc1, hf⟩ := gn_of hf
          obtain ⟨hc2, hf⟩ := gq_of hf
          obtain ⟨⟨r1, S1⟩, hc3, hf⟩ := bind_of hf
          refine lv_aload_n hx hb dX7_call_111 rfl (lv_at hl 0 rfl) ?_
          refine va_get (D := G.1) (ci := 7) (v := .ref (a 6)) (C := RX7) (T := TX7) (N := 6) hx hb hts hin7 hown hG.1 hw.1 0 rfl rfl 5 (by decide) (hts (.fieldLink RX7 53 "DutyDesk" "calls" "LDutyDesk$Calls;") (List.mem_of_getElem? (i := 1) rfl)) (fun _ h9 => h9) rfl dX7_call_112 ?_
          refine va_new (D := G.1) (ci := 0) (fs := [.int 0, .int 0, .int 0, .int 0, .int 0, .int 0, .int 0, .int 0, .int 0, .int 0, .int 0, .int 0, .int 0, .int 0, .int 0]) (C := RX0) (T := TX0) (N := 15) hx hb hts hin0 tyX0 tyX0_ok hown (hts (.classLink RX7 170 RX0) (List.mem_of_getElem? (i := 2) rfl)) (hts (.instantiable RX0 15) (List.mem_of_getElem? (i := 3) rfl)) (hts (.initialized RX0) (List.mem_of_getElem? (i := 4) rfl)) hG.1 hw.1 hw.2.1 hw.2.2 hA rfl (fun j hj => by rcases (show j = 0 ∨ j = 1 ∨ j = 2 ∨ j = 3 ∨ j = 4 ∨ j = 5 ∨ j = 6 ∨ j = 7 ∨ j = 8 ∨ j = 9 ∨ j = 10 ∨ j = 11 ∨ j = 12 ∨ j = 13 ∨ j = 14 by omega) with rfl | rfl | rfl | rfl | rfl | rfl | rfl | rfl | rfl | rfl | rfl | rfl | rfl | rfl | rfl <;> rfl) (by decide) (by decide) dX7_call_115 (fun q H hP hD hS => ?_)
          have hw := And.intro hP (And.intro hD hS)
          change Wd G A s H _ (xw G.2.1 a R S_7 ++ cl1 q [.int 0, .int 0, .int 0, .int 0, .int 0, .int 0, .int 0, .int 0, .int 0, .int 0, .int 0, .int 0, .int 0, .int 0, .int 0]) at hw
          refine lv_dup hx hb dX7_call_118 rfl ?_
          refine lv_iload_n hx hb dX7_call_119 rfl (lv_at hl 1 rfl) ?_
          refine lv_iload_n hx hb dX7_call_120 rfl (lv_at hl 2 rfl) ?_
          refine lv_iload hx hb dX7_call_121 (lv_at hl 3 rfl) ?_
          refine lv_iload hx hb dX7_call_123 (lv_at hl 4 rfl) ?_
          refine lv_iload hx hb dX7_call_125 (lv_at hl 5 rfl) ?_
          refine lv_iload hx hb dX7_call_127 (lv_at hl 6 rfl) ?_
          refine cIN (As := [.int y_1, .int y_2, .int y_3, .int y_4, .int y_5, .int y_6]) (rest := [.ref q, .ref (a 6)]) ⟨hx, hb, hml, hown, hts⟩ hG hA hw (c_X0_init G l (xw G.2.1 a R S_7) q y_1 y_2 y_3 y_4 y_5 y_6) ⟨va_cnB 6 hts gX7_call_X0_init_n172 rfl rfl rfl (hG.2.1 (.methodLinkNest "DutyDesk" 172 yX0_init "DutyDesk") (List.mem_of_getElem? (i := 82) rfl)) (hts (.initialized RX0) (List.mem_of_getElem? (i := 4) rfl)) (by decide +kernel) ⟨Nat.le_of_ble_eq_true rfl, Nat.le_of_ble_eq_true rfl⟩, rfl, (hts (.instanceMethod yX0_init) (List.mem_of_getElem? (i := 15) rfl))⟩ rfl hl.1 rfl (Nat.le_of_ble_eq_true rfl) dX7_call_129 ⟨by decide, by decide⟩ (fun H locs hw => ?_)
          replace hw : Wd G A s H locs (xw G.2.1 a R S_7 ++ cl1 q [.int (newF y_1 y_2 y_3 y_4 y_5 y_6 0), .int (newF y_1 y_2 y_3 y_4 y_5 y_6 1), .int (newF y_1 y_2 y_3 y_4 y_5 y_6 2), .int (newF y_1 y_2 y_3 y_4 y_5 y_6 3), .int (newF y_1 y_2 y_3 y_4 y_5 y_6 4), .int (newF y_1 y_2 y_3 y_4 y_5 y_6 5), .int (newF y_1 y_2 y_3 y_4 y_5 y_6 6), .int (newF y_1 y_2 y_3 y_4 y_5 y_6 7), .int (newF y_1 y_2 y_3 y_4 y_5 y_6 8), .int (newF y_1 y_2 y_3 y_4 y_5 y_6 9), .int (newF y_1 y_2 y_3 y_4 y_5 y_6 10), .int (newF y_1 y_2 y_3 y_4 y_5 y_6 11), .int (newF y_1 y_2 y_3 y_4 y_5 y_6 12), .int (newF y_1 y_2 y_3 y_4 y_5 y_6 13), .int (newF y_1 y_2 y_3 y_4 y_5 y_6 14)]) := hw
          have hin9 : vp_in (gI S_7 12) 150 := by rw [hc2]; exact vp_in_nI hc1 (by decide)
          refine cVN (As := [.ref q]) (rest := []) ⟨hx, hb, hml, hown, hts⟩ hG hA hw (c_X1_add G l a R S_7 q [.int (newF y_1 y_2 y_3 y_4 y_5 y_6 0), .int (newF y_1 y_2 y_3 y_4 y_5 y_6 1), .int (newF y_1 y_2 y_3 y_4 y_5 y_6 2), .int (newF y_1 y_2 y_3 y_4 y_5 y_6 3), .int (newF y_1 y_2 y_3 y_4 y_5 y_6 4), .int (newF y_1 y_2 y_3 y_4 y_5 y_6 5), .int (newF y_1 y_2 y_3 y_4 y_5 y_6 6), .int (newF y_1 y_2 y_3 y_4 y_5 y_6 7), .int (newF y_1 y_2 y_3 y_4 y_5 y_6 8), .int (newF y_1 y_2 y_3 y_4 y_5 y_6 9), .int (newF y_1 y_2 y_3 y_4 y_5 y_6 10), .int (newF y_1 y_2 y_3 y_4 y_5 y_6 11), .int (newF y_1 y_2 y_3 y_4 y_5 y_6 12), .int (newF y_1 y_2 y_3 y_4 y_5 y_6 13), .int (newF y_1 y_2 y_3 y_4 y_5 y_6 14)] hin9) ⟨va_cnB 1 hts gX7_call_X1_add_n175 rfl rfl rfl (hG.2.1 (.methodLinkNest "DutyDesk" 175 yX1_add "DutyDesk") (List.mem_of_getElem? (i := 83) rfl)) (hts (.initialized RX1) (List.mem_of_getElem? (i := 10) rfl)) (by decide +kernel) ⟨Nat.le_of_ble_eq_true rfl, Nat.le_of_ble_eq_true rfl⟩, (hts (.instanceMethod yX1_add) (List.mem_of_getElem? (i := 29) rfl)), (hts (.selects RX1 yX1_add yX1_add) (List.mem_of_getElem? (i := 30) rfl))⟩ (va_recv hG.1 hw.1 (ci := 1) (q0 := 6) rfl rfl) rfl hl.1 rfl (Nat.le_of_ble_eq_true rfl) dX7_call_132 ⟨by decide, by decide⟩ (fun H locs hw => ?_)
          replace hw := wd_grow hc2 hc1 hw
          obtain ⟨a2, ea2⟩ : ∃ z, z = va_up a (50 + nC S_7) q := ⟨_, rfl⟩
          have hk2 : ∀ k, k < 50 → a2 k = a k := fun k hk => by rw [ea2]; exact if_neg (by omega)
          rw [← ea2] at hw
          have ha2 : a2 45 = G.2.2.1 := (hk2 45 (by decide)).trans ha
          refine lv_topi (fun x8 e8 => ?_)
          rw [← e8] at hc3 hf
          have hl : lv_has ls 9 [(0, .ref (a2 0)), (1, .int y_1), (3, .int y_2), (4, .int y_3), (5, .int y_4), (6, .int y_5), (7, .int y_6)] := by rw [hk2 0 (by decide)]; exact hl
          refine lv_istore (lv' := [(8, .int x8), (0, .ref (a2 0)), (1, .int y_1), (3, .int y_2), (4, .int y_3), (5, .int y_4), (6, .int y_5), (7, .int y_6)]) hx hb dX7_call_135 hl (by decide) rfl (fun ls hl => ?_)
          refine lv_aload_n hx hb dX7_call_137 rfl (lv_at hl 1 rfl) ?_
          refine va_get (D := G.1) (ci := 7) (v := .ref (a2 6)) (C := RX7) (T := TX7) (N := 6) hx hb hts hin7 hown hG.1 hw.1 0 rfl rfl 5 (by decide) (hts (.fieldLink RX7 53 "DutyDesk" "calls" "LDutyDesk$Calls;") (List.mem_of_getElem? (i := 1) rfl)) (fun _ h9 => h9) rfl dX7_call_138 ?_
          refine lv_iload hx hb dX7_call_141 (lv_at hl 0 rfl) ?_
          refine cVN (As := [.int x8]) (rest := []) ⟨hx, hb, hml, hown, hts⟩ hG hA hw (c_X1_askNext G l a2 ha2 R _ x8 r1 S1 hc3) ⟨va_cnB 1 hts gX7_call_X1_askNext_n178 rfl rfl rfl (hG.2.1 (.methodLinkNest "DutyDesk" 178 yX1_askNext "DutyDesk") (List.mem_of_getElem? (i := 84) rfl)) (hts (.initialized RX1) (List.mem_of_getElem? (i := 10) rfl)) (by decide +kernel) ⟨Nat.le_of_ble_eq_true rfl, Nat.le_of_ble_eq_true rfl⟩, (hts (.instanceMethod yX1_askNext) (List.mem_of_getElem? (i := 32) rfl)), (hts (.selects RX1 yX1_askNext yX1_askNext) (List.mem_of_getElem? (i := 33) rfl))⟩ (va_recv hG.1 hw.1 (ci := 1) (q0 := 6) rfl rfl) rfl hl.1 rfl (Nat.le_of_ble_eq_true rfl) dX7_call_143 ⟨by decide, by decide⟩ (fun H locs hw => ?_)
          refine lv_pop hx hb dX7_call_146 rfl ?_
          refine lv_iload hx hb dX7_call_147 (lv_at hl 0 rfl) ?_
          have e9 := Option.some.inj hf
          obtain ⟨rfl, rfl⟩ := Prod.mk.inj e9
          refine W.widen (k := 1) (n := 15) (by decide) (by decide) ?_
          exact wd_iretE hx hb hr hlocks ⟨a2, hk2, rfl⟩ hw dX7_call_149
        · replace hf := if_f c_15 hf
          refine lv_bipush (v := (-3)) hx hb dX7_call_108 (by decide) ?_
          have e_16 := Option.some.inj hf
          obtain ⟨rfl, rfl⟩ := Prod.mk.inj e_16
          refine W.widen (k := 1) (n := 15) (by decide) (by decide) ?_
          exact wd_iretE hx hb hr hlocks ⟨a, fun _ _ => rfl, rfl⟩ hw dX7_call_110
      · replace hf := if_t c_14 hf
        refine lv_bipush (v := (-2)) hx hb dX7_call_92 (by decide) ?_
        have e_17 := Option.some.inj hf
        obtain ⟨rfl, rfl⟩ := Prod.mk.inj e_17
        refine W.widen (k := 1) (n := 15) (by decide) (by decide) ?_
        exact wd_iretE hx hb hr hlocks ⟨a, fun _ _ => rfl, rfl⟩ hw dX7_call_94
  refine lv_iload_n hx hb dX7_call_0 rfl (lv_at hl 1 rfl) ?_
  refine lv_sipush (v := 1000) hx hb dX7_call_1 (by decide) ?_
  obtain ⟨r_19, h_18, hf⟩ := bind_of hf
  refine cS (As := [.int p1, .int 1000]) (rest := []) ⟨hx, hb, hml, hown, hts⟩ hG hA hw (c_X7_isBelow G l _ p1 1000 r_19 h_18) (va_cwS 2 hts gX7_call_X7_isBelow rfl rfl rfl (by decide +kernel) ⟨Nat.le_of_ble_eq_true rfl, Nat.le_of_ble_eq_true rfl⟩) rfl hl.1 rfl (Nat.le_of_ble_eq_true rfl) dX7_call_4 ⟨Nat.zero_le _, Nat.zero_le _⟩ (fun H locs hw => ?_)
  refine lv_if_eq (tgt := 31) hx hb dX7_call_7 (by decide) (fun c_20 => ?_) (fun c_20 => ?_)
  · replace hf := if_t c_20 hf
    refine lv_bipush (v := (-2)) hx hb dX7_call_31 (by decide) ?_
    have e_21 := Option.some.inj hf
    obtain ⟨rfl, rfl⟩ := Prod.mk.inj e_21
    refine W.widen (k := 1) (n := 15) (by decide) (by decide) ?_
    exact wd_iretE hx hb hr hlocks ⟨a, fun _ _ => rfl, rfl⟩ hw dX7_call_33
  · replace hf := if_f c_20 hf
    refine lv_iload_n hx hb dX7_call_10 rfl (lv_at hl 2 rfl) ?_
    refine lv_sipush (v := 1440) hx hb dX7_call_11 (by decide) ?_
    obtain ⟨r_23, h_22, hf⟩ := bind_of hf
    refine cS (As := [.int p2, .int 1440]) (rest := []) ⟨hx, hb, hml, hown, hts⟩ hG hA hw (c_X7_isBelow G l _ p2 1440 r_23 h_22) (va_cwS 2 hts gX7_call_X7_isBelow rfl rfl rfl (by decide +kernel) ⟨Nat.le_of_ble_eq_true rfl, Nat.le_of_ble_eq_true rfl⟩) rfl hl.1 rfl (Nat.le_of_ble_eq_true rfl) dX7_call_14 ⟨Nat.zero_le _, Nat.zero_le _⟩ (fun H locs hw => ?_)
    refine lv_if_eq (tgt := 31) hx hb dX7_call_17 (by decide) (fun c_24 => ?_) (fun c_24 => ?_)
    · replace hf := if_t c_24 hf
      refine lv_bipush (v := (-2)) hx hb dX7_call_31 (by decide) ?_
      have e_25 := Option.some.inj hf
      obtain ⟨rfl, rfl⟩ := Prod.mk.inj e_25
      refine W.widen (k := 1) (n := 15) (by decide) (by decide) ?_
      exact wd_iretE hx hb hr hlocks ⟨a, fun _ _ => rfl, rfl⟩ hw dX7_call_33
    · replace hf := if_f c_24 hf
      refine lv_iload_n hx hb dX7_call_20 rfl (lv_at hl 1 rfl) ?_
      refine lv_aload_n hx hb dX7_call_21 rfl (lv_at hl 0 rfl) ?_
      refine va_get (D := G.1) (ci := 7) (v := .ref (a 6)) (C := RX7) (T := TX7) (N := 6) hx hb hts hin7 hown hG.1 hw.1 0 rfl rfl 5 (by decide) (hts (.fieldLink RX7 53 "DutyDesk" "calls" "LDutyDesk$Calls;") (List.mem_of_getElem? (i := 1) rfl)) (fun _ h9 => h9) rfl dX7_call_22 ?_
      obtain ⟨r_27, h_26, hf⟩ := bind_of hf
      refine cVN (As := []) (rest := [.int p1]) ⟨hx, hb, hml, hown, hts⟩ hG hA hw (c_X1_latestDay G l a ha R S r_27 h_26) ⟨va_cnB 0 hts gX7_call_X1_latestDay_n165 rfl rfl rfl (hG.2.1 (.methodLinkNest "DutyDesk" 165 yX1_latestDay "DutyDesk") (List.mem_of_getElem? (i := 81) rfl)) (hts (.initialized RX1) (List.mem_of_getElem? (i := 10) rfl)) (by decide +kernel) ⟨Nat.le_of_ble_eq_true rfl, Nat.le_of_ble_eq_true rfl⟩, hts (.instanceMethod yX1_latestDay) (List.mem_of_getElem? (i := 9) rfl), hts (.selects RX1 yX1_latestDay yX1_latestDay) (List.mem_of_getElem? (i := 11) rfl)⟩ (va_recv hG.1 hw.1 (ci := 1) (q0 := 6) rfl rfl) rfl hl.1 rfl (Nat.le_of_ble_eq_true rfl) dX7_call_25 ⟨Nat.zero_le _, Nat.zero_le _⟩ (fun H locs hw => ?_)
      refine lv_icmp_ge (tgt := 34) hx hb dX7_call_28 (by decide) (fun c_28 => ?_) (fun c_28 => ?_)
      · replace hf := if_t c_28 hf
        refine lv_iload_n hx hb dX7_call_34 rfl (lv_at hl 3 rfl) ?_
        refine lv_bipush (v := 6) hx hb dX7_call_35 (by decide) ?_
        obtain ⟨r_30, h_29, hf⟩ := bind_of hf
        refine cS (As := [.int p3, .int 6]) (rest := []) ⟨hx, hb, hml, hown, hts⟩ hG hA hw (c_X7_isBelow G l _ p3 6 r_30 h_29) (va_cwS 2 hts gX7_call_X7_isBelow rfl rfl rfl (by decide +kernel) ⟨Nat.le_of_ble_eq_true rfl, Nat.le_of_ble_eq_true rfl⟩) rfl hl.1 rfl (Nat.le_of_ble_eq_true rfl) dX7_call_37 ⟨Nat.zero_le _, Nat.zero_le _⟩ (fun H locs hw => ?_)
        refine lv_if_eq (tgt := 69) hx hb dX7_call_40 (by decide) (fun c_31 => ?_) (fun c_31 => ?_)
        · replace hf := if_t c_31 hf
          refine lv_bipush (v := (-2)) hx hb dX7_call_69 (by decide) ?_
          have e_32 := Option.some.inj hf
          obtain ⟨rfl, rfl⟩ := Prod.mk.inj e_32
          refine W.widen (k := 1) (n := 15) (by decide) (by decide) ?_
          exact wd_iretE hx hb hr hlocks ⟨a, fun _ _ => rfl, rfl⟩ hw dX7_call_71
        · replace hf := if_f c_31 hf
          refine lv_iload hx hb dX7_call_43 (lv_at hl 4 rfl) ?_
          refine lv_bipush (v := 10) hx hb dX7_call_45 (by decide) ?_
          obtain ⟨r_34, h_33, hf⟩ := bind_of hf
          refine cS (As := [.int p4, .int 10]) (rest := []) ⟨hx, hb, hml, hown, hts⟩ hG hA hw (c_X7_isBelow G l _ p4 10 r_34 h_33) (va_cwS 2 hts gX7_call_X7_isBelow rfl rfl rfl (by decide +kernel) ⟨Nat.le_of_ble_eq_true rfl, Nat.le_of_ble_eq_true rfl⟩) rfl hl.1 rfl (Nat.le_of_ble_eq_true rfl) dX7_call_47 ⟨Nat.zero_le _, Nat.zero_le _⟩ (fun H locs hw => ?_)
          refine lv_if_eq (tgt := 69) hx hb dX7_call_50 (by decide) (fun c_35 => ?_) (fun c_35 => ?_)
          · replace hf := if_t c_35 hf
            refine lv_bipush (v := (-2)) hx hb dX7_call_69 (by decide) ?_
            have e_36 := Option.some.inj hf
            obtain ⟨rfl, rfl⟩ := Prod.mk.inj e_36
            refine W.widen (k := 1) (n := 15) (by decide) (by decide) ?_
            exact wd_iretE hx hb hr hlocks ⟨a, fun _ _ => rfl, rfl⟩ hw dX7_call_71
          · replace hf := if_f c_35 hf
            refine lv_iload hx hb dX7_call_53 (lv_at hl 5 rfl) ?_
            refine lv_iconst (v := (-1)) hx hb dX7_call_55 (by decide) ?_
            refine lv_icmp_eq (tgt := 72) hx hb dX7_call_56 (by decide) (fun c_37 => ?_) (fun c_37 => ?_)
            · replace hf := if_t c_37 hf
              exact j72 p1 p3 p4 p5 p6 p7 S _ _ _ hf hw (lv_sub hl [0, 1, 3, 4, 5, 6, 7] rfl)
            · replace hf := if_f c_37 hf
              refine lv_iload hx hb dX7_call_59 (lv_at hl 5 rfl) ?_
              refine lv_bipush (v := 8) hx hb dX7_call_61 (by decide) ?_
              obtain ⟨r_39, h_38, hf⟩ := bind_of hf
              refine cS (As := [.int p5, .int 8]) (rest := []) ⟨hx, hb, hml, hown, hts⟩ hG hA hw (c_X7_isBelow G l _ p5 8 r_39 h_38) (va_cwS 2 hts gX7_call_X7_isBelow rfl rfl rfl (by decide +kernel) ⟨Nat.le_of_ble_eq_true rfl, Nat.le_of_ble_eq_true rfl⟩) rfl hl.1 rfl (Nat.le_of_ble_eq_true rfl) dX7_call_63 ⟨Nat.zero_le _, Nat.zero_le _⟩ (fun H locs hw => ?_)
              refine lv_if_ne (tgt := 72) hx hb dX7_call_66 (by decide) (fun c_40 => ?_) (fun c_40 => ?_)
              · replace hf := if_f c_40 hf
                exact j72 p1 p3 p4 p5 p6 p7 S _ _ _ hf hw (lv_sub hl [0, 1, 3, 4, 5, 6, 7] rfl)
              · replace hf := if_t c_40 hf
                refine lv_bipush (v := (-2)) hx hb dX7_call_69 (by decide) ?_
                have e_41 := Option.some.inj hf
                obtain ⟨rfl, rfl⟩ := Prod.mk.inj e_41
                refine W.widen (k := 1) (n := 15) (by decide) (by decide) ?_
                exact wd_iretE hx hb hr hlocks ⟨a, fun _ _ => rfl, rfl⟩ hw dX7_call_71
      · replace hf := if_f c_28 hf
        refine lv_bipush (v := (-2)) hx hb dX7_call_31 (by decide) ?_
        have e_42 := Option.some.inj hf
        obtain ⟨rfl, rfl⟩ := Prod.mk.inj e_42
        refine W.widen (k := 1) (n := 15) (by decide) (by decide) ?_
        exact wd_iretE hx hb hr hlocks ⟨a, fun _ _ => rfl, rfl⟩ hw dX7_call_33
