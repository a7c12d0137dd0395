/-! ===== contracts of the JDK's members ===== -/
theorem set_same {α : Type} {L : List α} {q : Nat} {x : α} (h : L[q]? = some x) : L.set q x = L := by
  apply List.ext_getElem?
  intro j
  by_cases hj : j = q
  · subst hj
    rw [List.getElem?_set_self (List.getElem?_eq_some_iff.mp h).1, h]
  · rw [List.getElem?_set_ne (Ne.symm hj)]
theorem fill0_0 {α : Type} (f : Nat → α) (v : α) : fill0 f 0 v = f := by
  funext j
  simp [fill0]
theorem fill0_s {α : Type} (f : Nat → α) (i : Nat) (v : α) : (fun j => if j = i then v else fill0 f i v j) = fill0 f (i + 1) v := by
  funext j
  unfold fill0
  by_cases h : j = i
  · subst h
    simp
  · by_cases h2 : j < i
    · rw [if_neg h, if_pos h2, if_pos (by omega)]
    · rw [if_neg h, if_neg h2, if_neg (by omega)]
def rm_fillI : Room := { frames := 0, cells := 0, slots := 0, locals := 0 }
set_option maxHeartbeats 4000000 in
set_option maxRecDepth 100000 in
theorem c_fillI (G : GP) (l : Launch) (W0 : va_W) (q n b : Nat) (f : Nat → Int32) (v : Int32) (ha : W0[q]? = some (b, .inl (G.2.1 1, n, .inl f))) (hn : n < 2 ^ 31) : MC G l yJ7_fill_53178 wsJ7_fill_53178 rm_fillI [.ref b, .int v] W0 (W0.set q (b, .inl (G.2.1 1, n, .inl (fill0 f n v)))) none 0 0 := by
  refine MC.mk (cc := cJ7_fill_53178) (maxL := 4) (ret := none) (by decide) rfl (Nat.le_of_ble_eq_true rfl) ?_
  intro p e s m below meth c A ls ⟨hx, hb, hr, hml, hown, hlocks, _, hts⟩ hw hG hA hl
  have hl : lv_has ls 4 [(0, .ref b), (1, .int v)] := hl
  have hq : q < W0.length := (List.getElem?_eq_some_iff.mp ha).1
  have hw : Wd G A s s.heap [] (W0.set q (b, .inl (G.2.1 1, n, .inl (fill0 f 0 v)))) := by rw [fill0_0, set_same ha]; exact hw
  refine lv_iconst (v := 0) hx hb dJ7_fill_53178_0 (by decide) ?_
  refine lv_istore_n (lv' := [(2, .int 0), (0, .ref b), (1, .int v)]) hx hb dJ7_fill_53178_1 rfl hl (by decide) rfl (fun ls hl => ?_)
  refine lv_aload_n hx hb dJ7_fill_53178_2 rfl (lv_at hl 1 rfl) ?_
  refine va_alen (v := nI n) hx hb hG.1 hw.1 q 1 (List.getElem?_set_self hq) rfl rfl dJ7_fill_53178_3 ?_
  refine lv_istore_n (lv' := [(3, .int (nI n)), (2, .int 0), (0, .ref b), (1, .int v)]) hx hb dJ7_fill_53178_4 rfl hl (by decide) rfl (fun ls hl => ?_)
  have loop : ∀ (k i : Nat), i + k = n → ∀ (x : Int32), x = nI i → ∀ (H : Heap) (locs : List Loc) (ls : Array Slot), Wd G A s H locs (W0.set q (b, .inl (G.2.1 1, n, .inl (fill0 f i v)))) → lv_has ls 4 [(0, .ref b), (1, .int v), (2, .int x), (3, .int (nI n))] → WQ p l e rm_fillI s m [.ref b, .int v] below meth c G A (W0.set q (b, .inl (G.2.1 1, n, .inl (fill0 f n v)))) none 0 0 H locs 0 0 (F0 m 5 ls []) := by
    intro k
    induction k with
    | zero =>
      intro i hi x ex H locs ls hw hl
      obtain rfl : i = n := by omega
      refine lv_iload_n hx hb dJ7_fill_53178_5 rfl (lv_at hl 2 rfl) ?_
      refine lv_iload_n hx hb dJ7_fill_53178_6 rfl (lv_at hl 3 rfl) ?_
      refine lv_icmp_ge (tgt := 20) hx hb dJ7_fill_53178_7 (by decide) (fun _ => ?_) (fun c0 => absurd (by rw [ex]; exact nI_le (Nat.le_refl i) hn) c0)
      exact wd_vret hx hb hr hlocks hw dJ7_fill_53178_20
    | succ k ih =>
      intro i hi x ex H locs ls hw hl
      refine lv_iload_n hx hb dJ7_fill_53178_5 rfl (lv_at hl 2 rfl) ?_
      refine lv_iload_n hx hb dJ7_fill_53178_6 rfl (lv_at hl 3 rfl) ?_
      refine lv_icmp_ge (tgt := 20) hx hb dJ7_fill_53178_7 (by decide) (fun c0 => absurd c0 (by rw [ex]; exact nI_ge (by omega) hn)) (fun _ => ?_)
      refine lv_aload_n hx hb dJ7_fill_53178_10 rfl (lv_at hl 0 rfl) ?_
      refine lv_iload_n hx hb dJ7_fill_53178_11 rfl (lv_at hl 2 rfl) ?_
      refine lv_iload_n hx hb dJ7_fill_53178_12 rfl (lv_at hl 1 rfl) ?_
      have hin : vp_in x n := by rw [ex]; exact vp_in_nI (by omega) hn
      refine va_iast hx hb hG.1 hw.1 hw.2.1 hw.2.2 q 1 (List.getElem?_set_self hq) rfl hin dJ7_fill_53178_13 (fun H locs hP hD hS => ?_)
      have hw : Wd G A s H locs (W0.set q (b, .inl (G.2.1 1, n, .inl (fill0 f (i + 1) v)))) := wd_eq (by rw [List.set_set, ← fill0_s, ex, nI_clamp (by omega)]; rfl) hP hD hS
      refine lv_iinc (v := nI (i + 1)) (lv' := [(2, .int (nI (i + 1))), (0, .ref b), (1, .int v), (3, .int (nI n))]) hx hb dJ7_fill_53178_14 hl (k := 2) rfl (by rw [ex]; exact nI_1 i) (by decide) rfl (fun ls hl => ?_)
      refine lv_goto (tgt := 5) hx hb dJ7_fill_53178_17 (by decide) ?_
      exact ih (i + 1) (by omega) _ rfl H locs ls hw (lv_sub hl [1, 2, 0, 3] rfl)
  exact loop n 0 (by omega) 0 nI_0.symm _ _ ls hw (lv_sub hl [2, 3, 1, 0] rfl)
def rm_fillJ : Room := { frames := 0, cells := 0, slots := 0, locals := 0 }
set_option maxHeartbeats 4000000 in
set_option maxRecDepth 100000 in
theorem c_fillJ (G : GP) (l : Launch) (W0 : va_W) (q n b : Nat) (f : Nat → Int64) (v : Int64) (ha : W0[q]? = some (b, .inl (G.2.1 2, n, .inr (.inl f)))) (hn : n < 2 ^ 31) : MC G l yJ7_fill_d0a16 wsJ7_fill_d0a16 rm_fillJ [.ref b, .long v] W0 (W0.set q (b, .inl (G.2.1 2, n, .inr (.inl (fill0 f n v))))) none 0 0 := by
  refine MC.mk (cc := cJ7_fill_d0a16) (maxL := 5) (ret := none) (by decide) rfl (Nat.le_of_ble_eq_true rfl) ?_
  intro p e s m below meth c A ls ⟨hx, hb, hr, hml, hown, hlocks, _, hts⟩ hw hG hA hl
  have hl : lv_has ls 5 [(0, .ref b), (1, .long v)] := hl
  have hq : q < W0.length := (List.getElem?_eq_some_iff.mp ha).1
  have hw : Wd G A s s.heap [] (W0.set q (b, .inl (G.2.1 2, n, .inr (.inl (fill0 f 0 v))))) := by rw [fill0_0, set_same ha]; exact hw
  refine lv_iconst (v := 0) hx hb dJ7_fill_d0a16_0 (by decide) ?_
  refine lv_istore_n (lv' := [(3, .int 0), (0, .ref b), (1, .long v)]) hx hb dJ7_fill_d0a16_1 rfl hl (by decide) rfl (fun ls hl => ?_)
  refine lv_aload_n hx hb dJ7_fill_d0a16_2 rfl (lv_at hl 1 rfl) ?_
  refine va_alen (v := nI n) hx hb hG.1 hw.1 q 2 (List.getElem?_set_self hq) rfl rfl dJ7_fill_d0a16_3 ?_
  refine lv_istore (lv' := [(4, .int (nI n)), (3, .int 0), (0, .ref b), (1, .long v)]) hx hb dJ7_fill_d0a16_4 hl (by decide) rfl (fun ls hl => ?_)
  have loop : ∀ (k i : Nat), i + k = n → ∀ (x : Int32), x = nI i → ∀ (H : Heap) (locs : List Loc) (ls : Array Slot), Wd G A s H locs (W0.set q (b, .inl (G.2.1 2, n, .inr (.inl (fill0 f i v))))) → lv_has ls 5 [(0, .ref b), (1, .long v), (3, .int x), (4, .int (nI n))] → WQ p l e rm_fillJ s m [.ref b, .long v] below meth c G A (W0.set q (b, .inl (G.2.1 2, n, .inr (.inl (fill0 f n v))))) none 0 0 H locs 0 0 (F0 m 6 ls []) := by
    intro k
    induction k with
    | zero =>
      intro i hi x ex H locs ls hw hl
      obtain rfl : i = n := by omega
      refine lv_iload_n hx hb dJ7_fill_d0a16_6 rfl (lv_at hl 2 rfl) ?_
      refine lv_iload hx hb dJ7_fill_d0a16_7 (lv_at hl 3 rfl) ?_
      refine lv_icmp_ge (tgt := 22) hx hb dJ7_fill_d0a16_9 (by decide) (fun _ => ?_) (fun c0 => absurd (by rw [ex]; exact nI_le (Nat.le_refl i) hn) c0)
      exact wd_vret hx hb hr hlocks hw dJ7_fill_d0a16_22
    | succ k ih =>
      intro i hi x ex H locs ls hw hl
      refine lv_iload_n hx hb dJ7_fill_d0a16_6 rfl (lv_at hl 2 rfl) ?_
      refine lv_iload hx hb dJ7_fill_d0a16_7 (lv_at hl 3 rfl) ?_
      refine lv_icmp_ge (tgt := 22) hx hb dJ7_fill_d0a16_9 (by decide) (fun c0 => absurd c0 (by rw [ex]; exact nI_ge (by omega) hn)) (fun _ => ?_)
      refine lv_aload_n hx hb dJ7_fill_d0a16_12 rfl (lv_at hl 0 rfl) ?_
      refine lv_iload_n hx hb dJ7_fill_d0a16_13 rfl (lv_at hl 2 rfl) ?_
      refine lv_lload_n hx hb dJ7_fill_d0a16_14 rfl (lv_at hl 1 rfl) ?_
      have hin : vp_in x n := by rw [ex]; exact vp_in_nI (by omega) hn
      refine va_last hx hb hG.1 hw.1 hw.2.1 hw.2.2 q 2 (List.getElem?_set_self hq) rfl hin dJ7_fill_d0a16_15 (fun H locs hP hD hS => ?_)
      have hw : Wd G A s H locs (W0.set q (b, .inl (G.2.1 2, n, .inr (.inl (fill0 f (i + 1) v))))) := wd_eq (by rw [List.set_set, ← fill0_s, ex, nI_clamp (by omega)]; rfl) hP hD hS
      refine lv_iinc (v := nI (i + 1)) (lv' := [(3, .int (nI (i + 1))), (0, .ref b), (1, .long v), (4, .int (nI n))]) hx hb dJ7_fill_d0a16_16 hl (k := 2) rfl (by rw [ex]; exact nI_1 i) (by decide) rfl (fun ls hl => ?_)
      refine lv_goto (tgt := 6) hx hb dJ7_fill_d0a16_19 (by decide) ?_
      exact ih (i + 1) (by omega) _ rfl H locs ls hw (lv_sub hl [1, 2, 0, 3] rfl)
  exact loop n 0 (by omega) 0 nI_0.symm _ _ ls hw (lv_sub hl [2, 3, 1, 0] rfl)
def rm_bitCount : Room := { frames := 0, cells := 0, slots := 0, locals := 0 }
def f_bitCount (x0 : Int32) : Int32 :=
  let x1 := (x0 - ((x0.toUInt32 >>> ((1 : Int32).toUInt32 &&& Int32.toUInt32 31)).toInt32 &&& 1431655765))
  let x2 := ((x1 &&& 858993459) + ((x1.toUInt32 >>> ((2 : Int32).toUInt32 &&& Int32.toUInt32 31)).toInt32 &&& 858993459))
  let x3 := ((x2 + (x2.toUInt32 >>> ((4 : Int32).toUInt32 &&& Int32.toUInt32 31)).toInt32) &&& 252645135)
  let x4 := (x3 + (x3.toUInt32 >>> ((8 : Int32).toUInt32 &&& Int32.toUInt32 31)).toInt32)
  let x5 := (x4 + (x4.toUInt32 >>> ((16 : Int32).toUInt32 &&& Int32.toUInt32 31)).toInt32)
  (x5 &&& 63)
set_option maxHeartbeats 4000000 in
set_option maxRecDepth 100000 in
theorem c_bitCount (G : GP) (l : Launch) (W0 : va_W) (x0 : Int32) : MC G l yJ6_bitCount_0f7a4 wsJ6_bitCount_0f7a4 rm_bitCount [.int x0] W0 W0 (some (.int (f_bitCount x0))) 0 0 := by
  refine MC.mk (cc := cJ6_bitCount_0f7a4) (maxL := 1) (ret := (some .int)) (by decide) rfl (Nat.le_of_ble_eq_true rfl) ?_
  intro p e s m below meth c A ls ⟨hx, hb, hr, hml, hown, hlocks, _, hts⟩ hw hG hA hl
  have hl : lv_has ls 1 [(0, .int x0)] := hl
  refine lv_iload_n hx hb dJ6_bitCount_0f7a4_0 rfl (lv_at hl 0 rfl) ?_
  refine lv_iload_n hx hb dJ6_bitCount_0f7a4_1 rfl (lv_at hl 0 rfl) ?_
  refine lv_iconst (v := 1) hx hb dJ6_bitCount_0f7a4_2 (by decide) ?_
  refine lv_iushr (v := (x0.toUInt32 >>> ((1 : Int32).toUInt32 &&& Int32.toUInt32 31)).toInt32) hx hb dJ6_bitCount_0f7a4_3 rfl ?_
  refine lv_ldcw (v := 1431655765) hx hb hown (hts (.constant RJ6 265 (1431655765)) (List.mem_of_getElem? (i := 1) rfl)) dJ6_bitCount_0f7a4_4 ?_
  refine lv_iand hx hb dJ6_bitCount_0f7a4_7 ?_
  refine lv_isub hx hb dJ6_bitCount_0f7a4_8 ?_
  refine lv_topi (fun x1 ex1 => ?_)
  refine lv_istore_n (lv' := [(0, .int x1)]) hx hb dJ6_bitCount_0f7a4_9 rfl hl (by decide) rfl (fun ls hl => ?_)
  refine lv_iload_n hx hb dJ6_bitCount_0f7a4_10 rfl (lv_at hl 0 rfl) ?_
  refine lv_ldcw (v := 858993459) hx hb hown (hts (.constant RJ6 266 (858993459)) (List.mem_of_getElem? (i := 2) rfl)) dJ6_bitCount_0f7a4_11 ?_
  refine lv_iand hx hb dJ6_bitCount_0f7a4_14 ?_
  refine lv_iload_n hx hb dJ6_bitCount_0f7a4_15 rfl (lv_at hl 0 rfl) ?_
  refine lv_iconst (v := 2) hx hb dJ6_bitCount_0f7a4_16 (by decide) ?_
  refine lv_iushr (v := (x1.toUInt32 >>> ((2 : Int32).toUInt32 &&& Int32.toUInt32 31)).toInt32) hx hb dJ6_bitCount_0f7a4_17 rfl ?_
  refine lv_ldcw (v := 858993459) hx hb hown (hts (.constant RJ6 266 (858993459)) (List.mem_of_getElem? (i := 2) rfl)) dJ6_bitCount_0f7a4_18 ?_
  refine lv_iand hx hb dJ6_bitCount_0f7a4_21 ?_
  refine lv_iadd hx hb dJ6_bitCount_0f7a4_22 ?_
  refine lv_topi (fun x2 ex2 => ?_)
  refine lv_istore_n (lv' := [(0, .int x2)]) hx hb dJ6_bitCount_0f7a4_23 rfl hl (by decide) rfl (fun ls hl => ?_)
  refine lv_iload_n hx hb dJ6_bitCount_0f7a4_24 rfl (lv_at hl 0 rfl) ?_
  refine lv_iload_n hx hb dJ6_bitCount_0f7a4_25 rfl (lv_at hl 0 rfl) ?_
  refine lv_iconst (v := 4) hx hb dJ6_bitCount_0f7a4_26 (by decide) ?_
  refine lv_iushr (v := (x2.toUInt32 >>> ((4 : Int32).toUInt32 &&& Int32.toUInt32 31)).toInt32) hx hb dJ6_bitCount_0f7a4_27 rfl ?_
  refine lv_iadd hx hb dJ6_bitCount_0f7a4_28 ?_
  refine lv_ldcw (v := 252645135) hx hb hown (hts (.constant RJ6 267 (252645135)) (List.mem_of_getElem? (i := 3) rfl)) dJ6_bitCount_0f7a4_29 ?_
  refine lv_iand hx hb dJ6_bitCount_0f7a4_32 ?_
  refine lv_topi (fun x3 ex3 => ?_)
  refine lv_istore_n (lv' := [(0, .int x3)]) hx hb dJ6_bitCount_0f7a4_33 rfl hl (by decide) rfl (fun ls hl => ?_)
  refine lv_iload_n hx hb dJ6_bitCount_0f7a4_34 rfl (lv_at hl 0 rfl) ?_
  refine lv_iload_n hx hb dJ6_bitCount_0f7a4_35 rfl (lv_at hl 0 rfl) ?_
  refine lv_bipush (v := 8) hx hb dJ6_bitCount_0f7a4_36 (by decide) ?_
  refine lv_iushr (v := (x3.toUInt32 >>> ((8 : Int32).toUInt32 &&& Int32.toUInt32 31)).toInt32) hx hb dJ6_bitCount_0f7a4_38 rfl ?_
  refine lv_iadd hx hb dJ6_bitCount_0f7a4_39 ?_
  refine lv_topi (fun x4 ex4 => ?_)
  refine lv_istore_n (lv' := [(0, .int x4)]) hx hb dJ6_bitCount_0f7a4_40 rfl hl (by decide) rfl (fun ls hl => ?_)
  refine lv_iload_n hx hb dJ6_bitCount_0f7a4_41 rfl (lv_at hl 0 rfl) ?_
  refine lv_iload_n hx hb dJ6_bitCount_0f7a4_42 rfl (lv_at hl 0 rfl) ?_
  refine lv_bipush (v := 16) hx hb dJ6_bitCount_0f7a4_43 (by decide) ?_
  refine lv_iushr (v := (x4.toUInt32 >>> ((16 : Int32).toUInt32 &&& Int32.toUInt32 31)).toInt32) hx hb dJ6_bitCount_0f7a4_45 rfl ?_
  refine lv_iadd hx hb dJ6_bitCount_0f7a4_46 ?_
  refine lv_topi (fun x5 ex5 => ?_)
  refine lv_istore_n (lv' := [(0, .int x5)]) hx hb dJ6_bitCount_0f7a4_47 rfl hl (by decide) rfl (fun ls hl => ?_)
  refine lv_iload_n hx hb dJ6_bitCount_0f7a4_48 rfl (lv_at hl 0 rfl) ?_
  refine lv_bipush (v := 63) hx hb dJ6_bitCount_0f7a4_49 (by decide) ?_
  refine lv_iand hx hb dJ6_bitCount_0f7a4_51 ?_
  have eq0 : f_bitCount x0 = (x5 &&& 63) := by rw [ex5, ex4, ex3, ex2, ex1]; rfl
  rw [eq0]
  exact wd_iret hx hb hr hlocks hw dJ6_bitCount_0f7a4_52
def rm_coder : Room := { frames := 0, cells := 0, slots := 0, locals := 0 }
def rm_strlen : Room := { frames := 1, cells := 0, slots := 0, locals := 20 }
def rm_chk3 : Room := { frames := 0, cells := 0, slots := 0, locals := 0 }
def rm_chk0 : Room := { frames := 1, cells := 0, slots := 0, locals := 22 }
def rm_lat : Room := { frames := 2, cells := 0, slots := 0, locals := 43 }
def rm_strchar : Room := { frames := 3, cells := 0, slots := 0, locals := 64 }
set_option maxHeartbeats 4000000 in
set_option maxRecDepth 100000 in
theorem c_coder (G : GP) (l : Launch) (W0 : va_W) (i : Nat) (hi : i < 18) : MC G l yJ0_coder_7d493 wsJ0_coder_7d493 rm_coder [.ref (G.2.2.2.1 i)] W0 W0 (some (.int 0)) 0 0 := by
  refine MC.mk (cc := cJ0_coder_7d493) (maxL := 1) (ret := (some .byte)) (by decide) rfl (Nat.le_of_ble_eq_true rfl) ?_
  intro p e s m below meth c A ls ⟨hx, hb, hr, hml, hown, hlocks, _, hts⟩ hw hG hA hl
  have hl : lv_has ls 1 [(0, .ref (G.2.2.2.1 i))] := hl
  refine va_gets hx hb hG.2.2.2.2.1 hw.2.2 hown (hts (.fieldLink RJ0 38 "java/lang/String" "COMPACT_STRINGS" "Z") (List.mem_of_getElem? (i := 1) rfl)) (fun _ h9 => h9) dJ0_coder_7d493_0 ?_
  refine lv_if_eq (tgt := 13) hx hb dJ0_coder_7d493_3 (by decide) (fun c0 => absurd c0 (by decide)) (fun _ => ?_)
  refine lv_aload_n hx hb dJ0_coder_7d493_6 rfl (lv_at hl 0 rfl) ?_
  refine vk_getf hx hb (hG.2.2.2.2.2.2.1.1 i hi).2.1 hw.2.2 hown (hts (.fieldLink RJ0 15 "java/lang/String" "coder" "B") (List.mem_of_getElem? (i := 2) rfl)) (fun _ h9 => h9) dJ0_coder_7d493_7 ?_
  refine lv_goto (tgt := 14) hx hb dJ0_coder_7d493_10 (by decide) ?_
  exact wd_zret hx hb hr rfl hlocks hw dJ0_coder_7d493_14
set_option maxHeartbeats 4000000 in
set_option maxRecDepth 100000 in
theorem c_isLatin1 (G : GP) (l : Launch) (W0 : va_W) (i : Nat) (hi : i < 18) : MC G l yJ0_isLatin1_aae02 wsJ0_isLatin1_aae02 rm_coder [.ref (G.2.2.2.1 i)] W0 W0 (some (.int 1)) 0 0 := by
  refine MC.mk (cc := cJ0_isLatin1_aae02) (maxL := 1) (ret := (some .boolean)) (by decide) rfl (Nat.le_of_ble_eq_true rfl) ?_
  intro p e s m below meth c A ls ⟨hx, hb, hr, hml, hown, hlocks, _, hts⟩ hw hG hA hl
  have hl : lv_has ls 1 [(0, .ref (G.2.2.2.1 i))] := hl
  refine va_gets hx hb hG.2.2.2.2.1 hw.2.2 hown (hts (.fieldLink RJ0 38 "java/lang/String" "COMPACT_STRINGS" "Z") (List.mem_of_getElem? (i := 1) rfl)) (fun _ h9 => h9) dJ0_isLatin1_aae02_0 ?_
  refine lv_if_eq (tgt := 17) hx hb dJ0_isLatin1_aae02_3 (by decide) (fun c0 => absurd c0 (by decide)) (fun _ => ?_)
  refine lv_aload_n hx hb dJ0_isLatin1_aae02_6 rfl (lv_at hl 0 rfl) ?_
  refine vk_getf hx hb (hG.2.2.2.2.2.2.1.1 i hi).2.1 hw.2.2 hown (hts (.fieldLink RJ0 15 "java/lang/String" "coder" "B") (List.mem_of_getElem? (i := 2) rfl)) (fun _ h9 => h9) dJ0_isLatin1_aae02_7 ?_
  refine lv_if_ne (tgt := 17) hx hb dJ0_isLatin1_aae02_10 (by decide) (fun c0 => absurd rfl c0) (fun _ => ?_)
  refine lv_iconst (v := 1) hx hb dJ0_isLatin1_aae02_13 (by decide) ?_
  refine lv_goto (tgt := 18) hx hb dJ0_isLatin1_aae02_14 (by decide) ?_
  exact wd_zret hx hb hr rfl hlocks hw dJ0_isLatin1_aae02_18
theorem sc_small : ∀ i, i < 18 → scL.getD i 0 < 2 ^ 31 := by decide +kernel
theorem sc_and : ∀ i, i < 18 → ∀ k, k < scL.getD i 0 → ((scB.getD i []).getD k 0) &&& 255 = (scB.getD i []).getD k 0 := by decide +kernel
theorem in_lt {i : Int32} {n : Nat} (h : vp_in i n) (hn : n < 2 ^ 31) : ¬ i < 0 ∧ i < nI n := by
  obtain ⟨j, hj, rfl⟩ := vp_in_of h hn
  exact ⟨nI_pos (by omega), nI_lt hj hn⟩
set_option maxHeartbeats 4000000 in
set_option maxRecDepth 100000 in
theorem c_strlen (G : GP) (l : Launch) (W0 : va_W) (i : Nat) (hi : i < 18) : MC G l yJ0_length_8abf5 wsJ0_length_8abf5 rm_strlen [.ref (G.2.2.2.1 i)] W0 W0 (some (.int (nI (scL.getD i 0)))) 0 0 := by
  refine MC.mk (cc := cJ0_length_8abf5) (maxL := 1) (ret := (some .int)) (by decide) rfl (Nat.le_of_ble_eq_true rfl) ?_
  intro p e s m below meth c A ls ⟨hx, hb, hr, hml, hown, hlocks, _, hts⟩ hw hG hA hl
  have hl : lv_has ls 1 [(0, .ref (G.2.2.2.1 i))] := hl
  refine lv_aload_n hx hb dJ0_length_8abf5_0 rfl (lv_at hl 0 rfl) ?_
  refine vk_getf hx hb (hG.2.2.2.2.2.2.1.1 i hi).2.2.1 hw.2.2 hown (hts (.fieldLink RJ0 9 "java/lang/String" "value" "[B") (List.mem_of_getElem? (i := 1) rfl)) (fun _ h9 => h9) dJ0_length_8abf5_1 ?_
  refine va_tlen (v := nI (scL.getD i 0)) hx hb (hG.2.2.2.2.2.2.1.1 i hi).2.2.2 hw.2.2 rfl dJ0_length_8abf5_4 ?_
  refine lv_aload_n hx hb dJ0_length_8abf5_5 rfl (lv_at hl 0 rfl) ?_
  refine cV (As := []) (rest := [.int (nI (scL.getD i 0))]) ⟨hx, hb, hml, hown, hts⟩ hG hA hw (c_coder G l _ i hi) (cwV 0 hts gJ0_length_8abf5_J0_coder_7d493 rfl rfl rfl (by decide +kernel) ⟨Nat.le_of_ble_eq_true rfl, Nat.le_of_ble_eq_true rfl⟩) (vk_recv hG.2.2.2.2.2.2.1 hi hw.2.2) rfl hl.1 rfl (Nat.le_of_ble_eq_true rfl) dJ0_length_8abf5_6 ⟨Nat.zero_le _, Nat.zero_le _⟩ (fun H locs hw => ?_)
  refine lv_ishr hx hb dJ0_length_8abf5_9 ?_
  rw [sc_shr0 (sc_small i hi)]
  exact wd_iret hx hb hr hlocks hw dJ0_length_8abf5_10
set_option maxHeartbeats 4000000 in
set_option maxRecDepth 100000 in
theorem c_chk3 (G : GP) (l : Launch) (W0 : va_W) (i n : Int32) (v : Value) (hv : v = .null ∨ ∃ t, v = .ref t) (h0 : ¬ i < 0) (h1 : i < n) : MC G l yJ3_checkIndex_8e157 wsJ3_checkIndex_8e157 rm_chk3 [.int i, .int n, v] W0 W0 (some (.int i)) 0 0 := by
  rcases hv with rfl | ⟨t, rfl⟩
  · refine MC.mk (cc := cJ3_checkIndex_8e157) (maxL := 3) (ret := (some .int)) (by decide) rfl (Nat.le_of_ble_eq_true rfl) ?_
    intro p e s m below meth c A ls ⟨hx, hb, hr, hml, hown, hlocks, _, hts⟩ hw hG hA hl
    have hl : lv_has ls 3 [(0, .int i), (1, .int n), (2, .null)] := hl
    refine lv_iload_n hx hb dJ3_checkIndex_8e157_0 rfl (lv_at hl 0 rfl) ?_
    refine lv_if_lt (tgt := 9) hx hb dJ3_checkIndex_8e157_1 (by decide) (fun c0 => absurd c0 h0) (fun _ => ?_)
    refine lv_iload_n hx hb dJ3_checkIndex_8e157_4 rfl (lv_at hl 0 rfl) ?_
    refine lv_iload_n hx hb dJ3_checkIndex_8e157_5 rfl (lv_at hl 1 rfl) ?_
    refine lv_icmp_lt (tgt := 16) hx hb dJ3_checkIndex_8e157_6 (by decide) (fun _ => ?_) (fun c0 => absurd h1 c0)
    refine lv_iload_n hx hb dJ3_checkIndex_8e157_16 rfl (lv_at hl 0 rfl) ?_
    exact wd_iret hx hb hr hlocks hw dJ3_checkIndex_8e157_17
  · refine MC.mk (cc := cJ3_checkIndex_8e157) (maxL := 3) (ret := (some .int)) (by decide) rfl (Nat.le_of_ble_eq_true rfl) ?_
    intro p e s m below meth c A ls ⟨hx, hb, hr, hml, hown, hlocks, _, hts⟩ hw hG hA hl
    have hl : lv_has ls 3 [(0, .int i), (1, .int n), (2, .ref t)] := hl
    refine lv_iload_n hx hb dJ3_checkIndex_8e157_0 rfl (lv_at hl 0 rfl) ?_
    refine lv_if_lt (tgt := 9) hx hb dJ3_checkIndex_8e157_1 (by decide) (fun c0 => absurd c0 h0) (fun _ => ?_)
    refine lv_iload_n hx hb dJ3_checkIndex_8e157_4 rfl (lv_at hl 0 rfl) ?_
    refine lv_iload_n hx hb dJ3_checkIndex_8e157_5 rfl (lv_at hl 1 rfl) ?_
    refine lv_icmp_lt (tgt := 16) hx hb dJ3_checkIndex_8e157_6 (by decide) (fun _ => ?_) (fun c0 => absurd h1 c0)
    refine lv_iload_n hx hb dJ3_checkIndex_8e157_16 rfl (lv_at hl 0 rfl) ?_
    exact wd_iret hx hb hr hlocks hw dJ3_checkIndex_8e157_17
set_option maxHeartbeats 4000000 in
set_option maxRecDepth 100000 in
theorem c_chk0 (G : GP) (l : Launch) (W0 : va_W) (i n : Int32) (h0 : ¬ i < 0) (h1 : i < n) : MC G l yJ0_checkIndex_df160 wsJ0_checkIndex_df160 rm_chk0 [.int i, .int n] W0 W0 none 0 0 := by
  refine MC.mk (cc := cJ0_checkIndex_df160) (maxL := 2) (ret := none) (by decide) rfl (Nat.le_of_ble_eq_true rfl) ?_
  intro p e s m below meth c A ls ⟨hx, hb, hr, hml, hown, hlocks, _, hts⟩ hw hG hA hl
  have hl : lv_has ls 2 [(0, .int i), (1, .int n)] := hl
  refine lv_iload_n hx hb dJ0_checkIndex_df160_0 rfl (lv_at hl 0 rfl) ?_
  refine lv_iload_n hx hb dJ0_checkIndex_df160_1 rfl (lv_at hl 1 rfl) ?_
  have hz : ∃ v : Value, (v = .null ∨ ∃ t, v = .ref t) ∧ va_Z "jdk/internal/util/Preconditions" "SIOOBE_FORMATTER" "Ljava/util/function/BiFunction;" v A s s.heap := by
    rcases hG.2.2.2.2.2.1 with h | ⟨t, h⟩
    · exact ⟨_, Or.inl rfl, h⟩
    · exact ⟨_, Or.inr ⟨t, rfl⟩, h⟩
  obtain ⟨v, hv, hz⟩ := hz
  refine va_gets hx hb hz hw.2.2 hown (hts (.fieldLink RJ0 1053 "jdk/internal/util/Preconditions" "SIOOBE_FORMATTER" "Ljava/util/function/BiFunction;") (List.mem_of_getElem? (i := 1) rfl)) (fun _ h9 => h9) dJ0_checkIndex_df160_2 ?_
  refine cS (As := [.int i, .int n, v]) (rest := []) ⟨hx, hb, hml, hown, hts⟩ hG hA hw (c_chk3 G l _ i n v hv h0 h1) (va_cwS 3 hts gJ0_checkIndex_df160_J3_checkIndex_8e157 rfl rfl rfl (by decide +kernel) ⟨Nat.le_of_ble_eq_true rfl, Nat.le_of_ble_eq_true rfl⟩) rfl hl.1 rfl (Nat.le_of_ble_eq_true rfl) dJ0_checkIndex_df160_5 ⟨Nat.zero_le _, Nat.zero_le _⟩ (fun H locs hw => ?_)
  refine lv_pop hx hb dJ0_checkIndex_df160_8 rfl ?_
  exact wd_vret hx hb hr hlocks hw dJ0_checkIndex_df160_9
set_option maxHeartbeats 4000000 in
set_option maxRecDepth 100000 in
theorem c_latchar (G : GP) (l : Launch) (W0 : va_W) (w : Nat) (hi : w < 18) (i : Int32) (h : vp_in i (scL.getD w 0)) : MC G l yJ1_charAt_3b067 wsJ1_charAt_3b067 rm_lat [.ref (G.2.2.2.2 w), .int i] W0 W0 (some (.int ((scB.getD w []).getD i.toNatClampNeg 0))) 0 0 := by
  refine MC.mk (cc := cJ1_charAt_3b067) (maxL := 2) (ret := (some .char)) (by decide) rfl (Nat.le_of_ble_eq_true rfl) ?_
  intro p e s m below meth c A ls ⟨hx, hb, hr, hml, hown, hlocks, _, hts⟩ hw hG hA hl
  have hl : lv_has ls 2 [(0, .ref (G.2.2.2.2 w)), (1, .int i)] := hl
  have hlt := in_lt h (sc_small w hi)
  refine lv_iload_n hx hb dJ1_charAt_3b067_0 rfl (lv_at hl 1 rfl) ?_
  refine lv_aload_n hx hb dJ1_charAt_3b067_1 rfl (lv_at hl 0 rfl) ?_
  refine va_tlen (v := nI (scL.getD w 0)) hx hb (hG.2.2.2.2.2.2.1.1 w hi).2.2.2 hw.2.2 rfl dJ1_charAt_3b067_2 ?_
  refine cS (As := [.int i, .int (nI (scL.getD w 0))]) (rest := []) ⟨hx, hb, hml, hown, hts⟩ hG hA hw (c_chk0 G l _ i _ hlt.1 hlt.2) (va_cwS 2 hts gJ1_charAt_3b067_J0_checkIndex_df160 rfl rfl rfl (by decide +kernel) ⟨Nat.le_of_ble_eq_true rfl, Nat.le_of_ble_eq_true rfl⟩) rfl hl.1 rfl (Nat.le_of_ble_eq_true rfl) dJ1_charAt_3b067_3 ⟨Nat.zero_le _, Nat.zero_le _⟩ (fun H locs hw => ?_)
  refine lv_aload_n hx hb dJ1_charAt_3b067_6 rfl (lv_at hl 0 rfl) ?_
  refine lv_iload_n hx hb dJ1_charAt_3b067_7 rfl (lv_at hl 1 rfl) ?_
  refine va_tb hx hb (hG.2.2.2.2.2.2.1.1 w hi).2.2.2 hw.2.2 h rfl dJ1_charAt_3b067_8 ?_
  refine lv_sipush (v := 255) hx hb dJ1_charAt_3b067_9 (by decide) ?_
  refine lv_iand hx hb dJ1_charAt_3b067_12 ?_
  refine lv_i2c (v := ((scB.getD w []).getD i.toNatClampNeg 0)) hx hb dJ1_charAt_3b067_13 (by rw [sc_c2]; exact sc_and w hi _ (x_lt h)) ?_
  have hn : narrow .char (.int ((scB.getD w []).getD i.toNatClampNeg 0)) = .int ((scB.getD w []).getD i.toNatClampNeg 0) := by
    have h9 := sc_nar ((scB.getD w []).getD i.toNatClampNeg 0)
    rw [sc_and w hi _ (x_lt h)] at h9
    exact h9
  exact wd_zret hx hb hr hn hlocks hw dJ1_charAt_3b067_14
set_option maxHeartbeats 4000000 in
set_option maxRecDepth 100000 in
theorem c_strchar (G : GP) (l : Launch) (W0 : va_W) (w : Nat) (hi : w < 18) (i : Int32) (h : vp_in i (scL.getD w 0)) : MC G l yJ0_charAt_5068e wsJ0_charAt_5068e rm_strchar [.ref (G.2.2.2.1 w), .int i] W0 W0 (some (.int ((scB.getD w []).getD i.toNatClampNeg 0))) 0 0 := by
  refine MC.mk (cc := cJ0_charAt_5068e) (maxL := 2) (ret := (some .char)) (by decide) rfl (Nat.le_of_ble_eq_true rfl) ?_
  intro p e s m below meth c A ls ⟨hx, hb, hr, hml, hown, hlocks, _, hts⟩ hw hG hA hl
  have hl : lv_has ls 2 [(0, .ref (G.2.2.2.1 w)), (1, .int i)] := hl
  refine lv_aload_n hx hb dJ0_charAt_5068e_0 rfl (lv_at hl 0 rfl) ?_
  refine cV (As := []) (rest := []) ⟨hx, hb, hml, hown, hts⟩ hG hA hw (c_isLatin1 G l _ w hi) (cwV 0 hts gJ0_charAt_5068e_J0_isLatin1_aae02 rfl rfl rfl (by decide +kernel) ⟨Nat.le_of_ble_eq_true rfl, Nat.le_of_ble_eq_true rfl⟩) (vk_recv hG.2.2.2.2.2.2.1 hi hw.2.2) rfl hl.1 rfl (Nat.le_of_ble_eq_true rfl) dJ0_charAt_5068e_1 ⟨Nat.zero_le _, Nat.zero_le _⟩ (fun H locs hw => ?_)
  refine lv_if_eq (tgt := 16) hx hb dJ0_charAt_5068e_4 (by decide) (fun c0 => absurd c0 (by decide)) (fun _ => ?_)
  refine lv_aload_n hx hb dJ0_charAt_5068e_7 rfl (lv_at hl 0 rfl) ?_
  refine vk_getf hx hb (hG.2.2.2.2.2.2.1.1 w hi).2.2.1 hw.2.2 hown (hts (.fieldLink RJ0 9 "java/lang/String" "value" "[B") (List.mem_of_getElem? (i := 1) rfl)) (fun _ h9 => h9) dJ0_charAt_5068e_8 ?_
  refine lv_iload_n hx hb dJ0_charAt_5068e_11 rfl (lv_at hl 1 rfl) ?_
  refine cS (As := [.ref (G.2.2.2.2 w), .int i]) (rest := []) ⟨hx, hb, hml, hown, hts⟩ hG hA hw (c_latchar G l _ w hi i h) (va_cwS 2 hts gJ0_charAt_5068e_J1_charAt_3b067 rfl rfl rfl (by decide +kernel) ⟨Nat.le_of_ble_eq_true rfl, Nat.le_of_ble_eq_true rfl⟩) rfl hl.1 rfl (Nat.le_of_ble_eq_true rfl) dJ0_charAt_5068e_12 ⟨Nat.zero_le _, Nat.zero_le _⟩ (fun H locs hw => ?_)
  have hn : narrow .char (.int ((scB.getD w []).getD i.toNatClampNeg 0)) = .int ((scB.getD w []).getD i.toNatClampNeg 0) := by
    have h9 := sc_nar ((scB.getD w []).getD i.toNatClampNeg 0)
    rw [sc_and w hi _ (x_lt h)] at h9
    exact h9
  exact wd_zret hx hb hr hn hlocks hw dJ0_charAt_5068e_15
