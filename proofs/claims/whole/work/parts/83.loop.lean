set_option maxHeartbeats 4000000 in
set_option maxRecDepth 100000 in
theorem law_loop {p : Program} {l : Launch} {e : Env} {s : State} {m : MethodId} {below : List Frame} {meth : Method} {c : Code} {G : GP} {b L : Nat} {xs : Nat → Int32} (hL : L ≤ 4096) (C0 : lw_At p s m meth c b L xs) (hG : Gb G (fun q : Nat => s.heap.size ≤ q) s s.heap) (hO : Ao s) : ∀ (n k : Nat), L < 8 * (k + n) → 8 * k ≤ L → ∀ (S T : St) (a b2 : Nat → Nat) (H : Heap) (locs : List Loc) (ls : Array Slot), Rel S T → a 45 = G.2.2.1 → Wd G (fun q : Nat => s.heap.size ≤ q) s H locs (xw G.2.1 a (mw G.2.1 b2 [] T) S) → lv_has ls 4 [(3, .int (nI (8 * k))), (0, .ref b), (1, .ref (a 0)), (2, .ref (b2 0))] → W p l e room_1 s m #[Value.ref b] below meth c H locs (200 + k) (100000 + 15 * k) (lw_Z below #[Value.ref b] s) (F0 m 18 ls []) := by
  have C1 := C0
  obtain ⟨hx, hb, hr, hml, hown, hts0, hX, hbl, hlocks, hgv⟩ := C0
  have hbA : ¬ (fun q : Nat => s.heap.size ≤ q) b := Nat.not_le.mpr hbl
  intro n
  induction n with
  | zero =>
    intro k h1 h2
    exact absurd h1 (by omega)
  | succ n ih =>
    intro k h1 h2 S T a b2 H locs ls hR ha hw hl
    refine lv_iload_n hx hb dL_law_18 rfl (lv_at hl 0 rfl) ?_
    refine lv_aload_n hx hb dL_law_19 rfl (lv_at hl 1 rfl) ?_
    refine va_slen hx hb hX hbl hbA hw.2.2 dL_law_20 ?_
    refine lv_bipush (v := 8) hx hb dL_law_21 (by decide) ?_
    refine lv_isub hx hb dL_law_23 ?_
    have hd : (Int32.ofNat L - 8).toInt = (L : Int) - 8 := pk_sub_toInt (a := L) (b := 8) (by omega) (by decide)
    have hk8 : (nI (8 * k)).toInt = ((8 * k : Nat) : Int) := nI_toInt (by omega)
    refine lv_icmp_gt (tgt := 1139) hx hb dL_law_24 (by decide) (fun _ => ?_) (fun c0 => ?_)
    · refine lv_iconst (v := 1) hx hb dL_law_1139 (by decide) ?_
      refine va_forget (fun q hq => hw.2.2.2.2 q hq) ?_
      refine W.widen (k := 600000) (n := 7302249) (by omega) (by omega) ?_
      exact lw_ret hx hb hr hlocks dL_law_1140
    · have hk : 8 * k + 8 ≤ L := by
        have h9 : ¬ (Int32.ofNat L - 8).toInt < (nI (8 * k)).toInt := fun q => c0 (Int32.lt_iff_toInt_lt.mpr q)
        rw [hd, hk8] at h9
        omega
      refine lv_aload_n hx hb dL_law_27 rfl (lv_at hl 1 rfl) ?_
      refine lv_iload_n hx hb dL_law_28 rfl (lv_at hl 0 rfl) ?_
      refine va_sld hx hb hX hbl hbA hw.2.2 (vp_in_nI (by omega) (by omega)) dL_law_29 ?_
      refine lv_bipush (v := 31) hx hb dL_law_30 (by decide) ?_
      refine lv_iand hx hb dL_law_32 ?_
      refine lv_topi (fun x ex => ?_)
      have go : ∀ (S T : St) (a b2 : Nat → Nat) (H : Heap) (locs : List Loc) (ls : Array Slot), Rel S T → a 45 = G.2.2.1 → Wd G (fun q : Nat => s.heap.size ≤ q) s H locs (xw G.2.1 a (mw G.2.1 b2 [] T) S) → lv_has ls 4 [(3, .int (nI (8 * k))), (0, .ref b), (1, .ref (a 0)), (2, .ref (b2 0))] → W p l e room_1 s m #[Value.ref b] below meth c H locs (200 + (k + 1)) (100000 + 15 * (k + 1)) (lw_Z below #[Value.ref b] s) (F0 m 1133 ls []) := by
        intro S T a b2 H locs ls hR ha hw hl
        refine lv_iinc (v := nI (8 * (k + 1))) (lv' := [(3, .int (nI (8 * (k + 1)))), (0, .ref b), (1, .ref (a 0)), (2, .ref (b2 0))]) hx hb dL_law_1133 hl (k := 0) rfl (by show nI (8 * k) + nI 8 = _; rw [nI_add]; rfl) (by decide) rfl (fun ls hl => ?_)
        refine lv_goto (tgt := 18) hx hb dL_law_1136 (by decide) ?_
        exact ih (k + 1) (by omega) (by omega) S T a b2 H locs ls hR ha hw hl
      by_cases c0 : x = 0
      · refine lv_tableIn (off := 123) (tgt := 156) hx hb dL_law_33 (by rw [c0]; decide) (by rw [c0]; decide) (by rw [c0]; rfl) (by decide) ?_
        exact law_feed hL C1 hG hO hk rfl go hR ha hw hl
      by_cases c1 : x = 1
      · refine lv_tableIn (off := 186) (tgt := 219) hx hb dL_law_33 (by rw [c1]; decide) (by rw [c1]; decide) (by rw [c1]; rfl) (by decide) ?_
        exact law_end hL C1 hG hO hk rfl go hR ha hw hl
      by_cases c2 : x = 2
      · refine lv_tableIn (off := 209) (tgt := 242) hx hb dL_law_33 (by rw [c2]; decide) (by rw [c2]; decide) (by rw [c2]; rfl) (by decide) ?_
        exact law_enter hL C1 hG hO hk rfl go hR ha hw hl
      by_cases c3 : x = 3
      · refine lv_tableIn (off := 252) (tgt := 285) hx hb dL_law_33 (by rw [c3]; decide) (by rw [c3]; decide) (by rw [c3]; rfl) (by decide) ?_
        exact law_away hL C1 hG hO hk rfl go hR ha hw hl
      by_cases c4 : x = 4
      · refine lv_tableIn (off := 311) (tgt := 344) hx hb dL_law_33 (by rw [c4]; decide) (by rw [c4]; decide) (by rw [c4]; rfl) (by decide) ?_
        exact law_strike hL C1 hG hO hk rfl go hR ha hw hl
      by_cases c5 : x = 5
      · refine lv_tableIn (off := 344) (tgt := 377) hx hb dL_law_33 (by rw [c5]; decide) (by rw [c5]; decide) (by rw [c5]; rfl) (by decide) ?_
        exact law_travel hL C1 hG hO hk rfl go hR ha hw hl
      by_cases c6 : x = 6
      · refine lv_tableIn (off := 387) (tgt := 420) hx hb dL_law_33 (by rw [c6]; decide) (by rw [c6]; decide) (by rw [c6]; rfl) (by decide) ?_
        exact law_lawyer hL C1 hG hO hk rfl go hR ha hw hl
      by_cases c7 : x = 7
      · refine lv_tableIn (off := 420) (tgt := 453) hx hb dL_law_33 (by rw [c7]; decide) (by rw [c7]; decide) (by rw [c7]; rfl) (by decide) ?_
        exact law_edition hL C1 hG hO hk rfl go hR ha hw hl
      by_cases c8 : x = 8
      · refine lv_tableIn (off := 443) (tgt := 476) hx hb dL_law_33 (by rw [c8]; decide) (by rw [c8]; decide) (by rw [c8]; rfl) (by decide) ?_
        exact law_fault hL C1 hG hO hk rfl go hR ha hw hl
      by_cases c9 : x = 9
      · refine lv_tableIn (off := 466) (tgt := 499) hx hb dL_law_33 (by rw [c9]; decide) (by rw [c9]; decide) (by rw [c9]; rfl) (by decide) ?_
        exact law_inForce hL C1 hG hO hk rfl go hR ha hw hl
      by_cases c10 : x = 10
      · refine lv_tableIn (off := 499) (tgt := 532) hx hb dL_law_33 (by rw [c10]; decide) (by rw [c10]; decide) (by rw [c10]; rfl) (by decide) ?_
        exact law_rule hL C1 hG hO hk rfl go hR ha hw hl
      by_cases c11 : x = 11
      · refine lv_tableIn (off := 532) (tgt := 565) hx hb dL_law_33 (by rw [c11]; decide) (by rw [c11]; decide) (by rw [c11]; rfl) (by decide) ?_
        exact law_duty hL C1 hG hO hk rfl go hR ha hw hl
      by_cases c12 : x = 12
      · refine lv_tableIn (off := 575) (tgt := 608) hx hb dL_law_33 (by rw [c12]; decide) (by rw [c12]; decide) (by rw [c12]; rfl) (by decide) ?_
        exact law_onDuty hL C1 hG hO hk rfl go hR ha hw hl
      by_cases c13 : x = 13
      · refine lv_tableIn (off := 608) (tgt := 641) hx hb dL_law_33 (by rw [c13]; decide) (by rw [c13]; decide) (by rw [c13]; rfl) (by decide) ?_
        exact law_plan hL C1 hG hO hk rfl go hR ha hw hl
      by_cases c14 : x = 14
      · refine lv_tableIn (off := 651) (tgt := 684) hx hb dL_law_33 (by rw [c14]; decide) (by rw [c14]; decide) (by rw [c14]; rfl) (by decide) ?_
        exact law_uneven hL C1 hG hO hk rfl go hR ha hw hl
      by_cases c15 : x = 15
      · refine lv_tableIn (off := 664) (tgt := 697) hx hb dL_law_33 (by rw [c15]; decide) (by rw [c15]; decide) (by rw [c15]; rfl) (by decide) ?_
        exact law_against hL C1 hG hO hk rfl go hR ha hw hl
      by_cases c16 : x = 16
      · refine lv_tableIn (off := 697) (tgt := 730) hx hb dL_law_33 (by rw [c16]; decide) (by rw [c16]; decide) (by rw [c16]; rfl) (by decide) ?_
        exact law_waive hL C1 hG hO hk rfl go hR ha hw hl
      by_cases c17 : x = 17
      · refine lv_tableIn (off := 730) (tgt := 763) hx hb dL_law_33 (by rw [c17]; decide) (by rw [c17]; decide) (by rw [c17]; rfl) (by decide) ?_
        exact law_call hL C1 hG hO hk rfl go hR ha hw hl
      by_cases c18 : x = 18
      · refine lv_tableIn (off := 817) (tgt := 850) hx hb dL_law_33 (by rw [c18]; decide) (by rw [c18]; decide) (by rw [c18]; rfl) (by decide) ?_
        exact law_asked hL C1 hG hO hk rfl go hR ha hw hl
      by_cases c19 : x = 19
      · refine lv_tableIn (off := 840) (tgt := 873) hx hb dL_law_33 (by rw [c19]; decide) (by rw [c19]; decide) (by rw [c19]; rfl) (by decide) ?_
        exact law_answer hL C1 hG hO hk rfl go hR ha hw hl
      by_cases c20 : x = 20
      · refine lv_tableIn (off := 889) (tgt := 922) hx hb dL_law_33 (by rw [c20]; decide) (by rw [c20]; decide) (by rw [c20]; rfl) (by decide) ?_
        exact law_told hL C1 hG hO hk rfl go hR ha hw hl
      by_cases c21 : x = 21
      · refine lv_tableIn (off := 922) (tgt := 955) hx hb dL_law_33 (by rw [c21]; decide) (by rw [c21]; decide) (by rw [c21]; rfl) (by decide) ?_
        exact law_barred hL C1 hG hO hk rfl go hR ha hw hl
      by_cases c22 : x = 22
      · refine lv_tableIn (off := 955) (tgt := 988) hx hb dL_law_33 (by rw [c22]; decide) (by rw [c22]; decide) (by rw [c22]; rfl) (by decide) ?_
        exact law_claim hL C1 hG hO hk rfl go hR ha hw hl
      by_cases c23 : x = 23
      · refine lv_tableIn (off := 988) (tgt := 1021) hx hb dL_law_33 (by rw [c23]; decide) (by rw [c23]; decide) (by rw [c23]; rfl) (by decide) ?_
        exact law_line hL C1 hG hO hk rfl go hR ha hw hl
      by_cases c24 : x = 24
      · refine lv_tableIn (off := 1031) (tgt := 1064) hx hb dL_law_33 (by rw [c24]; decide) (by rw [c24]; decide) (by rw [c24]; rfl) (by decide) ?_
        exact law_pay hL C1 hG hO hk rfl go hR ha hw hl
      by_cases c25 : x = 25
      · refine lv_tableIn (off := 1054) (tgt := 1087) hx hb dL_law_33 (by rw [c25]; decide) (by rw [c25]; decide) (by rw [c25]; rfl) (by decide) ?_
        exact law_paid hL C1 hG hO hk rfl go hR ha hw hl
      by_cases c26 : x = 26
      · refine lv_tableIn (off := 1077) (tgt := 1110) hx hb dL_law_33 (by rw [c26]; decide) (by rw [c26]; decide) (by rw [c26]; rfl) (by decide) ?_
        exact law_count hL C1 hG hO hk rfl go hR ha hw hl
      have n0 := lv_neT c0 (show Int32.toInt 0 = 0 from rfl)
      have n1 := lv_neT c1 (show Int32.toInt 1 = 1 from rfl)
      have n2 := lv_neT c2 (show Int32.toInt 2 = 2 from rfl)
      have n3 := lv_neT c3 (show Int32.toInt 3 = 3 from rfl)
      have n4 := lv_neT c4 (show Int32.toInt 4 = 4 from rfl)
      have n5 := lv_neT c5 (show Int32.toInt 5 = 5 from rfl)
      have n6 := lv_neT c6 (show Int32.toInt 6 = 6 from rfl)
      have n7 := lv_neT c7 (show Int32.toInt 7 = 7 from rfl)
      have n8 := lv_neT c8 (show Int32.toInt 8 = 8 from rfl)
      have n9 := lv_neT c9 (show Int32.toInt 9 = 9 from rfl)
      have n10 := lv_neT c10 (show Int32.toInt 10 = 10 from rfl)
      have n11 := lv_neT c11 (show Int32.toInt 11 = 11 from rfl)
      have n12 := lv_neT c12 (show Int32.toInt 12 = 12 from rfl)
      have n13 := lv_neT c13 (show Int32.toInt 13 = 13 from rfl)
      have n14 := lv_neT c14 (show Int32.toInt 14 = 14 from rfl)
      have n15 := lv_neT c15 (show Int32.toInt 15 = 15 from rfl)
      have n16 := lv_neT c16 (show Int32.toInt 16 = 16 from rfl)
      have n17 := lv_neT c17 (show Int32.toInt 17 = 17 from rfl)
      have n18 := lv_neT c18 (show Int32.toInt 18 = 18 from rfl)
      have n19 := lv_neT c19 (show Int32.toInt 19 = 19 from rfl)
      have n20 := lv_neT c20 (show Int32.toInt 20 = 20 from rfl)
      have n21 := lv_neT c21 (show Int32.toInt 21 = 21 from rfl)
      have n22 := lv_neT c22 (show Int32.toInt 22 = 22 from rfl)
      have n23 := lv_neT c23 (show Int32.toInt 23 = 23 from rfl)
      have n24 := lv_neT c24 (show Int32.toInt 24 = 24 from rfl)
      have n25 := lv_neT c25 (show Int32.toInt 25 = 25 from rfl)
      have n26 := lv_neT c26 (show Int32.toInt 26 = 26 from rfl)
      refine lv_tableOut (tgt := 1133) hx hb dL_law_33 (by omega) (by decide) ?_
      refine W.widen (k := 200 + (k + 1)) (n := 100000 + 15 * (k + 1)) (by omega) (by omega) ?_
      exact go _ _ _ _ _ _ _ hR ha hw hl
