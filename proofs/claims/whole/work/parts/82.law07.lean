set_option maxHeartbeats 4000000 in
set_option maxRecDepth 100000 in
theorem law_barred {p : Program} {l : Launch} {e : Env} {s : State} {m : MethodId} {below : List Frame} {meth : Method} {c : Code} {G : GP} {b L : Nat} {xs : Nat → Int32} (hL : L ≤ 4096) (C0 : lw_At p s m meth c b L xs) (hG : Gb G (fun q : Nat => s.heap.size ≤ q) s s.heap) (hO : Ao s) {k : Nat} (hk : 8 * k + 8 ≤ L) {x3 : Int32} (e3 : x3 = nI (8 * k)) (go : ∀ (S T : St) (a b2 : Nat → Nat) (H : Heap) (locs : List Loc) (ls : Array Slot), Rel S T → a 45 = G.2.2.1 → Wd G (fun q : Nat => s.heap.size ≤ q) s H locs (xw G.2.1 a (mw G.2.1 b2 [] T) S) → lv_has ls 4 [(3, .int x3), (0, .ref b), (1, .ref (a 0)), (2, .ref (b2 0))] → W p l e room_1 s m #[Value.ref b] below meth c H locs (200 + (k + 1)) (100000 + 15 * (k + 1)) (lw_Z below #[Value.ref b] s) (F0 m 1133 ls [])) {S T : St} (hR : Rel S T) {a b2 : Nat → Nat} (ha : a 45 = G.2.2.1) {H : Heap} {locs : List Loc} (hw : Wd G (fun q : Nat => s.heap.size ≤ q) s H locs (xw G.2.1 a (mw G.2.1 b2 [] T) S)) {ls : Array Slot} (hl : lv_has ls 4 [(3, .int x3), (0, .ref b), (1, .ref (a 0)), (2, .ref (b2 0))]) : W p l e room_1 s m #[Value.ref b] below meth c H locs (200 + k) (100000 + 15 * k) (lw_Z below #[Value.ref b] s) (F0 m 955 ls []) := by
  obtain ⟨hx, hb, hr, hml, hown, hts0, hX, hbl, hlocks, hgv⟩ := C0
  have hts : ∀ w ∈ wsL_law, w.before #[Value.ref b] s = true := fun w h => hts0 w (wsL_law_in w h)
  have hA : ∀ q : Nat, s.heap.size ≤ q → (fun q : Nat => s.heap.size ≤ q) q := fun _ h => h
  have hbA : ¬ (fun q : Nat => s.heap.size ≤ q) b := Nat.not_le.mpr hbl
  have h1 : vp_in (x3 + 1) L := by rw [e3, show (1 : Int32) = nI 1 from rfl, nI_add]; exact vp_in_nI (by omega) (by omega)
  obtain ⟨u1, ev1⟩ : ∃ z, xs (x3 + 1).toNatClampNeg = z := ⟨_, rfl⟩
  have h2 : vp_in (x3 + 2) L := by rw [e3, show (2 : Int32) = nI 2 from rfl, nI_add]; exact vp_in_nI (by omega) (by omega)
  obtain ⟨u2, ev2⟩ : ∃ z, xs (x3 + 2).toNatClampNeg = z := ⟨_, rfl⟩
  obtain ⟨r, S2, T2, hfx, hfm, hR2⟩ := op_barred hR u1 u2
  obtain ⟨hfx, h8⟩ := hfx
  obtain ⟨hfm, h9⟩ := hfm
  rw [h8, h9] at hR2
  refine lv_aload_n hx hb dL_law_955 rfl (lv_at hl 2 rfl) ?_
  refine lv_aload_n hx hb dL_law_956 rfl (lv_at hl 1 rfl) ?_
  refine lv_iload_n hx hb dL_law_957 rfl (lv_at hl 0 rfl) ?_
  refine lv_iconst (v := 1) hx hb dL_law_958 (by decide) ?_
  refine lv_iadd hx hb dL_law_959 ?_
  refine l_sld hx hb hX hbl hbA hw.2.2 h1 ev1 dL_law_960 ?_
  refine lv_aload_n hx hb dL_law_961 rfl (lv_at hl 1 rfl) ?_
  refine lv_iload_n hx hb dL_law_962 rfl (lv_at hl 0 rfl) ?_
  refine lv_iconst (v := 2) hx hb dL_law_963 (by decide) ?_
  refine lv_iadd hx hb dL_law_964 ?_
  refine l_sld hx hb hX hbl hbA hw.2.2 h2 ev2 dL_law_965 ?_
  refine cV (As := [.int u1, .int u2]) (rest := []) ⟨hx, hb, hml, hown, hts⟩ hG hA hw (c_X7_barred G l a ha _ S u1 u2 r hfx) (cwV 2 hts gL_law_X7_barred rfl rfl rfl (by decide +kernel) ⟨Nat.le_of_ble_eq_true rfl, Nat.le_of_ble_eq_true rfl⟩) (va_recv hG.1 hw.1 (ci := 7) (q0 := 0) rfl rfl) rfl hl.1 rfl (Nat.le_of_ble_eq_true rfl) dL_law_966 ⟨by show _ ≤ 600000; omega, by show _ ≤ 7302249; omega⟩ (fun H locs hw => ?_)
  replace hw := wd_toM hw
  refine lv_aload_n hx hb dL_law_969 rfl (lv_at hl 3 rfl) ?_
  refine lv_aload_n hx hb dL_law_970 rfl (lv_at hl 1 rfl) ?_
  refine lv_iload_n hx hb dL_law_971 rfl (lv_at hl 0 rfl) ?_
  refine lv_iconst (v := 1) hx hb dL_law_972 (by decide) ?_
  refine lv_iadd hx hb dL_law_973 ?_
  refine l_sld hx hb hX hbl hbA hw.2.2 h1 ev1 dL_law_974 ?_
  refine lv_aload_n hx hb dL_law_975 rfl (lv_at hl 1 rfl) ?_
  refine lv_iload_n hx hb dL_law_976 rfl (lv_at hl 0 rfl) ?_
  refine lv_iconst (v := 2) hx hb dL_law_977 (by decide) ?_
  refine lv_iadd hx hb dL_law_978 ?_
  refine l_sld hx hb hX hbl hbA hw.2.2 h2 ev2 dL_law_979 ?_
  refine cV (As := [.int u1, .int u2]) (rest := [.int r]) ⟨hx, hb, hml, hown, hts⟩ hG hA hw (c_X8_barred G l b2 _ T u1 u2 r hfm) (cwV 2 hts gL_law_X8_barred rfl rfl rfl (by decide +kernel) ⟨Nat.le_of_ble_eq_true rfl, Nat.le_of_ble_eq_true rfl⟩) (va_recv hG.1 hw.1 (ci := 8) (q0 := 0) rfl rfl) rfl hl.1 rfl (Nat.le_of_ble_eq_true rfl) dL_law_980 ⟨by show _ ≤ 600000; omega, by show _ ≤ 7302249; omega⟩ (fun H locs hw => ?_)
  replace hw := wd_toX hw
  refine lv_icmp_eq (tgt := 1133) hx hb dL_law_983 (by decide) (fun _ => ?_) (fun c0 => absurd rfl c0)
  refine W.widen (k := 200 + (k + 1)) (n := 100000 + 15 * (k + 1)) (by omega) (by omega) ?_
  exact go _ _ _ _ _ _ _ hR2 ha hw hl
set_option maxHeartbeats 4000000 in
set_option maxRecDepth 100000 in
theorem law_claim {p : Program} {l : Launch} {e : Env} {s : State} {m : MethodId} {below : List Frame} {meth : Method} {c : Code} {G : GP} {b L : Nat} {xs : Nat → Int32} (hL : L ≤ 4096) (C0 : lw_At p s m meth c b L xs) (hG : Gb G (fun q : Nat => s.heap.size ≤ q) s s.heap) (hO : Ao s) {k : Nat} (hk : 8 * k + 8 ≤ L) {x3 : Int32} (e3 : x3 = nI (8 * k)) (go : ∀ (S T : St) (a b2 : Nat → Nat) (H : Heap) (locs : List Loc) (ls : Array Slot), Rel S T → a 45 = G.2.2.1 → Wd G (fun q : Nat => s.heap.size ≤ q) s H locs (xw G.2.1 a (mw G.2.1 b2 [] T) S) → lv_has ls 4 [(3, .int x3), (0, .ref b), (1, .ref (a 0)), (2, .ref (b2 0))] → W p l e room_1 s m #[Value.ref b] below meth c H locs (200 + (k + 1)) (100000 + 15 * (k + 1)) (lw_Z below #[Value.ref b] s) (F0 m 1133 ls [])) {S T : St} (hR : Rel S T) {a b2 : Nat → Nat} (ha : a 45 = G.2.2.1) {H : Heap} {locs : List Loc} (hw : Wd G (fun q : Nat => s.heap.size ≤ q) s H locs (xw G.2.1 a (mw G.2.1 b2 [] T) S)) {ls : Array Slot} (hl : lv_has ls 4 [(3, .int x3), (0, .ref b), (1, .ref (a 0)), (2, .ref (b2 0))]) : W p l e room_1 s m #[Value.ref b] below meth c H locs (200 + k) (100000 + 15 * k) (lw_Z below #[Value.ref b] s) (F0 m 988 ls []) := by
  obtain ⟨hx, hb, hr, hml, hown, hts0, hX, hbl, hlocks, hgv⟩ := C0
  have hts : ∀ w ∈ wsL_law, w.before #[Value.ref b] s = true := fun w h => hts0 w (wsL_law_in w h)
  have hA : ∀ q : Nat, s.heap.size ≤ q → (fun q : Nat => s.heap.size ≤ q) q := fun _ h => h
  have hbA : ¬ (fun q : Nat => s.heap.size ≤ q) b := Nat.not_le.mpr hbl
  have h1 : vp_in (x3 + 1) L := by rw [e3, show (1 : Int32) = nI 1 from rfl, nI_add]; exact vp_in_nI (by omega) (by omega)
  obtain ⟨u1, ev1⟩ : ∃ z, xs (x3 + 1).toNatClampNeg = z := ⟨_, rfl⟩
  have h2 : vp_in (x3 + 2) L := by rw [e3, show (2 : Int32) = nI 2 from rfl, nI_add]; exact vp_in_nI (by omega) (by omega)
  obtain ⟨u2, ev2⟩ : ∃ z, xs (x3 + 2).toNatClampNeg = z := ⟨_, rfl⟩
  obtain ⟨r, S2, T2, hfx, hfm, hR2⟩ := op_claim hR u1 u2
  obtain ⟨hfx, h8⟩ := hfx
  obtain ⟨hfm, h9⟩ := hfm
  rw [h8, h9] at hR2
  refine lv_aload_n hx hb dL_law_988 rfl (lv_at hl 2 rfl) ?_
  refine lv_aload_n hx hb dL_law_989 rfl (lv_at hl 1 rfl) ?_
  refine lv_iload_n hx hb dL_law_990 rfl (lv_at hl 0 rfl) ?_
  refine lv_iconst (v := 1) hx hb dL_law_991 (by decide) ?_
  refine lv_iadd hx hb dL_law_992 ?_
  refine l_sld hx hb hX hbl hbA hw.2.2 h1 ev1 dL_law_993 ?_
  refine lv_aload_n hx hb dL_law_994 rfl (lv_at hl 1 rfl) ?_
  refine lv_iload_n hx hb dL_law_995 rfl (lv_at hl 0 rfl) ?_
  refine lv_iconst (v := 2) hx hb dL_law_996 (by decide) ?_
  refine lv_iadd hx hb dL_law_997 ?_
  refine l_sld hx hb hX hbl hbA hw.2.2 h2 ev2 dL_law_998 ?_
  refine cV (As := [.int u1, .int u2]) (rest := []) ⟨hx, hb, hml, hown, hts⟩ hG hA hw (c_X7_claim G l a ha _ S u1 u2 r hfx) (cwV 2 hts gL_law_X7_claim rfl rfl rfl (by decide +kernel) ⟨Nat.le_of_ble_eq_true rfl, Nat.le_of_ble_eq_true rfl⟩) (va_recv hG.1 hw.1 (ci := 7) (q0 := 0) rfl rfl) rfl hl.1 rfl (Nat.le_of_ble_eq_true rfl) dL_law_999 ⟨by show _ ≤ 600000; omega, by show _ ≤ 7302249; omega⟩ (fun H locs hw => ?_)
  replace hw := wd_toM hw
  refine lv_aload_n hx hb dL_law_1002 rfl (lv_at hl 3 rfl) ?_
  refine lv_aload_n hx hb dL_law_1003 rfl (lv_at hl 1 rfl) ?_
  refine lv_iload_n hx hb dL_law_1004 rfl (lv_at hl 0 rfl) ?_
  refine lv_iconst (v := 1) hx hb dL_law_1005 (by decide) ?_
  refine lv_iadd hx hb dL_law_1006 ?_
  refine l_sld hx hb hX hbl hbA hw.2.2 h1 ev1 dL_law_1007 ?_
  refine lv_aload_n hx hb dL_law_1008 rfl (lv_at hl 1 rfl) ?_
  refine lv_iload_n hx hb dL_law_1009 rfl (lv_at hl 0 rfl) ?_
  refine lv_iconst (v := 2) hx hb dL_law_1010 (by decide) ?_
  refine lv_iadd hx hb dL_law_1011 ?_
  refine l_sld hx hb hX hbl hbA hw.2.2 h2 ev2 dL_law_1012 ?_
  refine cV (As := [.int u1, .int u2]) (rest := [.int r]) ⟨hx, hb, hml, hown, hts⟩ hG hA hw (c_X8_claim G l b2 _ T u1 u2 r hfm) (cwV 2 hts gL_law_X8_claim rfl rfl rfl (by decide +kernel) ⟨Nat.le_of_ble_eq_true rfl, Nat.le_of_ble_eq_true rfl⟩) (va_recv hG.1 hw.1 (ci := 8) (q0 := 0) rfl rfl) rfl hl.1 rfl (Nat.le_of_ble_eq_true rfl) dL_law_1013 ⟨by show _ ≤ 600000; omega, by show _ ≤ 7302249; omega⟩ (fun H locs hw => ?_)
  replace hw := wd_toX hw
  refine lv_icmp_eq (tgt := 1133) hx hb dL_law_1016 (by decide) (fun _ => ?_) (fun c0 => absurd rfl c0)
  refine W.widen (k := 200 + (k + 1)) (n := 100000 + 15 * (k + 1)) (by omega) (by omega) ?_
  exact go _ _ _ _ _ _ _ hR2 ha hw hl
set_option maxHeartbeats 4000000 in
set_option maxRecDepth 100000 in
theorem law_line {p : Program} {l : Launch} {e : Env} {s : State} {m : MethodId} {below : List Frame} {meth : Method} {c : Code} {G : GP} {b L : Nat} {xs : Nat → Int32} (hL : L ≤ 4096) (C0 : lw_At p s m meth c b L xs) (hG : Gb G (fun q : Nat => s.heap.size ≤ q) s s.heap) (hO : Ao s) {k : Nat} (hk : 8 * k + 8 ≤ L) {x3 : Int32} (e3 : x3 = nI (8 * k)) (go : ∀ (S T : St) (a b2 : Nat → Nat) (H : Heap) (locs : List Loc) (ls : Array Slot), Rel S T → a 45 = G.2.2.1 → Wd G (fun q : Nat => s.heap.size ≤ q) s H locs (xw G.2.1 a (mw G.2.1 b2 [] T) S) → lv_has ls 4 [(3, .int x3), (0, .ref b), (1, .ref (a 0)), (2, .ref (b2 0))] → W p l e room_1 s m #[Value.ref b] below meth c H locs (200 + (k + 1)) (100000 + 15 * (k + 1)) (lw_Z below #[Value.ref b] s) (F0 m 1133 ls [])) {S T : St} (hR : Rel S T) {a b2 : Nat → Nat} (ha : a 45 = G.2.2.1) {H : Heap} {locs : List Loc} (hw : Wd G (fun q : Nat => s.heap.size ≤ q) s H locs (xw G.2.1 a (mw G.2.1 b2 [] T) S)) {ls : Array Slot} (hl : lv_has ls 4 [(3, .int x3), (0, .ref b), (1, .ref (a 0)), (2, .ref (b2 0))]) : W p l e room_1 s m #[Value.ref b] below meth c H locs (200 + k) (100000 + 15 * k) (lw_Z below #[Value.ref b] s) (F0 m 1021 ls []) := by
  obtain ⟨hx, hb, hr, hml, hown, hts0, hX, hbl, hlocks, hgv⟩ := C0
  have hts : ∀ w ∈ wsL_law, w.before #[Value.ref b] s = true := fun w h => hts0 w (wsL_law_in w h)
  have hA : ∀ q : Nat, s.heap.size ≤ q → (fun q : Nat => s.heap.size ≤ q) q := fun _ h => h
  have hbA : ¬ (fun q : Nat => s.heap.size ≤ q) b := Nat.not_le.mpr hbl
  have h1 : vp_in (x3 + 1) L := by rw [e3, show (1 : Int32) = nI 1 from rfl, nI_add]; exact vp_in_nI (by omega) (by omega)
  obtain ⟨u1, ev1⟩ : ∃ z, xs (x3 + 1).toNatClampNeg = z := ⟨_, rfl⟩
  have h2 : vp_in (x3 + 2) L := by rw [e3, show (2 : Int32) = nI 2 from rfl, nI_add]; exact vp_in_nI (by omega) (by omega)
  obtain ⟨u2, ev2⟩ : ∃ z, xs (x3 + 2).toNatClampNeg = z := ⟨_, rfl⟩
  have h3 : vp_in (x3 + 3) L := by rw [e3, show (3 : Int32) = nI 3 from rfl, nI_add]; exact vp_in_nI (by omega) (by omega)
  obtain ⟨u3, ev3⟩ : ∃ z, xs (x3 + 3).toNatClampNeg = z := ⟨_, rfl⟩
  obtain ⟨r, S2, T2, hfx, hfm, hR2⟩ := op_line hR u1 u2 u3
  obtain ⟨hfx, h8⟩ := hfx
  obtain ⟨hfm, h9⟩ := hfm
  rw [h8, h9] at hR2
  refine lv_aload_n hx hb dL_law_1021 rfl (lv_at hl 2 rfl) ?_
  refine lv_aload_n hx hb dL_law_1022 rfl (lv_at hl 1 rfl) ?_
  refine lv_iload_n hx hb dL_law_1023 rfl (lv_at hl 0 rfl) ?_
  refine lv_iconst (v := 1) hx hb dL_law_1024 (by decide) ?_
  refine lv_iadd hx hb dL_law_1025 ?_
  refine l_sld hx hb hX hbl hbA hw.2.2 h1 ev1 dL_law_1026 ?_
  refine lv_aload_n hx hb dL_law_1027 rfl (lv_at hl 1 rfl) ?_
  refine lv_iload_n hx hb dL_law_1028 rfl (lv_at hl 0 rfl) ?_
  refine lv_iconst (v := 2) hx hb dL_law_1029 (by decide) ?_
  refine lv_iadd hx hb dL_law_1030 ?_
  refine l_sld hx hb hX hbl hbA hw.2.2 h2 ev2 dL_law_1031 ?_
  refine lv_aload_n hx hb dL_law_1032 rfl (lv_at hl 1 rfl) ?_
  refine lv_iload_n hx hb dL_law_1033 rfl (lv_at hl 0 rfl) ?_
  refine lv_iconst (v := 3) hx hb dL_law_1034 (by decide) ?_
  refine lv_iadd hx hb dL_law_1035 ?_
  refine l_sld hx hb hX hbl hbA hw.2.2 h3 ev3 dL_law_1036 ?_
  refine cV (As := [.int u1, .int u2, .int u3]) (rest := []) ⟨hx, hb, hml, hown, hts⟩ hG hA hw (c_X7_line G l a ha _ S u1 u2 u3 r hfx) (cwV 3 hts gL_law_X7_line rfl rfl rfl (by decide +kernel) ⟨Nat.le_of_ble_eq_true rfl, Nat.le_of_ble_eq_true rfl⟩) (va_recv hG.1 hw.1 (ci := 7) (q0 := 0) rfl rfl) rfl hl.1 rfl (Nat.le_of_ble_eq_true rfl) dL_law_1037 ⟨by show _ ≤ 600000; omega, by show _ ≤ 7302249; omega⟩ (fun H locs hw => ?_)
  replace hw := wd_toM hw
  refine lv_aload_n hx hb dL_law_1040 rfl (lv_at hl 3 rfl) ?_
  refine lv_aload_n hx hb dL_law_1041 rfl (lv_at hl 1 rfl) ?_
  refine lv_iload_n hx hb dL_law_1042 rfl (lv_at hl 0 rfl) ?_
  refine lv_iconst (v := 1) hx hb dL_law_1043 (by decide) ?_
  refine lv_iadd hx hb dL_law_1044 ?_
  refine l_sld hx hb hX hbl hbA hw.2.2 h1 ev1 dL_law_1045 ?_
  refine lv_aload_n hx hb dL_law_1046 rfl (lv_at hl 1 rfl) ?_
  refine lv_iload_n hx hb dL_law_1047 rfl (lv_at hl 0 rfl) ?_
  refine lv_iconst (v := 2) hx hb dL_law_1048 (by decide) ?_
  refine lv_iadd hx hb dL_law_1049 ?_
  refine l_sld hx hb hX hbl hbA hw.2.2 h2 ev2 dL_law_1050 ?_
  refine lv_aload_n hx hb dL_law_1051 rfl (lv_at hl 1 rfl) ?_
  refine lv_iload_n hx hb dL_law_1052 rfl (lv_at hl 0 rfl) ?_
  refine lv_iconst (v := 3) hx hb dL_law_1053 (by decide) ?_
  refine lv_iadd hx hb dL_law_1054 ?_
  refine l_sld hx hb hX hbl hbA hw.2.2 h3 ev3 dL_law_1055 ?_
  refine cV (As := [.int u1, .int u2, .int u3]) (rest := [.int r]) ⟨hx, hb, hml, hown, hts⟩ hG hA hw (c_X8_line G l b2 _ T u1 u2 u3 r hfm) (cwV 3 hts gL_law_X8_line rfl rfl rfl (by decide +kernel) ⟨Nat.le_of_ble_eq_true rfl, Nat.le_of_ble_eq_true rfl⟩) (va_recv hG.1 hw.1 (ci := 8) (q0 := 0) rfl rfl) rfl hl.1 rfl (Nat.le_of_ble_eq_true rfl) dL_law_1056 ⟨by show _ ≤ 600000; omega, by show _ ≤ 7302249; omega⟩ (fun H locs hw => ?_)
  replace hw := wd_toX hw
  refine lv_icmp_eq (tgt := 1133) hx hb dL_law_1059 (by decide) (fun _ => ?_) (fun c0 => absurd rfl c0)
  refine W.widen (k := 200 + (k + 1)) (n := 100000 + 15 * (k + 1)) (by omega) (by omega) ?_
  exact go _ _ _ _ _ _ _ hR2 ha hw hl
