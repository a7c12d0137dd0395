set_option maxHeartbeats 4000000 in
set_option maxRecDepth 100000 in
theorem law_lawyer {p : Program} {l : Launch} {e : Env} {s : State} {m : MethodId} {below : List Frame} {meth : Method} {c : Code} {G : GP} {b L : Nat} {xs : Nat → Int32} (hL : L ≤ 4096) (C0 : lw_At p s m meth c b L xs) (hG : Gb G (fun q : Nat => s.heap.size ≤ q) s s.heap) (hO : Ao s) {k : Nat} (hk : 8 * k + 8 ≤ L) {x3 : Int32} (e3 : x3 = nI (8 * k)) (go : ∀ (S T : St) (a b2 : Nat → Nat) (H : Heap) (locs : List Loc) (ls : Array Slot), Rel S T → a 45 = G.2.2.1 → Wd G (fun q : Nat => s.heap.size ≤ q) s H locs (xw G.2.1 a (mw G.2.1 b2 [] T) S) → lv_has ls 4 [(3, .int x3), (0, .ref b), (1, .ref (a 0)), (2, .ref (b2 0))] → W p l e room_1 s m #[Value.ref b] below meth c H locs (200 + (k + 1)) (100000 + 15 * (k + 1)) (lw_Z below #[Value.ref b] s) (F0 m 1133 ls [])) {S T : St} (hR : Rel S T) {a b2 : Nat → Nat} (ha : a 45 = G.2.2.1) {H : Heap} {locs : List Loc} (hw : Wd G (fun q : Nat => s.heap.size ≤ q) s H locs (xw G.2.1 a (mw G.2.1 b2 [] T) S)) {ls : Array Slot} (hl : lv_has ls 4 [(3, .int x3), (0, .ref b), (1, .ref (a 0)), (2, .ref (b2 0))]) : W p l e room_1 s m #[Value.ref b] below meth c H locs (200 + k) (100000 + 15 * k) (lw_Z below #[Value.ref b] s) (F0 m 420 ls []) := by
  obtain ⟨hx, hb, hr, hml, hown, hts0, hX, hbl, hlocks, hgv⟩ := C0
  have hts : ∀ w ∈ wsL_law, w.before #[Value.ref b] s = true := fun w h => hts0 w (wsL_law_in w h)
  have hA : ∀ q : Nat, s.heap.size ≤ q → (fun q : Nat => s.heap.size ≤ q) q := fun _ h => h
  have hbA : ¬ (fun q : Nat => s.heap.size ≤ q) b := Nat.not_le.mpr hbl
  have h1 : vp_in (x3 + 1) L := by rw [e3, show (1 : Int32) = nI 1 from rfl, nI_add]; exact vp_in_nI (by omega) (by omega)
  obtain ⟨u1, ev1⟩ : ∃ z, xs (x3 + 1).toNatClampNeg = z := ⟨_, rfl⟩
  have h2 : vp_in (x3 + 2) L := by rw [e3, show (2 : Int32) = nI 2 from rfl, nI_add]; exact vp_in_nI (by omega) (by omega)
  obtain ⟨u2, ev2⟩ : ∃ z, xs (x3 + 2).toNatClampNeg = z := ⟨_, rfl⟩
  obtain ⟨r, S2, T2, hfx, hfm, hR2⟩ := op_lawyer hR u1 u2
  obtain ⟨hfx, h8⟩ := hfx
  obtain ⟨hfm, h9⟩ := hfm
  rw [h8, h9] at hR2
  refine lv_aload_n hx hb dL_law_420 rfl (lv_at hl 2 rfl) ?_
  refine lv_aload_n hx hb dL_law_421 rfl (lv_at hl 1 rfl) ?_
  refine lv_iload_n hx hb dL_law_422 rfl (lv_at hl 0 rfl) ?_
  refine lv_iconst (v := 1) hx hb dL_law_423 (by decide) ?_
  refine lv_iadd hx hb dL_law_424 ?_
  refine l_sld hx hb hX hbl hbA hw.2.2 h1 ev1 dL_law_425 ?_
  refine lv_aload_n hx hb dL_law_426 rfl (lv_at hl 1 rfl) ?_
  refine lv_iload_n hx hb dL_law_427 rfl (lv_at hl 0 rfl) ?_
  refine lv_iconst (v := 2) hx hb dL_law_428 (by decide) ?_
  refine lv_iadd hx hb dL_law_429 ?_
  refine l_sld hx hb hX hbl hbA hw.2.2 h2 ev2 dL_law_430 ?_
  refine cV (As := [.int u1, .int u2]) (rest := []) ⟨hx, hb, hml, hown, hts⟩ hG hA hw (c_X7_lawyer G l a ha _ S u1 u2 r hfx) (cwV 2 hts gL_law_X7_lawyer rfl rfl rfl (by decide +kernel) ⟨Nat.le_of_ble_eq_true rfl, Nat.le_of_ble_eq_true rfl⟩) (va_recv hG.1 hw.1 (ci := 7) (q0 := 0) rfl rfl) rfl hl.1 rfl (Nat.le_of_ble_eq_true rfl) dL_law_431 ⟨by show _ ≤ 600000; omega, by show _ ≤ 7302249; omega⟩ (fun H locs hw => ?_)
  replace hw := wd_toM hw
  refine lv_aload_n hx hb dL_law_434 rfl (lv_at hl 3 rfl) ?_
  refine lv_aload_n hx hb dL_law_435 rfl (lv_at hl 1 rfl) ?_
  refine lv_iload_n hx hb dL_law_436 rfl (lv_at hl 0 rfl) ?_
  refine lv_iconst (v := 1) hx hb dL_law_437 (by decide) ?_
  refine lv_iadd hx hb dL_law_438 ?_
  refine l_sld hx hb hX hbl hbA hw.2.2 h1 ev1 dL_law_439 ?_
  refine lv_aload_n hx hb dL_law_440 rfl (lv_at hl 1 rfl) ?_
  refine lv_iload_n hx hb dL_law_441 rfl (lv_at hl 0 rfl) ?_
  refine lv_iconst (v := 2) hx hb dL_law_442 (by decide) ?_
  refine lv_iadd hx hb dL_law_443 ?_
  refine l_sld hx hb hX hbl hbA hw.2.2 h2 ev2 dL_law_444 ?_
  refine cV (As := [.int u1, .int u2]) (rest := [.int r]) ⟨hx, hb, hml, hown, hts⟩ hG hA hw (c_X8_lawyer G l b2 _ T u1 u2 r hfm) (cwV 2 hts gL_law_X8_lawyer rfl rfl rfl (by decide +kernel) ⟨Nat.le_of_ble_eq_true rfl, Nat.le_of_ble_eq_true rfl⟩) (va_recv hG.1 hw.1 (ci := 8) (q0 := 0) rfl rfl) rfl hl.1 rfl (Nat.le_of_ble_eq_true rfl) dL_law_445 ⟨by show _ ≤ 600000; omega, by show _ ≤ 7302249; omega⟩ (fun H locs hw => ?_)
  replace hw := wd_toX hw
  refine lv_icmp_eq (tgt := 1133) hx hb dL_law_448 (by decide) (fun _ => ?_) (fun c0 => absurd rfl c0)
  refine W.widen (k := 200 + (k + 1)) (n := 100000 + 15 * (k + 1)) (by omega) (by omega) ?_
  exact go _ _ _ _ _ _ _ hR2 ha hw hl
set_option maxHeartbeats 4000000 in
set_option maxRecDepth 100000 in
theorem law_fault {p : Program} {l : Launch} {e : Env} {s : State} {m : MethodId} {below : List Frame} {meth : Method} {c : Code} {G : GP} {b L : Nat} {xs : Nat → Int32} (hL : L ≤ 4096) (C0 : lw_At p s m meth c b L xs) (hG : Gb G (fun q : Nat => s.heap.size ≤ q) s s.heap) (hO : Ao s) {k : Nat} (hk : 8 * k + 8 ≤ L) {x3 : Int32} (e3 : x3 = nI (8 * k)) (go : ∀ (S T : St) (a b2 : Nat → Nat) (H : Heap) (locs : List Loc) (ls : Array Slot), Rel S T → a 45 = G.2.2.1 → Wd G (fun q : Nat => s.heap.size ≤ q) s H locs (xw G.2.1 a (mw G.2.1 b2 [] T) S) → lv_has ls 4 [(3, .int x3), (0, .ref b), (1, .ref (a 0)), (2, .ref (b2 0))] → W p l e room_1 s m #[Value.ref b] below meth c H locs (200 + (k + 1)) (100000 + 15 * (k + 1)) (lw_Z below #[Value.ref b] s) (F0 m 1133 ls [])) {S T : St} (hR : Rel S T) {a b2 : Nat → Nat} (ha : a 45 = G.2.2.1) {H : Heap} {locs : List Loc} (hw : Wd G (fun q : Nat => s.heap.size ≤ q) s H locs (xw G.2.1 a (mw G.2.1 b2 [] T) S)) {ls : Array Slot} (hl : lv_has ls 4 [(3, .int x3), (0, .ref b), (1, .ref (a 0)), (2, .ref (b2 0))]) : W p l e room_1 s m #[Value.ref b] below meth c H locs (200 + k) (100000 + 15 * k) (lw_Z below #[Value.ref b] s) (F0 m 476 ls []) := by
  obtain ⟨hx, hb, hr, hml, hown, hts0, hX, hbl, hlocks, hgv⟩ := C0
  have hts : ∀ w ∈ wsL_law, w.before #[Value.ref b] s = true := fun w h => hts0 w (wsL_law_in w h)
  have hA : ∀ q : Nat, s.heap.size ≤ q → (fun q : Nat => s.heap.size ≤ q) q := fun _ h => h
  have hbA : ¬ (fun q : Nat => s.heap.size ≤ q) b := Nat.not_le.mpr hbl
  have h1 : vp_in (x3 + 1) L := by rw [e3, show (1 : Int32) = nI 1 from rfl, nI_add]; exact vp_in_nI (by omega) (by omega)
  obtain ⟨u1, ev1⟩ : ∃ z, xs (x3 + 1).toNatClampNeg = z := ⟨_, rfl⟩
  obtain ⟨r, S2, T2, hfx, hfm, hR2⟩ := op_fault hR u1
  obtain ⟨hfx, h8⟩ := hfx
  obtain ⟨hfm, h9⟩ := hfm
  rw [h8, h9] at hR2
  refine lv_aload_n hx hb dL_law_476 rfl (lv_at hl 2 rfl) ?_
  refine lv_aload_n hx hb dL_law_477 rfl (lv_at hl 1 rfl) ?_
  refine lv_iload_n hx hb dL_law_478 rfl (lv_at hl 0 rfl) ?_
  refine lv_iconst (v := 1) hx hb dL_law_479 (by decide) ?_
  refine lv_iadd hx hb dL_law_480 ?_
  refine l_sld hx hb hX hbl hbA hw.2.2 h1 ev1 dL_law_481 ?_
  refine cV (As := [.int u1]) (rest := []) ⟨hx, hb, hml, hown, hts⟩ hG hA hw (c_X7_fault G l a ha _ S u1 r hfx) (cwV 1 hts gL_law_X7_fault rfl rfl rfl (by decide +kernel) ⟨Nat.le_of_ble_eq_true rfl, Nat.le_of_ble_eq_true rfl⟩) (va_recv hG.1 hw.1 (ci := 7) (q0 := 0) rfl rfl) rfl hl.1 rfl (Nat.le_of_ble_eq_true rfl) dL_law_482 ⟨by show _ ≤ 600000; omega, by show _ ≤ 7302249; omega⟩ (fun H locs hw => ?_)
  replace hw := wd_toM hw
  refine lv_aload_n hx hb dL_law_485 rfl (lv_at hl 3 rfl) ?_
  refine lv_aload_n hx hb dL_law_486 rfl (lv_at hl 1 rfl) ?_
  refine lv_iload_n hx hb dL_law_487 rfl (lv_at hl 0 rfl) ?_
  refine lv_iconst (v := 1) hx hb dL_law_488 (by decide) ?_
  refine lv_iadd hx hb dL_law_489 ?_
  refine l_sld hx hb hX hbl hbA hw.2.2 h1 ev1 dL_law_490 ?_
  refine cV (As := [.int u1]) (rest := [.int r]) ⟨hx, hb, hml, hown, hts⟩ hG hA hw (c_X8_fault G l b2 _ T u1 r hfm) (cwV 1 hts gL_law_X8_fault rfl rfl rfl (by decide +kernel) ⟨Nat.le_of_ble_eq_true rfl, Nat.le_of_ble_eq_true rfl⟩) (va_recv hG.1 hw.1 (ci := 8) (q0 := 0) rfl rfl) rfl hl.1 rfl (Nat.le_of_ble_eq_true rfl) dL_law_491 ⟨by show _ ≤ 600000; omega, by show _ ≤ 7302249; omega⟩ (fun H locs hw => ?_)
  replace hw := wd_toX hw
  refine lv_icmp_eq (tgt := 1133) hx hb dL_law_494 (by decide) (fun _ => ?_) (fun c0 => absurd rfl c0)
  refine W.widen (k := 200 + (k + 1)) (n := 100000 + 15 * (k + 1)) (by omega) (by omega) ?_
  exact go _ _ _ _ _ _ _ hR2 ha hw hl
