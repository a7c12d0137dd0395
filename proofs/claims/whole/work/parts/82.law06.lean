set_option maxHeartbeats 4000000 in
set_option maxRecDepth 100000 in
theorem law_asked {p : Program} {l : Launch} {e : Env} {s : State} {m : MethodId} {below : List Frame} {meth : Method} {c : Code} {G : GP} {b L : Nat} {xs : Nat → Int32} (hL : L ≤ 4096) (C0 : lw_At p s m meth c b L xs) (hG : Gb G (fun q : Nat => s.heap.size ≤ q) s s.heap) (hO : Ao s) {k : Nat} (hk : 8 * k + 8 ≤ L) {x3 : Int32} (e3 : x3 = nI (8 * k)) (go : ∀ (S T : St) (a b2 : Nat → Nat) (H : Heap) (locs : List Loc) (ls : Array Slot), Rel S T → a 45 = G.2.2.1 → Wd G (fun q : Nat => s.heap.size ≤ q) s H locs (xw G.2.1 a (mw G.2.1 b2 [] T) S) → lv_has ls 4 [(3, .int x3), (0, .ref b), (1, .ref (a 0)), (2, .ref (b2 0))] → W p l e room_1 s m #[Value.ref b] below meth c H locs (200 + (k + 1)) (100000 + 15 * (k + 1)) (lw_Z below #[Value.ref b] s) (F0 m 1133 ls [])) {S T : St} (hR : Rel S T) {a b2 : Nat → Nat} (ha : a 45 = G.2.2.1) {H : Heap} {locs : List Loc} (hw : Wd G (fun q : Nat => s.heap.size ≤ q) s H locs (xw G.2.1 a (mw G.2.1 b2 [] T) S)) {ls : Array Slot} (hl : lv_has ls 4 [(3, .int x3), (0, .ref b), (1, .ref (a 0)), (2, .ref (b2 0))]) : W p l e room_1 s m #[Value.ref b] below meth c H locs (200 + k) (100000 + 15 * k) (lw_Z below #[Value.ref b] s) (F0 m 850 ls []) := by
  obtain ⟨hx, hb, hr, hml, hown, hts0, hX, hbl, hlocks, hgv⟩ := C0
  have hts : ∀ w ∈ wsL_law, w.before #[Value.ref b] s = true := fun w h => hts0 w (wsL_law_in w h)
  have hA : ∀ q : Nat, s.heap.size ≤ q → (fun q : Nat => s.heap.size ≤ q) q := fun _ h => h
  have hbA : ¬ (fun q : Nat => s.heap.size ≤ q) b := Nat.not_le.mpr hbl
  have h1 : vp_in (x3 + 1) L := by rw [e3, show (1 : Int32) = nI 1 from rfl, nI_add]; exact vp_in_nI (by omega) (by omega)
  obtain ⟨u1, ev1⟩ : ∃ z, xs (x3 + 1).toNatClampNeg = z := ⟨_, rfl⟩
  obtain ⟨r, S2, T2, hfx, hfm, hR2⟩ := op_asked hR u1
  obtain ⟨hfx, h8⟩ := hfx
  obtain ⟨hfm, h9⟩ := hfm
  rw [h8, h9] at hR2
  refine lv_aload_n hx hb dL_law_850 rfl (lv_at hl 2 rfl) ?_
  refine lv_aload_n hx hb dL_law_851 rfl (lv_at hl 1 rfl) ?_
  refine lv_iload_n hx hb dL_law_852 rfl (lv_at hl 0 rfl) ?_
  refine lv_iconst (v := 1) hx hb dL_law_853 (by decide) ?_
  refine lv_iadd hx hb dL_law_854 ?_
  refine l_sld hx hb hX hbl hbA hw.2.2 h1 ev1 dL_law_855 ?_
  refine cV (As := [.int u1]) (rest := []) ⟨hx, hb, hml, hown, hts⟩ hG hA hw (c_X7_asked G l a ha _ S u1 r hfx) (cwV 1 hts gL_law_X7_asked rfl rfl rfl (by decide +kernel) ⟨Nat.le_of_ble_eq_true rfl, Nat.le_of_ble_eq_true rfl⟩) (va_recv hG.1 hw.1 (ci := 7) (q0 := 0) rfl rfl) rfl hl.1 rfl (Nat.le_of_ble_eq_true rfl) dL_law_856 ⟨by show _ ≤ 600000; omega, by show _ ≤ 7302249; omega⟩ (fun H locs hw => ?_)
  replace hw := wd_toM hw
  refine lv_aload_n hx hb dL_law_859 rfl (lv_at hl 3 rfl) ?_
  refine lv_aload_n hx hb dL_law_860 rfl (lv_at hl 1 rfl) ?_
  refine lv_iload_n hx hb dL_law_861 rfl (lv_at hl 0 rfl) ?_
  refine lv_iconst (v := 1) hx hb dL_law_862 (by decide) ?_
  refine lv_iadd hx hb dL_law_863 ?_
  refine l_sld hx hb hX hbl hbA hw.2.2 h1 ev1 dL_law_864 ?_
  refine cV (As := [.int u1]) (rest := [.int r]) ⟨hx, hb, hml, hown, hts⟩ hG hA hw (c_X8_asked G l b2 _ T u1 r hfm) (cwV 1 hts gL_law_X8_asked rfl rfl rfl (by decide +kernel) ⟨Nat.le_of_ble_eq_true rfl, Nat.le_of_ble_eq_true rfl⟩) (va_recv hG.1 hw.1 (ci := 8) (q0 := 0) rfl rfl) rfl hl.1 rfl (Nat.le_of_ble_eq_true rfl) dL_law_865 ⟨by show _ ≤ 600000; omega, by show _ ≤ 7302249; omega⟩ (fun H locs hw => ?_)
  replace hw := wd_toX hw
  refine lv_icmp_eq (tgt := 1133) hx hb dL_law_868 (by decide) (fun _ => ?_) (fun c0 => absurd rfl c0)
  refine W.widen (k := 200 + (k + 1)) (n := 100000 + 15 * (k + 1)) (by omega) (by omega) ?_
  exact go _ _ _ _ _ _ _ hR2 ha hw hl
set_option maxHeartbeats 4000000 in
set_option maxRecDepth 100000 in
theorem law_answer {p : Program} {l : Launch} {e : Env} {s : State} {m : MethodId} {below : List Frame} {meth : Method} {c : Code} {G : GP} {b L : Nat} {xs : Nat → Int32} (hL : L ≤ 4096) (C0 : lw_At p s m meth c b L xs) (hG : Gb G (fun q : Nat => s.heap.size ≤ q) s s.heap) (hO : Ao s) {k : Nat} (hk : 8 * k + 8 ≤ L) {x3 : Int32} (e3 : x3 = nI (8 * k)) (go : ∀ (S T : St) (a b2 : Nat → Nat) (H : Heap) (locs : List Loc) (ls : Array Slot), Rel S T → a 45 = G.2.2.1 → Wd G (fun q : Nat => s.heap.size ≤ q) s H locs (xw G.2.1 a (mw G.2.1 b2 [] T) S) → lv_has ls 4 [(3, .int x3), (0, .ref b), (1, .ref (a 0)), (2, .ref (b2 0))] → W p l e room_1 s m #[Value.ref b] below meth c H locs (200 + (k + 1)) (100000 + 15 * (k + 1)) (lw_Z below #[Value.ref b] s) (F0 m 1133 ls [])) {S T : St} (hR : Rel S T) {a b2 : Nat → Nat} (ha : a 45 = G.2.2.1) {H : Heap} {locs : List Loc} (hw : Wd G (fun q : Nat => s.heap.size ≤ q) s H locs (xw G.2.1 a (mw G.2.1 b2 [] T) S)) {ls : Array Slot} (hl : lv_has ls 4 [(3, .int x3), (0, .ref b), (1, .ref (a 0)), (2, .ref (b2 0))]) : W p l e room_1 s m #[Value.ref b] below meth c H locs (200 + k) (100000 + 15 * k) (lw_Z below #[Value.ref b] s) (F0 m 873 ls []) := by
  obtain ⟨hx, hb, hr, hml, hown, hts0, hX, hbl, hlocks, hgv⟩ := C0
  have hts : ∀ w ∈ wsL_law, w.before #[Value.ref b] s = true := fun w h => hts0 w (wsL_law_in w h)
  have hA : ∀ q : Nat, s.heap.size ≤ q → (fun q : Nat => s.heap.size ≤ q) q := fun _ h => h
  have hbA : ¬ (fun q : Nat => s.heap.size ≤ q) b := Nat.not_le.mpr hbl
  have h1 : vp_in (x3 + 1) L := by rw [e3, show (1 : Int32) = nI 1 from rfl, nI_add]; exact vp_in_nI (by omega) (by omega)
  obtain ⟨u1, ev1⟩ : ∃ z, xs (x3 + 1).toNatClampNeg = z := ⟨_, rfl⟩
  have h2 : vp_in (x3 + 2) L := by rw [e3, show (2 : Int32) = nI 2 from rfl, nI_add]; exact vp_in_nI (by omega) (by omega)
  obtain ⟨u2, ev2⟩ : ∃ z, xs (x3 + 2).toNatClampNeg = z := ⟨_, rfl⟩
  by_cases cz2 : u2 = 0
  · obtain ⟨r, S2, T2, hfx, hfm, hR2⟩ := op_answer hR u1 0 (Or.inl rfl)
    refine lv_aload_n hx hb dL_law_873 rfl (lv_at hl 2 rfl) ?_
    refine lv_aload_n hx hb dL_law_874 rfl (lv_at hl 1 rfl) ?_
    refine lv_iload_n hx hb dL_law_875 rfl (lv_at hl 0 rfl) ?_
    refine lv_iconst (v := 1) hx hb dL_law_876 (by decide) ?_
    refine lv_iadd hx hb dL_law_877 ?_
    refine l_sld hx hb hX hbl hbA hw.2.2 h1 ev1 dL_law_878 ?_
    refine lv_aload_n hx hb dL_law_879 rfl (lv_at hl 1 rfl) ?_
    refine lv_iload_n hx hb dL_law_880 rfl (lv_at hl 0 rfl) ?_
    refine lv_iconst (v := 2) hx hb dL_law_881 (by decide) ?_
    refine lv_iadd hx hb dL_law_882 ?_
    refine l_sld hx hb hX hbl hbA hw.2.2 h2 ev2 dL_law_883 ?_
    refine lv_if_eq (tgt := 891) hx hb dL_law_884 (by decide) (fun _ => ?_) (fun c0 => absurd cz2 c0)
    refine lv_iconst (v := 0) hx hb dL_law_891 (by decide) ?_
    refine cV (As := [.int u1, .int 0]) (rest := []) ⟨hx, hb, hml, hown, hts⟩ hG hA hw (c_X7_answer G l a ha _ S u1 0 r S2 hfx) (cwV 2 hts gL_law_X7_answer rfl rfl rfl (by decide +kernel) ⟨Nat.le_of_ble_eq_true rfl, Nat.le_of_ble_eq_true rfl⟩) (va_recv hG.1 hw.1 (ci := 7) (q0 := 0) rfl rfl) rfl hl.1 rfl (Nat.le_of_ble_eq_true rfl) dL_law_892 ⟨by show _ ≤ 600000; omega, by show _ ≤ 7302249; omega⟩ (fun H locs hw => ?_)
    replace hw := wd_toM hw
    refine lv_aload_n hx hb dL_law_895 rfl (lv_at hl 3 rfl) ?_
    refine lv_aload_n hx hb dL_law_896 rfl (lv_at hl 1 rfl) ?_
    refine lv_iload_n hx hb dL_law_897 rfl (lv_at hl 0 rfl) ?_
    refine lv_iconst (v := 1) hx hb dL_law_898 (by decide) ?_
    refine lv_iadd hx hb dL_law_899 ?_
    refine l_sld hx hb hX hbl hbA hw.2.2 h1 ev1 dL_law_900 ?_
    refine lv_aload_n hx hb dL_law_901 rfl (lv_at hl 1 rfl) ?_
    refine lv_iload_n hx hb dL_law_902 rfl (lv_at hl 0 rfl) ?_
    refine lv_iconst (v := 2) hx hb dL_law_903 (by decide) ?_
    refine lv_iadd hx hb dL_law_904 ?_
    refine l_sld hx hb hX hbl hbA hw.2.2 h2 ev2 dL_law_905 ?_
    refine lv_if_eq (tgt := 913) hx hb dL_law_906 (by decide) (fun _ => ?_) (fun c0 => absurd cz2 c0)
    refine lv_iconst (v := 0) hx hb dL_law_913 (by decide) ?_
    refine cV (As := [.int u1, .int 0]) (rest := [.int r]) ⟨hx, hb, hml, hown, hts⟩ hG hA hw (c_X8_answer G l b2 _ T u1 0 r T2 hfm) (cwV 2 hts gL_law_X8_answer rfl rfl rfl (by decide +kernel) ⟨Nat.le_of_ble_eq_true rfl, Nat.le_of_ble_eq_true rfl⟩) (va_recv hG.1 hw.1 (ci := 8) (q0 := 0) rfl rfl) rfl hl.1 rfl (Nat.le_of_ble_eq_true rfl) dL_law_914 ⟨by show _ ≤ 600000; omega, by show _ ≤ 7302249; omega⟩ (fun H locs hw => ?_)
    replace hw := wd_toX hw
    refine lv_icmp_eq (tgt := 1133) hx hb dL_law_917 (by decide) (fun _ => ?_) (fun c0 => absurd rfl c0)
    refine W.widen (k := 200 + (k + 1)) (n := 100000 + 15 * (k + 1)) (by omega) (by omega) ?_
    exact go _ _ _ _ _ _ _ hR2 ha hw hl
  · obtain ⟨r, S2, T2, hfx, hfm, hR2⟩ := op_answer hR u1 1 (Or.inr rfl)
    refine lv_aload_n hx hb dL_law_873 rfl (lv_at hl 2 rfl) ?_
    refine lv_aload_n hx hb dL_law_874 rfl (lv_at hl 1 rfl) ?_
    refine lv_iload_n hx hb dL_law_875 rfl (lv_at hl 0 rfl) ?_
    refine lv_iconst (v := 1) hx hb dL_law_876 (by decide) ?_
    refine lv_iadd hx hb dL_law_877 ?_
    refine l_sld hx hb hX hbl hbA hw.2.2 h1 ev1 dL_law_878 ?_
    refine lv_aload_n hx hb dL_law_879 rfl (lv_at hl 1 rfl) ?_
    refine lv_iload_n hx hb dL_law_880 rfl (lv_at hl 0 rfl) ?_
    refine lv_iconst (v := 2) hx hb dL_law_881 (by decide) ?_
    refine lv_iadd hx hb dL_law_882 ?_
    refine l_sld hx hb hX hbl hbA hw.2.2 h2 ev2 dL_law_883 ?_
    refine lv_if_eq (tgt := 891) hx hb dL_law_884 (by decide) (fun c0 => absurd c0 cz2) (fun _ => ?_)
    refine lv_iconst (v := 1) hx hb dL_law_887 (by decide) ?_
    refine lv_goto (tgt := 892) hx hb dL_law_888 (by decide) ?_
    refine cV (As := [.int u1, .int 1]) (rest := []) ⟨hx, hb, hml, hown, hts⟩ hG hA hw (c_X7_answer G l a ha _ S u1 1 r S2 hfx) (cwV 2 hts gL_law_X7_answer rfl rfl rfl (by decide +kernel) ⟨Nat.le_of_ble_eq_true rfl, Nat.le_of_ble_eq_true rfl⟩) (va_recv hG.1 hw.1 (ci := 7) (q0 := 0) rfl rfl) rfl hl.1 rfl (Nat.le_of_ble_eq_true rfl) dL_law_892 ⟨by show _ ≤ 600000; omega, by show _ ≤ 7302249; omega⟩ (fun H locs hw => ?_)
    replace hw := wd_toM hw
    refine lv_aload_n hx hb dL_law_895 rfl (lv_at hl 3 rfl) ?_
    refine lv_aload_n hx hb dL_law_896 rfl (lv_at hl 1 rfl) ?_
    refine lv_iload_n hx hb dL_law_897 rfl (lv_at hl 0 rfl) ?_
    refine lv_iconst (v := 1) hx hb dL_law_898 (by decide) ?_
    refine lv_iadd hx hb dL_law_899 ?_
    refine l_sld hx hb hX hbl hbA hw.2.2 h1 ev1 dL_law_900 ?_
    refine lv_aload_n hx hb dL_law_901 rfl (lv_at hl 1 rfl) ?_
    refine lv_iload_n hx hb dL_law_902 rfl (lv_at hl 0 rfl) ?_
    refine lv_iconst (v := 2) hx hb dL_law_903 (by decide) ?_
    refine lv_iadd hx hb dL_law_904 ?_
    refine l_sld hx hb hX hbl hbA hw.2.2 h2 ev2 dL_law_905 ?_
    refine lv_if_eq (tgt := 913) hx hb dL_law_906 (by decide) (fun c0 => absurd c0 cz2) (fun _ => ?_)
    refine lv_iconst (v := 1) hx hb dL_law_909 (by decide) ?_
    refine lv_goto (tgt := 914) hx hb dL_law_910 (by decide) ?_
    refine cV (As := [.int u1, .int 1]) (rest := [.int r]) ⟨hx, hb, hml, hown, hts⟩ hG hA hw (c_X8_answer G l b2 _ T u1 1 r T2 hfm) (cwV 2 hts gL_law_X8_answer rfl rfl rfl (by decide +kernel) ⟨Nat.le_of_ble_eq_true rfl, Nat.le_of_ble_eq_true rfl⟩) (va_recv hG.1 hw.1 (ci := 8) (q0 := 0) rfl rfl) rfl hl.1 rfl (Nat.le_of_ble_eq_true rfl) dL_law_914 ⟨by show _ ≤ 600000; omega, by show _ ≤ 7302249; omega⟩ (fun H locs hw => ?_)
    replace hw := wd_toX hw
    refine lv_icmp_eq (tgt := 1133) hx hb dL_law_917 (by decide) (fun _ => ?_) (fun c0 => absurd rfl c0)
    refine W.widen (k := 200 + (k + 1)) (n := 100000 + 15 * (k + 1)) (by omega) (by omega) ?_
    exact go _ _ _ _ _ _ _ hR2 ha hw hl
set_option maxHeartbeats 4000000 in
set_option maxRecDepth 100000 in
theorem law_told {p : Program} {l : Launch} {e : Env} {s : State} {m : MethodId} {below : List Frame} {meth : Method} {c : Code} {G : GP} {b L : Nat} {xs : Nat → Int32} (hL : L ≤ 4096) (C0 : lw_At p s m meth c b L xs) (hG : Gb G (fun q : Nat => s.heap.size ≤ q) s s.heap) (hO : Ao s) {k : Nat} (hk : 8 * k + 8 ≤ L) {x3 : Int32} (e3 : x3 = nI (8 * k)) (go : ∀ (S T : St) (a b2 : Nat → Nat) (H : Heap) (locs : List Loc) (ls : Array Slot), Rel S T → a 45 = G.2.2.1 → Wd G (fun q : Nat => s.heap.size ≤ q) s H locs (xw G.2.1 a (mw G.2.1 b2 [] T) S) → lv_has ls 4 [(3, .int x3), (0, .ref b), (1, .ref (a 0)), (2, .ref (b2 0))] → W p l e room_1 s m #[Value.ref b] below meth c H locs (200 + (k + 1)) (100000 + 15 * (k + 1)) (lw_Z below #[Value.ref b] s) (F0 m 1133 ls [])) {S T : St} (hR : Rel S T) {a b2 : Nat → Nat} (ha : a 45 = G.2.2.1) {H : Heap} {locs : List Loc} (hw : Wd G (fun q : Nat => s.heap.size ≤ q) s H locs (xw G.2.1 a (mw G.2.1 b2 [] T) S)) {ls : Array Slot} (hl : lv_has ls 4 [(3, .int x3), (0, .ref b), (1, .ref (a 0)), (2, .ref (b2 0))]) : W p l e room_1 s m #[Value.ref b] below meth c H locs (200 + k) (100000 + 15 * k) (lw_Z below #[Value.ref b] s) (F0 m 922 ls []) := by
  obtain ⟨hx, hb, hr, hml, hown, hts0, hX, hbl, hlocks, hgv⟩ := C0
  have hts : ∀ w ∈ wsL_law, w.before #[Value.ref b] s = true := fun w h => hts0 w (wsL_law_in w h)
  have hA : ∀ q : Nat, s.heap.size ≤ q → (fun q : Nat => s.heap.size ≤ q) q := fun _ h => h
  have hbA : ¬ (fun q : Nat => s.heap.size ≤ q) b := Nat.not_le.mpr hbl
  have h1 : vp_in (x3 + 1) L := by rw [e3, show (1 : Int32) = nI 1 from rfl, nI_add]; exact vp_in_nI (by omega) (by omega)
  obtain ⟨u1, ev1⟩ : ∃ z, xs (x3 + 1).toNatClampNeg = z := ⟨_, rfl⟩
  have h2 : vp_in (x3 + 2) L := by rw [e3, show (2 : Int32) = nI 2 from rfl, nI_add]; exact vp_in_nI (by omega) (by omega)
  obtain ⟨u2, ev2⟩ : ∃ z, xs (x3 + 2).toNatClampNeg = z := ⟨_, rfl⟩
  obtain ⟨r, S2, T2, hfx, hfm, hR2⟩ := op_told hR u1 u2
  obtain ⟨hfx, h8⟩ := hfx
  obtain ⟨hfm, h9⟩ := hfm
  rw [h8, h9] at hR2
  refine lv_aload_n hx hb dL_law_922 rfl (lv_at hl 2 rfl) ?_
  refine lv_aload_n hx hb dL_law_923 rfl (lv_at hl 1 rfl) ?_
  refine lv_iload_n hx hb dL_law_924 rfl (lv_at hl 0 rfl) ?_
  refine lv_iconst (v := 1) hx hb dL_law_925 (by decide) ?_
  refine lv_iadd hx hb dL_law_926 ?_
  refine l_sld hx hb hX hbl hbA hw.2.2 h1 ev1 dL_law_927 ?_
  refine lv_aload_n hx hb dL_law_928 rfl (lv_at hl 1 rfl) ?_
  refine lv_iload_n hx hb dL_law_929 rfl (lv_at hl 0 rfl) ?_
  refine lv_iconst (v := 2) hx hb dL_law_930 (by decide) ?_
  refine lv_iadd hx hb dL_law_931 ?_
  refine l_sld hx hb hX hbl hbA hw.2.2 h2 ev2 dL_law_932 ?_
  refine cV (As := [.int u1, .int u2]) (rest := []) ⟨hx, hb, hml, hown, hts⟩ hG hA hw (c_X7_told G l a ha _ S u1 u2 r hfx) (cwV 2 hts gL_law_X7_told rfl rfl rfl (by decide +kernel) ⟨Nat.le_of_ble_eq_true rfl, Nat.le_of_ble_eq_true rfl⟩) (va_recv hG.1 hw.1 (ci := 7) (q0 := 0) rfl rfl) rfl hl.1 rfl (Nat.le_of_ble_eq_true rfl) dL_law_933 ⟨by show _ ≤ 600000; omega, by show _ ≤ 7302249; omega⟩ (fun H locs hw => ?_)
  replace hw := wd_toM hw
  refine lv_aload_n hx hb dL_law_936 rfl (lv_at hl 3 rfl) ?_
  refine lv_aload_n hx hb dL_law_937 rfl (lv_at hl 1 rfl) ?_
  refine lv_iload_n hx hb dL_law_938 rfl (lv_at hl 0 rfl) ?_
  refine lv_iconst (v := 1) hx hb dL_law_939 (by decide) ?_
  refine lv_iadd hx hb dL_law_940 ?_
  refine l_sld hx hb hX hbl hbA hw.2.2 h1 ev1 dL_law_941 ?_
  refine lv_aload_n hx hb dL_law_942 rfl (lv_at hl 1 rfl) ?_
  refine lv_iload_n hx hb dL_law_943 rfl (lv_at hl 0 rfl) ?_
  refine lv_iconst (v := 2) hx hb dL_law_944 (by decide) ?_
  refine lv_iadd hx hb dL_law_945 ?_
  refine l_sld hx hb hX hbl hbA hw.2.2 h2 ev2 dL_law_946 ?_
  refine cV (As := [.int u1, .int u2]) (rest := [.int r]) ⟨hx, hb, hml, hown, hts⟩ hG hA hw (c_X8_told G l b2 _ T u1 u2 r hfm) (cwV 2 hts gL_law_X8_told rfl rfl rfl (by decide +kernel) ⟨Nat.le_of_ble_eq_true rfl, Nat.le_of_ble_eq_true rfl⟩) (va_recv hG.1 hw.1 (ci := 8) (q0 := 0) rfl rfl) rfl hl.1 rfl (Nat.le_of_ble_eq_true rfl) dL_law_947 ⟨by show _ ≤ 600000; omega, by show _ ≤ 7302249; omega⟩ (fun H locs hw => ?_)
  replace hw := wd_toX hw
  refine lv_icmp_eq (tgt := 1133) hx hb dL_law_950 (by decide) (fun _ => ?_) (fun c0 => absurd rfl c0)
  refine W.widen (k := 200 + (k + 1)) (n := 100000 + 15 * (k + 1)) (by omega) (by omega) ?_
  exact go _ _ _ _ _ _ _ hR2 ha hw hl
