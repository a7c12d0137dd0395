set_option maxHeartbeats 4000000 in
set_option maxRecDepth 100000 in
theorem law_feed {p : Program} {l : Launch} {e : Env} {s : State} {m : MethodId} {below : List Frame} {meth : Method} {c : Code} {G : GP} {b L : Nat} {xs : Nat → Int32} (hL : L ≤ 4096) (C0 : lw_At p s m meth c b L xs) (hG : Gb G (fun q : Nat => s.heap.size ≤ q) s s.heap) (hO : Ao s) {k : Nat} (hk : 8 * k + 8 ≤ L) {x3 : Int32} (e3 : x3 = nI (8 * k)) (go : ∀ (S T : St) (a b2 : Nat → Nat) (H : Heap) (locs : List Loc) (ls : Array Slot), Rel S T → a 45 = G.2.2.1 → Wd G (fun q : Nat => s.heap.size ≤ q) s H locs (xw G.2.1 a (mw G.2.1 b2 [] T) S) → lv_has ls 4 [(3, .int x3), (0, .ref b), (1, .ref (a 0)), (2, .ref (b2 0))] → W p l e room_1 s m #[Value.ref b] below meth c H locs (200 + (k + 1)) (100000 + 15 * (k + 1)) (lw_Z below #[Value.ref b] s) (F0 m 1133 ls [])) {S T : St} (hR : Rel S T) {a b2 : Nat → Nat} (ha : a 45 = G.2.2.1) {H : Heap} {locs : List Loc} (hw : Wd G (fun q : Nat => s.heap.size ≤ q) s H locs (xw G.2.1 a (mw G.2.1 b2 [] T) S)) {ls : Array Slot} (hl : lv_has ls 4 [(3, .int x3), (0, .ref b), (1, .ref (a 0)), (2, .ref (b2 0))]) : W p l e room_1 s m #[Value.ref b] below meth c H locs (200 + k) (100000 + 15 * k) (lw_Z below #[Value.ref b] s) (F0 m 156 ls []) := by
  obtain ⟨hx, hb, hr, hml, hown, hts0, hX, hbl, hlocks, hgv⟩ := C0
  have hts : ∀ w ∈ wsL_law, w.before #[Value.ref b] s = true := fun w h => hts0 w (wsL_law_in w h)
  have hA : ∀ q : Nat, s.heap.size ≤ q → (fun q : Nat => s.heap.size ≤ q) q := fun _ h => h
  have hbA : ¬ (fun q : Nat => s.heap.size ≤ q) b := Nat.not_le.mpr hbl
  have h1 : vp_in (x3 + 1) L := by rw [e3, show (1 : Int32) = nI 1 from rfl, nI_add]; exact vp_in_nI (by omega) (by omega)
  obtain ⟨u1, ev1⟩ : ∃ z, xs (x3 + 1).toNatClampNeg = z := ⟨_, rfl⟩
  have h2 : vp_in (x3 + 2) L := by rw [e3, show (2 : Int32) = nI 2 from rfl, nI_add]; exact vp_in_nI (by omega) (by omega)
  obtain ⟨u2, ev2⟩ : ∃ z, xs (x3 + 2).toNatClampNeg = z := ⟨_, rfl⟩
  have h3 : vp_in (x3 + 3) L := by rw [e3, show (3 : Int32) = nI 3 from rfl, nI_add]; exact vp_in_nI (by omega) (by omega)
  obtain ⟨u3, ev3⟩ : ∃ z, xs (x3 + 3).toNatClampNeg = z := ⟨_, rfl⟩
  have h4 : vp_in (x3 + 4) L := by rw [e3, show (4 : Int32) = nI 4 from rfl, nI_add]; exact vp_in_nI (by omega) (by omega)
  obtain ⟨u4, ev4⟩ : ∃ z, xs (x3 + 4).toNatClampNeg = z := ⟨_, rfl⟩
  have h5 : vp_in (x3 + 5) L := by rw [e3, show (5 : Int32) = nI 5 from rfl, nI_add]; exact vp_in_nI (by omega) (by omega)
  obtain ⟨u5, ev5⟩ : ∃ z, xs (x3 + 5).toNatClampNeg = z := ⟨_, rfl⟩
  obtain ⟨r, S2, T2, hfx, hfm, hR2⟩ := op_feed hR u1 u2 u3 u4 u5
  refine lv_aload_n hx hb dL_law_156 rfl (lv_at hl 2 rfl) ?_
  refine lv_aload_n hx hb dL_law_157 rfl (lv_at hl 1 rfl) ?_
  refine lv_iload_n hx hb dL_law_158 rfl (lv_at hl 0 rfl) ?_
  refine lv_iconst (v := 1) hx hb dL_law_159 (by decide) ?_
  refine lv_iadd hx hb dL_law_160 ?_
  refine l_sld hx hb hX hbl hbA hw.2.2 h1 ev1 dL_law_161 ?_
  refine lv_aload_n hx hb dL_law_162 rfl (lv_at hl 1 rfl) ?_
  refine lv_iload_n hx hb dL_law_163 rfl (lv_at hl 0 rfl) ?_
  refine lv_iconst (v := 2) hx hb dL_law_164 (by decide) ?_
  refine lv_iadd hx hb dL_law_165 ?_
  refine l_sld hx hb hX hbl hbA hw.2.2 h2 ev2 dL_law_166 ?_
  refine lv_aload_n hx hb dL_law_167 rfl (lv_at hl 1 rfl) ?_
  refine lv_iload_n hx hb dL_law_168 rfl (lv_at hl 0 rfl) ?_
  refine lv_iconst (v := 3) hx hb dL_law_169 (by decide) ?_
  refine lv_iadd hx hb dL_law_170 ?_
  refine l_sld hx hb hX hbl hbA hw.2.2 h3 ev3 dL_law_171 ?_
  refine lv_aload_n hx hb dL_law_172 rfl (lv_at hl 1 rfl) ?_
  refine lv_iload_n hx hb dL_law_173 rfl (lv_at hl 0 rfl) ?_
  refine lv_iconst (v := 4) hx hb dL_law_174 (by decide) ?_
  refine lv_iadd hx hb dL_law_175 ?_
  refine l_sld hx hb hX hbl hbA hw.2.2 h4 ev4 dL_law_176 ?_
  refine lv_aload_n hx hb dL_law_177 rfl (lv_at hl 1 rfl) ?_
  refine lv_iload_n hx hb dL_law_178 rfl (lv_at hl 0 rfl) ?_
  refine lv_iconst (v := 5) hx hb dL_law_179 (by decide) ?_
  refine lv_iadd hx hb dL_law_180 ?_
  refine l_sld hx hb hX hbl hbA hw.2.2 h5 ev5 dL_law_181 ?_
  refine cV (As := [.int u1, .int u2, .int u3, .int u4, .int u5]) (rest := []) ⟨hx, hb, hml, hown, hts⟩ hG hA hw (c_X7_feed G l a ha _ S u1 u2 u3 u4 u5 r S2 hfx) (cwV 5 hts gL_law_X7_feed rfl rfl rfl (by decide +kernel) ⟨Nat.le_of_ble_eq_true rfl, Nat.le_of_ble_eq_true rfl⟩) (va_recv hG.1 hw.1 (ci := 7) (q0 := 0) rfl rfl) rfl hl.1 rfl (Nat.le_of_ble_eq_true rfl) dL_law_182 ⟨by show _ ≤ 600000; omega, by show _ ≤ 7302249; omega⟩ (fun H locs hw => ?_)
  replace hw := wd_toM hw
  refine lv_aload_n hx hb dL_law_185 rfl (lv_at hl 3 rfl) ?_
  refine lv_aload_n hx hb dL_law_186 rfl (lv_at hl 1 rfl) ?_
  refine lv_iload_n hx hb dL_law_187 rfl (lv_at hl 0 rfl) ?_
  refine lv_iconst (v := 1) hx hb dL_law_188 (by decide) ?_
  refine lv_iadd hx hb dL_law_189 ?_
  refine l_sld hx hb hX hbl hbA hw.2.2 h1 ev1 dL_law_190 ?_
  refine lv_aload_n hx hb dL_law_191 rfl (lv_at hl 1 rfl) ?_
  refine lv_iload_n hx hb dL_law_192 rfl (lv_at hl 0 rfl) ?_
  refine lv_iconst (v := 2) hx hb dL_law_193 (by decide) ?_
  refine lv_iadd hx hb dL_law_194 ?_
  refine l_sld hx hb hX hbl hbA hw.2.2 h2 ev2 dL_law_195 ?_
  refine lv_aload_n hx hb dL_law_196 rfl (lv_at hl 1 rfl) ?_
  refine lv_iload_n hx hb dL_law_197 rfl (lv_at hl 0 rfl) ?_
  refine lv_iconst (v := 3) hx hb dL_law_198 (by decide) ?_
  refine lv_iadd hx hb dL_law_199 ?_
  refine l_sld hx hb hX hbl hbA hw.2.2 h3 ev3 dL_law_200 ?_
  refine lv_aload_n hx hb dL_law_201 rfl (lv_at hl 1 rfl) ?_
  refine lv_iload_n hx hb dL_law_202 rfl (lv_at hl 0 rfl) ?_
  refine lv_iconst (v := 4) hx hb dL_law_203 (by decide) ?_
  refine lv_iadd hx hb dL_law_204 ?_
  refine l_sld hx hb hX hbl hbA hw.2.2 h4 ev4 dL_law_205 ?_
  refine lv_aload_n hx hb dL_law_206 rfl (lv_at hl 1 rfl) ?_
  refine lv_iload_n hx hb dL_law_207 rfl (lv_at hl 0 rfl) ?_
  refine lv_iconst (v := 5) hx hb dL_law_208 (by decide) ?_
  refine lv_iadd hx hb dL_law_209 ?_
  refine l_sld hx hb hX hbl hbA hw.2.2 h5 ev5 dL_law_210 ?_
  refine cV (As := [.int u1, .int u2, .int u3, .int u4, .int u5]) (rest := [.int r]) ⟨hx, hb, hml, hown, hts⟩ hG hA hw (c_X8_feed G l b2 _ T u1 u2 u3 u4 u5 r T2 hfm) (cwV 5 hts gL_law_X8_feed rfl rfl rfl (by decide +kernel) ⟨Nat.le_of_ble_eq_true rfl, Nat.le_of_ble_eq_true rfl⟩) (va_recv hG.1 hw.1 (ci := 8) (q0 := 0) rfl rfl) rfl hl.1 rfl (Nat.le_of_ble_eq_true rfl) dL_law_211 ⟨by show _ ≤ 600000; omega, by show _ ≤ 7302249; omega⟩ (fun H locs hw => ?_)
  replace hw := wd_toX hw
  refine lv_icmp_eq (tgt := 1133) hx hb dL_law_214 (by decide) (fun _ => ?_) (fun c0 => absurd rfl c0)
  refine W.widen (k := 200 + (k + 1)) (n := 100000 + 15 * (k + 1)) (by omega) (by omega) ?_
  exact go _ _ _ _ _ _ _ hR2 ha hw hl
set_option maxHeartbeats 4000000 in
set_option maxRecDepth 100000 in
theorem law_end {p : Program} {l : Launch} {e : Env} {s : State} {m : MethodId} {below : List Frame} {meth : Method} {c : Code} {G : GP} {b L : Nat} {xs : Nat → Int32} (hL : L ≤ 4096) (C0 : lw_At p s m meth c b L xs) (hG : Gb G (fun q : Nat => s.heap.size ≤ q) s s.heap) (hO : Ao s) {k : Nat} (hk : 8 * k + 8 ≤ L) {x3 : Int32} (e3 : x3 = nI (8 * k)) (go : ∀ (S T : St) (a b2 : Nat → Nat) (H : Heap) (locs : List Loc) (ls : Array Slot), Rel S T → a 45 = G.2.2.1 → Wd G (fun q : Nat => s.heap.size ≤ q) s H locs (xw G.2.1 a (mw G.2.1 b2 [] T) S) → lv_has ls 4 [(3, .int x3), (0, .ref b), (1, .ref (a 0)), (2, .ref (b2 0))] → W p l e room_1 s m #[Value.ref b] below meth c H locs (200 + (k + 1)) (100000 + 15 * (k + 1)) (lw_Z below #[Value.ref b] s) (F0 m 1133 ls [])) {S T : St} (hR : Rel S T) {a b2 : Nat → Nat} (ha : a 45 = G.2.2.1) {H : Heap} {locs : List Loc} (hw : Wd G (fun q : Nat => s.heap.size ≤ q) s H locs (xw G.2.1 a (mw G.2.1 b2 [] T) S)) {ls : Array Slot} (hl : lv_has ls 4 [(3, .int x3), (0, .ref b), (1, .ref (a 0)), (2, .ref (b2 0))]) : W p l e room_1 s m #[Value.ref b] below meth c H locs (200 + k) (100000 + 15 * k) (lw_Z below #[Value.ref b] s) (F0 m 219 ls []) := by
  obtain ⟨hx, hb, hr, hml, hown, hts0, hX, hbl, hlocks, hgv⟩ := C0
  have hts : ∀ w ∈ wsL_law, w.before #[Value.ref b] s = true := fun w h => hts0 w (wsL_law_in w h)
  have hA : ∀ q : Nat, s.heap.size ≤ q → (fun q : Nat => s.heap.size ≤ q) q := fun _ h => h
  have hbA : ¬ (fun q : Nat => s.heap.size ≤ q) b := Nat.not_le.mpr hbl
  have h1 : vp_in (x3 + 1) L := by rw [e3, show (1 : Int32) = nI 1 from rfl, nI_add]; exact vp_in_nI (by omega) (by omega)
  obtain ⟨u1, ev1⟩ : ∃ z, xs (x3 + 1).toNatClampNeg = z := ⟨_, rfl⟩
  obtain ⟨r, S2, T2, hfx, hfm, hR2⟩ := op_end hR u1
  refine lv_aload_n hx hb dL_law_219 rfl (lv_at hl 2 rfl) ?_
  refine lv_aload_n hx hb dL_law_220 rfl (lv_at hl 1 rfl) ?_
  refine lv_iload_n hx hb dL_law_221 rfl (lv_at hl 0 rfl) ?_
  refine lv_iconst (v := 1) hx hb dL_law_222 (by decide) ?_
  refine lv_iadd hx hb dL_law_223 ?_
  refine l_sld hx hb hX hbl hbA hw.2.2 h1 ev1 dL_law_224 ?_
  refine cV (As := [.int u1]) (rest := []) ⟨hx, hb, hml, hown, hts⟩ hG hA hw (c_X7_end G l a ha _ S u1 r S2 hfx) (cwV 1 hts gL_law_X7_end rfl rfl rfl (by decide +kernel) ⟨Nat.le_of_ble_eq_true rfl, Nat.le_of_ble_eq_true rfl⟩) (va_recv hG.1 hw.1 (ci := 7) (q0 := 0) rfl rfl) rfl hl.1 rfl (Nat.le_of_ble_eq_true rfl) dL_law_225 ⟨by show _ ≤ 600000; omega, by show _ ≤ 7302249; omega⟩ (fun H locs hw => ?_)
  replace hw := wd_toM hw
  refine lv_aload_n hx hb dL_law_228 rfl (lv_at hl 3 rfl) ?_
  refine lv_aload_n hx hb dL_law_229 rfl (lv_at hl 1 rfl) ?_
  refine lv_iload_n hx hb dL_law_230 rfl (lv_at hl 0 rfl) ?_
  refine lv_iconst (v := 1) hx hb dL_law_231 (by decide) ?_
  refine lv_iadd hx hb dL_law_232 ?_
  refine l_sld hx hb hX hbl hbA hw.2.2 h1 ev1 dL_law_233 ?_
  refine cV (As := [.int u1]) (rest := [.int r]) ⟨hx, hb, hml, hown, hts⟩ hG hA hw (c_X8_end G l b2 _ T u1 r T2 hfm) (cwV 1 hts gL_law_X8_end rfl rfl rfl (by decide +kernel) ⟨Nat.le_of_ble_eq_true rfl, Nat.le_of_ble_eq_true rfl⟩) (va_recv hG.1 hw.1 (ci := 8) (q0 := 0) rfl rfl) rfl hl.1 rfl (Nat.le_of_ble_eq_true rfl) dL_law_234 ⟨by show _ ≤ 600000; omega, by show _ ≤ 7302249; omega⟩ (fun H locs hw => ?_)
  replace hw := wd_toX hw
  refine lv_icmp_eq (tgt := 1133) hx hb dL_law_237 (by decide) (fun _ => ?_) (fun c0 => absurd rfl c0)
  refine W.widen (k := 200 + (k + 1)) (n := 100000 + 15 * (k + 1)) (by omega) (by omega) ?_
  exact go _ _ _ _ _ _ _ hR2 ha hw hl
set_option maxHeartbeats 4000000 in
set_option maxRecDepth 100000 in
theorem law_enter {p : Program} {l : Launch} {e : Env} {s : State} {m : MethodId} {below : List Frame} {meth : Method} {c : Code} {G : GP} {b L : Nat} {xs : Nat → Int32} (hL : L ≤ 4096) (C0 : lw_At p s m meth c b L xs) (hG : Gb G (fun q : Nat => s.heap.size ≤ q) s s.heap) (hO : Ao s) {k : Nat} (hk : 8 * k + 8 ≤ L) {x3 : Int32} (e3 : x3 = nI (8 * k)) (go : ∀ (S T : St) (a b2 : Nat → Nat) (H : Heap) (locs : List Loc) (ls : Array Slot), Rel S T → a 45 = G.2.2.1 → Wd G (fun q : Nat => s.heap.size ≤ q) s H locs (xw G.2.1 a (mw G.2.1 b2 [] T) S) → lv_has ls 4 [(3, .int x3), (0, .ref b), (1, .ref (a 0)), (2, .ref (b2 0))] → W p l e room_1 s m #[Value.ref b] below meth c H locs (200 + (k + 1)) (100000 + 15 * (k + 1)) (lw_Z below #[Value.ref b] s) (F0 m 1133 ls [])) {S T : St} (hR : Rel S T) {a b2 : Nat → Nat} (ha : a 45 = G.2.2.1) {H : Heap} {locs : List Loc} (hw : Wd G (fun q : Nat => s.heap.size ≤ q) s H locs (xw G.2.1 a (mw G.2.1 b2 [] T) S)) {ls : Array Slot} (hl : lv_has ls 4 [(3, .int x3), (0, .ref b), (1, .ref (a 0)), (2, .ref (b2 0))]) : W p l e room_1 s m #[Value.ref b] below meth c H locs (200 + k) (100000 + 15 * k) (lw_Z below #[Value.ref b] s) (F0 m 242 ls []) := by
  obtain ⟨hx, hb, hr, hml, hown, hts0, hX, hbl, hlocks, hgv⟩ := C0
  have hts : ∀ w ∈ wsL_law, w.before #[Value.ref b] s = true := fun w h => hts0 w (wsL_law_in w h)
  have hA : ∀ q : Nat, s.heap.size ≤ q → (fun q : Nat => s.heap.size ≤ q) q := fun _ h => h
  have hbA : ¬ (fun q : Nat => s.heap.size ≤ q) b := Nat.not_le.mpr hbl
  have h1 : vp_in (x3 + 1) L := by rw [e3, show (1 : Int32) = nI 1 from rfl, nI_add]; exact vp_in_nI (by omega) (by omega)
  obtain ⟨u1, ev1⟩ : ∃ z, xs (x3 + 1).toNatClampNeg = z := ⟨_, rfl⟩
  have h2 : vp_in (x3 + 2) L := by rw [e3, show (2 : Int32) = nI 2 from rfl, nI_add]; exact vp_in_nI (by omega) (by omega)
  obtain ⟨u2, ev2⟩ : ∃ z, xs (x3 + 2).toNatClampNeg = z := ⟨_, rfl⟩
  have h3 : vp_in (x3 + 3) L := by rw [e3, show (3 : Int32) = nI 3 from rfl, nI_add]; exact vp_in_nI (by omega) (by omega)
  obtain ⟨u3, ev3⟩ : ∃ z, xs (x3 + 3).toNatClampNeg = z := ⟨_, rfl⟩
  obtain ⟨r, S2, T2, hfx, hfm, hR2⟩ := op_enter hR u1 u2 u3
  refine lv_aload_n hx hb dL_law_242 rfl (lv_at hl 2 rfl) ?_
  refine lv_aload_n hx hb dL_law_243 rfl (lv_at hl 1 rfl) ?_
  refine lv_iload_n hx hb dL_law_244 rfl (lv_at hl 0 rfl) ?_
  refine lv_iconst (v := 1) hx hb dL_law_245 (by decide) ?_
  refine lv_iadd hx hb dL_law_246 ?_
  refine l_sld hx hb hX hbl hbA hw.2.2 h1 ev1 dL_law_247 ?_
  refine lv_aload_n hx hb dL_law_248 rfl (lv_at hl 1 rfl) ?_
  refine lv_iload_n hx hb dL_law_249 rfl (lv_at hl 0 rfl) ?_
  refine lv_iconst (v := 2) hx hb dL_law_250 (by decide) ?_
  refine lv_iadd hx hb dL_law_251 ?_
  refine l_sld hx hb hX hbl hbA hw.2.2 h2 ev2 dL_law_252 ?_
  refine lv_aload_n hx hb dL_law_253 rfl (lv_at hl 1 rfl) ?_
  refine lv_iload_n hx hb dL_law_254 rfl (lv_at hl 0 rfl) ?_
  refine lv_iconst (v := 3) hx hb dL_law_255 (by decide) ?_
  refine lv_iadd hx hb dL_law_256 ?_
  refine l_sld hx hb hX hbl hbA hw.2.2 h3 ev3 dL_law_257 ?_
  refine cV (As := [.int u1, .int u2, .int u3]) (rest := []) ⟨hx, hb, hml, hown, hts⟩ hG hA hw (c_X7_enter G l a ha _ S u1 u2 u3 r S2 hfx) (cwV 3 hts gL_law_X7_enter rfl rfl rfl (by decide +kernel) ⟨Nat.le_of_ble_eq_true rfl, Nat.le_of_ble_eq_true rfl⟩) (va_recv hG.1 hw.1 (ci := 7) (q0 := 0) rfl rfl) rfl hl.1 rfl (Nat.le_of_ble_eq_true rfl) dL_law_258 ⟨by show _ ≤ 600000; omega, by show _ ≤ 7302249; omega⟩ (fun H locs hw => ?_)
  replace hw := wd_toM hw
  refine lv_aload_n hx hb dL_law_261 rfl (lv_at hl 3 rfl) ?_
  refine lv_aload_n hx hb dL_law_262 rfl (lv_at hl 1 rfl) ?_
  refine lv_iload_n hx hb dL_law_263 rfl (lv_at hl 0 rfl) ?_
  refine lv_iconst (v := 1) hx hb dL_law_264 (by decide) ?_
  refine lv_iadd hx hb dL_law_265 ?_
  refine l_sld hx hb hX hbl hbA hw.2.2 h1 ev1 dL_law_266 ?_
  refine lv_aload_n hx hb dL_law_267 rfl (lv_at hl 1 rfl) ?_
  refine lv_iload_n hx hb dL_law_268 rfl (lv_at hl 0 rfl) ?_
  refine lv_iconst (v := 2) hx hb dL_law_269 (by decide) ?_
  refine lv_iadd hx hb dL_law_270 ?_
  refine l_sld hx hb hX hbl hbA hw.2.2 h2 ev2 dL_law_271 ?_
  refine lv_aload_n hx hb dL_law_272 rfl (lv_at hl 1 rfl) ?_
  refine lv_iload_n hx hb dL_law_273 rfl (lv_at hl 0 rfl) ?_
  refine lv_iconst (v := 3) hx hb dL_law_274 (by decide) ?_
  refine lv_iadd hx hb dL_law_275 ?_
  refine l_sld hx hb hX hbl hbA hw.2.2 h3 ev3 dL_law_276 ?_
  refine cV (As := [.int u1, .int u2, .int u3]) (rest := [.int r]) ⟨hx, hb, hml, hown, hts⟩ hG hA hw (c_X8_enter G l b2 _ T u1 u2 u3 r T2 hfm) (cwV 3 hts gL_law_X8_enter rfl rfl rfl (by decide +kernel) ⟨Nat.le_of_ble_eq_true rfl, Nat.le_of_ble_eq_true rfl⟩) (va_recv hG.1 hw.1 (ci := 8) (q0 := 0) rfl rfl) rfl hl.1 rfl (Nat.le_of_ble_eq_true rfl) dL_law_277 ⟨by show _ ≤ 600000; omega, by show _ ≤ 7302249; omega⟩ (fun H locs hw => ?_)
  replace hw := wd_toX hw
  refine lv_icmp_eq (tgt := 1133) hx hb dL_law_280 (by decide) (fun _ => ?_) (fun c0 => absurd rfl c0)
  refine W.widen (k := 200 + (k + 1)) (n := 100000 + 15 * (k + 1)) (by omega) (by omega) ?_
  exact go _ _ _ _ _ _ _ hR2 ha hw hl
