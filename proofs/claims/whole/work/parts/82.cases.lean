def R_law : String := "DutyDeskLaw"
def lw_Q (_ : Array Value) (s : State) (o : Outcome) (t : State) : Prop := o = .returned (some (.int 1)) ∧ Framed s o t [] 600000 7302249
def lw_Z (below : List Frame) (a : Array Value) (s : State) : State → Prop := fun t => ∃ o, t.status = .running ∧ Ended t below o ∧ lw_Q a s o t
/-- the law's own end, with 1 on the stack, nothing written that was there before, its room as the claim has it -/
theorem lw_ret {p : Program} {l : Launch} {e : Env} {s : State} {m : MethodId} {below : List Frame} {meth : Method} {c : Code} {b : Nat} (hx : p.tables.exec = Jvm.exec) (hb : c.code = code) (hr : meth.sig.returnType = ret) (hlocks : meth.locks = false) {pc : Nat} {H : Heap} {ls : Array Slot} (hdg : decode code pc = .ok (.ireturn, 1)) : W p l e room_1 s m #[Value.ref b] below meth c H [] 600000 7302249 (lw_Z below #[Value.ref b] s) (F0 m pc ls [.int 1]) := by
  intro T hT X
  obtain ⟨fs, hret, hrun, hended, hW, hframe⟩ := X.leave (v := some (.int 1)) (hlocks := hlocks) (fun h => by rw [hr] at h; cases h)
  have hmeth' : T.vm.method? m = some meth := X.method'
  refine ⟨T.setFrames fs, ?_, .returned (some (.int 1)), hrun, hended, rfl, ⟨_, rfl⟩, hW, hframe⟩
  jvm_step X.here [X.here.top, hx, hb, hdg, hmeth', hr, ret, narrow_b1]
  (try refine ⟨rfl, ?_⟩); (try refine ⟨rfl, ?_⟩)
  first | (intro acts; rw [hret _ acts rfl rfl rfl]) | rw [hret _ _ rfl rfl rfl]
  exact Steps.refl _
/-- what holds at the law's entry: the machine, the code, the tables' words (any of lw_tbl by 'hts w (by decide +kernel)'), the script of L ints xs at the cell b, what the Statement gives of the start (any of its parts by flat_of_before) -/
def lw_At (p : Program) (s : State) (m : MethodId) (meth : Method) (c : Code) (b L : Nat) (xs : Nat → Int32) : Prop :=
  p.tables.exec = Jvm.exec ∧ c.code = code ∧ meth.sig.returnType = ret ∧ c.maxLocals = 4 ∧ s.vm.findClass R_law = some m.cls ∧ (∀ w ∈ lw_tbl, w.before #[Value.ref b] s = true) ∧ va_X b L xs s s.heap ∧ b < s.heap.size ∧ meth.locks = false ∧ (Jvm.Cond.and given_1 narrow_1).before #[Value.ref b] s = true
section LROWS
variable {p : Program} {l : Launch} {e : Env} {R : Room} {s : State} {m : MethodId} {args : Array Value} {below : List Frame} {meth : Method} {c : Code} {H : Heap} {locs : List Loc} {cells slots : Nat} {Q : State → Prop} {cc : ByteArray} {pc : Nat} {ls : Array Slot} {rest st0 : List Value} {G : GP} {A : Nat → Prop} {W0 : va_W} {Po : va_W → Prop} {rv : Option Value} {mc ms : Nat}
theorem l_sld (hx : p.tables.exec = Jvm.exec) (hb : c.code = cc) {b L : Nat} {xs : Nat → Int32} (hX : va_X b L xs s s.heap) (hbl : b < s.heap.size) (hbA : ¬ A b) (hS : va_S A s.heap H locs) {i v : Int32} (hin : vp_in i L) (ev : xs i.toNatClampNeg = v) (hdg : decode cc pc = .ok (.iaload, 1))
    (kk : W p l e R s m args below meth c H locs cells slots Q (F0 m (pc + 1) ls (.int v :: rest))) : W p l e R s m args below meth c H locs cells slots Q (F0 m pc ls (.int i :: .ref b :: rest)) := by
  refine va_sld hx hb hX hbl hbA hS hin hdg ?_
  rw [ev]
  exact kk
variable {y : MethodName} {bytes : ByteArray} {maxL nL n index : Nat} {ret : Option FieldType} {ws : List Cond} {rm : Room} {Ts : List Cond} {own C : String} {b : Addr} {As : List Value}
theorem cVE (F : CallFix p m c cc nL s args Ts own) (hG : Gb G A s s.heap) (hO : Ao s) (hA : ∀ q : Nat, s.heap.size ≤ q → A q) (hw : Wd G A s H locs W0) (ct : ME G l y ws rm (.ref b :: As) W0 Po rv mc ms) (cw : CallW R s args own C index y bytes maxL ret ws rm mc ms n)
    (hrecv : ∃ cell : Cell, H[b]? = some cell ∧ cell.vm.isStatics = false ∧ s.vm.findClass C = some cell.cls) (hn : As.length = n) (hsize : ls.size = nL) (hst : st0 = As.reverse ++ .ref b :: rest) (hW : (rest.map fun v => v.category).sum ≤ 8) (hdg : decode cc pc = .ok (.invokevirtual index, 3)) (hf : cells + mc ≤ R.cells ∧ slots + ms ≤ R.slots)
    (kk : ∀ (W1 : va_W) (H1 : Heap) (locs1 : List Loc), Po W1 → Wd G A s H1 locs1 W1 → W p l e R s m args below meth c H1 locs1 (cells + mc) (slots + ms) Q (F0 m (pc + 3) ls (rv.toList ++ rest))) : W p l e R s m args below meth c H locs cells slots Q (F0 m pc ls st0) :=
  wd_callE hA hw (va_runV F (ct H.size) cw ⟨pe_blind, hrecv, fun U hU hW => ⟨rfl, (pw_at (av := []) hA hw hG U hU hW).2, hO.moved hW.alike⟩⟩ rfl hn hsize hst (lv_room hW) hdg hf) kk
theorem wd_toM {a b2 : Nat → Nat} {S T : St} (hw : Wd G A s H locs (xw G.2.1 a (mw G.2.1 b2 [] T) S)) : Wd G A s H locs (mw G.2.1 b2 (xw G.2.1 a [] S) T) := by
  obtain ⟨hP, hD, hS⟩ := hw
  have e1 : xw G.2.1 a (mw G.2.1 b2 [] T) S = (([] : va_W) ++ xw G.2.1 a [] S) ++ mf G.2.1 b2 T := by simp [xw, mw]
  rw [e1] at hP hD
  exact wd_eq (by simp [mw]) (va_P.swap hP) (va_D.swap hD) hS
theorem wd_toX {a b2 : Nat → Nat} {S T : St} (hw : Wd G A s H locs (mw G.2.1 b2 (xw G.2.1 a [] S) T)) : Wd G A s H locs (xw G.2.1 a (mw G.2.1 b2 [] T) S) := by
  obtain ⟨hP, hD, hS⟩ := hw
  have e1 : mw G.2.1 b2 (xw G.2.1 a [] S) T = (([] : va_W) ++ mf G.2.1 b2 T) ++ xw G.2.1 a [] S := by simp [mw]
  rw [e1] at hP hD
  exact wd_eq (by simp [xw, mw]) (va_P.swap hP) (va_D.swap hD) hS
end LROWS
set_option maxHeartbeats 4000000 in
set_option maxRecDepth 100000 in
theorem law_feed {p : Program} {l : Launch} {e : Env} {s : State} {m : MethodId} {below : List Frame} {meth : Method} {c : Code} {G : GP} {b L : Nat} {xs : Nat → Int32} (hL : L ≤ 4096) (C0 : lw_At p s m meth c b L xs) (hG : Gb G (fun q : Nat => s.heap.size ≤ q) s s.heap) (hO : Ao s) {k : Nat} (hk : 8 * k + 8 ≤ L) {x3 : Int32} (e3 : x3 = nI (8 * k)) (go : ∀ (S T : St) (a b2 : Nat → Nat) (H : Heap) (locs : List Loc) (ls : Array Slot), Rel S T → a 45 = G.2.2.1 → Wd G (fun q : Nat => s.heap.size ≤ q) s H locs (xw G.2.1 a (mw G.2.1 b2 [] T) S) → lv_has ls 4 [(3, .int x3), (0, .ref b), (1, .ref (a 0)), (2, .ref (b2 0))] → W p l e room_1 s m #[Value.ref b] below meth c H locs (200 + (k + 1)) (100000 + 15 * (k + 1)) (lw_Z below #[Value.ref b] s) (F0 m 1133 ls [])) {S T : St} (hR : Rel S T) {a b2 : Nat → Nat} (ha : a 45 = G.2.2.1) {H : Heap} {locs : List Loc} (hw : Wd G (fun q : Nat => s.heap.size ≤ q) s H locs (xw G.2.1 a (mw G.2.1 b2 [] T) S)) {ls : Array Slot} (hl : lv_has ls 4 [(3, .int x3), (0, .ref b), (1, .ref (a 0)), (2, .ref (b2 0))]) : W p l e room_1 s m #[Value.ref b] below meth c H locs (200 + k) (100000 + 15 * k) (lw_Z below #[Value.ref b] s) (F0 m 156 ls []) := by
  obtain ⟨hx, hb, hr, hml, hown, hts0, hX, hbl, hlocks, hgv⟩ := C0
  have hts : ∀ w ∈ wsL_law, w.before #[Value.ref b] s = true := fun w h => hts0 w (wsL_law_in w h)
  have hA : ∀ q : Nat, s.heap.size ≤ q → (fun q : Nat => s.heap.size ≤ q) q := fun _ h => h
  have hbA : ¬ (fun q : Nat => s.heap.size ≤ q) b := Nat.not_le.mpr hbl
  have h1 : vp_in (x3 + 1) L := by rw [e3, show (1 : Int32) = nI 1 from rfl, nI_add]; exact vp_in_nI (by omega) (by omega)
  obtain ⟨u1, ev1⟩ : ∃ z, xs (x3 + 1).toNatClampNeg = z := ⟨_, rfl⟩
  have h2 : vp_in (x3 + 2) L := by rw [e3, show (2 : Int32) = nI 2 from rfl, nI_add]; exact vp_in_nI (by omega) (by omega)
  obtain ⟨u2, ev2⟩ : ∃ z, xs (x3 + 2).toNatClampNeg = z := ⟨_, rfl⟩
  have h3 : vp_in (x3 + 3) L := by rw [e3, show (3 : Int32) = nI 3 from rfl, nI_add]; exact vp_in_nI (by omega) (by omega)
  obtain ⟨u3, ev3⟩ : ∃ z, xs (x3 + 3).toNatClampNeg = z := ⟨_, rfl⟩
  have h4 : vp_in (x3 + 4) L := by rw [e3, show (4 : Int32) = nI 4 from rfl, nI_add]; exact vp_in_nI (by omega) (by omega)
  obtain ⟨u4, ev4⟩ : ∃ z, xs (x3 + 4).toNatClampNeg = z := ⟨_, rfl⟩
  have h5 : vp_in (x3 + 5) L := by rw [e3, show (5 : Int32) = nI 5 from rfl, nI_add]; exact vp_in_nI (by omega) (by omega)
  obtain ⟨u5, ev5⟩ : ∃ z, xs (x3 + 5).toNatClampNeg = z := ⟨_, rfl⟩
  obtain ⟨r, S2, T2, hfx, hfm, hR2⟩ := op_feed hR u1 u2 u3 u4 u5
  refine lv_aload_n hx hb dL_law_156 rfl (lv_at hl 2 rfl) ?_
  refine lv_aload_n hx hb dL_law_157 rfl (lv_at hl 1 rfl) ?_
  refine lv_iload_n hx hb dL_law_158 rfl (lv_at hl 0 rfl) ?_
  refine lv_iconst (v := 1) hx hb dL_law_159 (by decide) ?_
  refine lv_iadd hx hb dL_law_160 ?_
  refine l_sld hx hb hX hbl hbA hw.2.2 h1 ev1 dL_law_161 ?_
  refine lv_aload_n hx hb dL_law_162 rfl (lv_at hl 1 rfl) ?_
  refine lv_iload_n hx hb dL_law_163 rfl (lv_at hl 0 rfl) ?_
  refine lv_iconst (v := 2) hx hb dL_law_164 (by decide) ?_
  refine lv_iadd hx hb dL_law_165 ?_
  refine l_sld hx hb hX hbl hbA hw.2.2 h2 ev2 dL_law_166 ?_
  refine lv_aload_n hx hb dL_law_167 rfl (lv_at hl 1 rfl) ?_
  refine lv_iload_n hx hb dL_law_168 rfl (lv_at hl 0 rfl) ?_
  refine lv_iconst (v := 3) hx hb dL_law_169 (by decide) ?_
  refine lv_iadd hx hb dL_law_170 ?_
  refine l_sld hx hb hX hbl hbA hw.2.2 h3 ev3 dL_law_171 ?_
  refine lv_aload_n hx hb dL_law_172 rfl (lv_at hl 1 rfl) ?_
  refine lv_iload_n hx hb dL_law_173 rfl (lv_at hl 0 rfl) ?_
  refine lv_iconst (v := 4) hx hb dL_law_174 (by decide) ?_
  refine lv_iadd hx hb dL_law_175 ?_
  refine l_sld hx hb hX hbl hbA hw.2.2 h4 ev4 dL_law_176 ?_
  refine lv_aload_n hx hb dL_law_177 rfl (lv_at hl 1 rfl) ?_
  refine lv_iload_n hx hb dL_law_178 rfl (lv_at hl 0 rfl) ?_
  refine lv_iconst (v := 5) hx hb dL_law_179 (by decide) ?_
  refine lv_iadd hx hb dL_law_180 ?_
  refine l_sld hx hb hX hbl hbA hw.2.2 h5 ev5 dL_law_181 ?_
  refine cV (As := [.int u1, .int u2, .int u3, .int u4, .int u5]) (rest := []) ⟨hx, hb, hml, hown, hts⟩ hG hA hw (c_X7_feed G l a ha _ S u1 u2 u3 u4 u5 r S2 hfx) (cwV 5 hts gL_law_X7_feed rfl rfl rfl (by decide +kernel) ⟨Nat.le_of_ble_eq_true rfl, Nat.le_of_ble_eq_true rfl⟩) (va_recv hG.1 hw.1 (ci := 7) (q0 := 0) rfl rfl) rfl hl.1 rfl (Nat.le_of_ble_eq_true rfl) dL_law_182 ⟨by show _ ≤ 600000; omega, by show _ ≤ 7302249; omega⟩ (fun H locs hw => ?_)
  replace hw := wd_toM hw
  refine lv_aload_n hx hb dL_law_185 rfl (lv_at hl 3 rfl) ?_
  refine lv_aload_n hx hb dL_law_186 rfl (lv_at hl 1 rfl) ?_
  refine lv_iload_n hx hb dL_law_187 rfl (lv_at hl 0 rfl) ?_
  refine lv_iconst (v := 1) hx hb dL_law_188 (by decide) ?_
  refine lv_iadd hx hb dL_law_189 ?_
  refine l_sld hx hb hX hbl hbA hw.2.2 h1 ev1 dL_law_190 ?_
  refine lv_aload_n hx hb dL_law_191 rfl (lv_at hl 1 rfl) ?_
  refine lv_iload_n hx hb dL_law_192 rfl (lv_at hl 0 rfl) ?_
  refine lv_iconst (v := 2) hx hb dL_law_193 (by decide) ?_
  refine lv_iadd hx hb dL_law_194 ?_
  refine l_sld hx hb hX hbl hbA hw.2.2 h2 ev2 dL_law_195 ?_
  refine lv_aload_n hx hb dL_law_196 rfl (lv_at hl 1 rfl) ?_
  refine lv_iload_n hx hb dL_law_197 rfl (lv_at hl 0 rfl) ?_
  refine lv_iconst (v := 3) hx hb dL_law_198 (by decide) ?_
  refine lv_iadd hx hb dL_law_199 ?_
  refine l_sld hx hb hX hbl hbA hw.2.2 h3 ev3 dL_law_200 ?_
  refine lv_aload_n hx hb dL_law_201 rfl (lv_at hl 1 rfl) ?_
  refine lv_iload_n hx hb dL_law_202 rfl (lv_at hl 0 rfl) ?_
  refine lv_iconst (v := 4) hx hb dL_law_203 (by decide) ?_
  refine lv_iadd hx hb dL_law_204 ?_
  refine l_sld hx hb hX hbl hbA hw.2.2 h4 ev4 dL_law_205 ?_
  refine lv_aload_n hx hb dL_law_206 rfl (lv_at hl 1 rfl) ?_
  refine lv_iload_n hx hb dL_law_207 rfl (lv_at hl 0 rfl) ?_
  refine lv_iconst (v := 5) hx hb dL_law_208 (by decide) ?_
  refine lv_iadd hx hb dL_law_209 ?_
  refine l_sld hx hb hX hbl hbA hw.2.2 h5 ev5 dL_law_210 ?_
  refine cV (As := [.int u1, .int u2, .int u3, .int u4, .int u5]) (rest := [.int r]) ⟨hx, hb, hml, hown, hts⟩ hG hA hw (c_X8_feed G l b2 _ T u1 u2 u3 u4 u5 r T2 hfm) (cwV 5 hts gL_law_X8_feed rfl rfl rfl (by decide +kernel) ⟨Nat.le_of_ble_eq_true rfl, Nat.le_of_ble_eq_true rfl⟩) (va_recv hG.1 hw.1 (ci := 8) (q0 := 0) rfl rfl) rfl hl.1 rfl (Nat.le_of_ble_eq_true rfl) dL_law_211 ⟨by show _ ≤ 600000; omega, by show _ ≤ 7302249; omega⟩ (fun H locs hw => ?_)
  replace hw := wd_toX hw
  refine lv_icmp_eq (tgt := 1133) hx hb dL_law_214 (by decide) (fun _ => ?_) (fun c0 => absurd rfl c0)
  refine W.widen (k := 200 + (k + 1)) (n := 100000 + 15 * (k + 1)) (by omega) (by omega) ?_
  exact go _ _ _ _ _ _ _ hR2 ha hw hl
set_option maxHeartbeats 4000000 in
set_option maxRecDepth 100000 in
theorem law_end {p : Program} {l : Launch} {e : Env} {s : State} {m : MethodId} {below : List Frame} {meth : Method} {c : Code} {G : GP} {b L : Nat} {xs : Nat → Int32} (hL : L ≤ 4096) (C0 : lw_At p s m meth c b L xs) (hG : Gb G (fun q : Nat => s.heap.size ≤ q) s s.heap) (hO : Ao s) {k : Nat} (hk : 8 * k + 8 ≤ L) {x3 : Int32} (e3 : x3 = nI (8 * k)) (go : ∀ (S T : St) (a b2 : Nat → Nat) (H : Heap) (locs : List Loc) (ls : Array Slot), Rel S T → a 45 = G.2.2.1 → Wd G (fun q : Nat => s.heap.size ≤ q) s H locs (xw G.2.1 a (mw G.2.1 b2 [] T) S) → lv_has ls 4 [(3, .int x3), (0, .ref b), (1, .ref (a 0)), (2, .ref (b2 0))] → W p l e room_1 s m #[Value.ref b] below meth c H locs (200 + (k + 1)) (100000 + 15 * (k + 1)) (lw_Z below #[Value.ref b] s) (F0 m 1133 ls [])) {S T : St} (hR : Rel S T) {a b2 : Nat → Nat} (ha : a 45 = G.2.2.1) {H : Heap} {locs : List Loc} (hw : Wd G (fun q : Nat => s.heap.size ≤ q) s H locs (xw G.2.1 a (mw G.2.1 b2 [] T) S)) {ls : Array Slot} (hl : lv_has ls 4 [(3, .int x3), (0, .ref b), (1, .ref (a 0)), (2, .ref (b2 0))]) : W p l e room_1 s m #[Value.ref b] below meth c H locs (200 + k) (100000 + 15 * k) (lw_Z below #[Value.ref b] s) (F0 m 219 ls []) := by
  obtain ⟨hx, hb, hr, hml, hown, hts0, hX, hbl, hlocks, hgv⟩ := C0
  have hts : ∀ w ∈ wsL_law, w.before #[Value.ref b] s = true := fun w h => hts0 w (wsL_law_in w h)
  have hA : ∀ q : Nat, s.heap.size ≤ q → (fun q : Nat => s.heap.size ≤ q) q := fun _ h => h
  have hbA : ¬ (fun q : Nat => s.heap.size ≤ q) b := Nat.not_le.mpr hbl
  have h1 : vp_in (x3 + 1) L := by rw [e3, show (1 : Int32) = nI 1 from rfl, nI_add]; exact vp_in_nI (by omega) (by omega)
  obtain ⟨u1, ev1⟩ : ∃ z, xs (x3 + 1).toNatClampNeg = z := ⟨_, rfl⟩
  obtain ⟨r, S2, T2, hfx, hfm, hR2⟩ := op_end hR u1
  refine lv_aload_n hx hb dL_law_219 rfl (lv_at hl 2 rfl) ?_
  refine lv_aload_n hx hb dL_law_220 rfl (lv_at hl 1 rfl) ?_
  refine lv_iload_n hx hb dL_law_221 rfl (lv_at hl 0 rfl) ?_
  refine lv_iconst (v := 1) hx hb dL_law_222 (by decide) ?_
  refine lv_iadd hx hb dL_law_223 ?_
  refine l_sld hx hb hX hbl hbA hw.2.2 h1 ev1 dL_law_224 ?_
  refine cV (As := [.int u1]) (rest := []) ⟨hx, hb, hml, hown, hts⟩ hG hA hw (c_X7_end G l a ha _ S u1 r S2 hfx) (cwV 1 hts gL_law_X7_end rfl rfl rfl (by decide +kernel) ⟨Nat.le_of_ble_eq_true rfl, Nat.le_of_ble_eq_true rfl⟩) (va_recv hG.1 hw.1 (ci := 7) (q0 := 0) rfl rfl) rfl hl.1 rfl (Nat.le_of_ble_eq_true rfl) dL_law_225 ⟨by show _ ≤ 600000; omega, by show _ ≤ 7302249; omega⟩ (fun H locs hw => ?_)
  replace hw := wd_toM hw
  refine lv_aload_n hx hb dL_law_228 rfl (lv_at hl 3 rfl) ?_
  refine lv_aload_n hx hb dL_law_229 rfl (lv_at hl 1 rfl) ?_
  refine lv_iload_n hx hb dL_law_230 rfl (lv_at hl 0 rfl) ?_
  refine lv_iconst (v := 1) hx hb dL_law_231 (by decide) ?_
  refine lv_iadd hx hb dL_law_232 ?_
  refine l_sld hx hb hX hbl hbA hw.2.2 h1 ev1 dL_law_233 ?_
  refine cV (As := [.int u1]) (rest := [.int r]) ⟨hx, hb, hml, hown, hts⟩ hG hA hw (c_X8_end G l b2 _ T u1 r T2 hfm) (cwV 1 hts gL_law_X8_end rfl rfl rfl (by decide +kernel) ⟨Nat.le_of_ble_eq_true rfl, Nat.le_of_ble_eq_true rfl⟩) (va_recv hG.1 hw.1 (ci := 8) (q0 := 0) rfl rfl) rfl hl.1 rfl (Nat.le_of_ble_eq_true rfl) dL_law_234 ⟨by show _ ≤ 600000; omega, by show _ ≤ 7302249; omega⟩ (fun H locs hw => ?_)
  replace hw := wd_toX hw
  refine lv_icmp_eq (tgt := 1133) hx hb dL_law_237 (by decide) (fun _ => ?_) (fun c0 => absurd rfl c0)
  refine W.widen (k := 200 + (k + 1)) (n := 100000 + 15 * (k + 1)) (by omega) (by omega) ?_
  exact go _ _ _ _ _ _ _ hR2 ha hw hl
set_option maxHeartbeats 4000000 in
set_option maxRecDepth 100000 in
theorem law_enter {p : Program} {l : Launch} {e : Env} {s : State} {m : MethodId} {below : List Frame} {meth : Method} {c : Code} {G : GP} {b L : Nat} {xs : Nat → Int32} (hL : L ≤ 4096) (C0 : lw_At p s m meth c b L xs) (hG : Gb G (fun q : Nat => s.heap.size ≤ q) s s.heap) (hO : Ao s) {k : Nat} (hk : 8 * k + 8 ≤ L) {x3 : Int32} (e3 : x3 = nI (8 * k)) (go : ∀ (S T : St) (a b2 : Nat → Nat) (H : Heap) (locs : List Loc) (ls : Array Slot), Rel S T → a 45 = G.2.2.1 → Wd G (fun q : Nat => s.heap.size ≤ q) s H locs (xw G.2.1 a (mw G.2.1 b2 [] T) S) → lv_has ls 4 [(3, .int x3), (0, .ref b), (1, .ref (a 0)), (2, .ref (b2 0))] → W p l e room_1 s m #[Value.ref b] below meth c H locs (200 + (k + 1)) (100000 + 15 * (k + 1)) (lw_Z below #[Value.ref b] s) (F0 m 1133 ls [])) {S T : St} (hR : Rel S T) {a b2 : Nat → Nat} (ha : a 45 = G.2.2.1) {H : Heap} {locs : List Loc} (hw : Wd G (fun q : Nat => s.heap.size ≤ q) s H locs (xw G.2.1 a (mw G.2.1 b2 [] T) S)) {ls : Array Slot} (hl : lv_has ls 4 [(3, .int x3), (0, .ref b), (1, .ref (a 0)), (2, .ref (b2 0))]) : W p l e room_1 s m #[Value.ref b] below meth c H locs (200 + k) (100000 + 15 * k) (lw_Z below #[Value.ref b] s) (F0 m 242 ls []) := by
  obtain ⟨hx, hb, hr, hml, hown, hts0, hX, hbl, hlocks, hgv⟩ := C0
  have hts : ∀ w ∈ wsL_law, w.before #[Value.ref b] s = true := fun w h => hts0 w (wsL_law_in w h)
  have hA : ∀ q : Nat, s.heap.size ≤ q → (fun q : Nat => s.heap.size ≤ q) q := fun _ h => h
  have hbA : ¬ (fun q : Nat => s.heap.size ≤ q) b := Nat.not_le.mpr hbl
  have h1 : vp_in (x3 + 1) L := by rw [e3, show (1 : Int32) = nI 1 from rfl, nI_add]; exact vp_in_nI (by omega) (by omega)
  obtain ⟨u1, ev1⟩ : ∃ z, xs (x3 + 1).toNatClampNeg = z := ⟨_, rfl⟩
  have h2 : vp_in (x3 + 2) L := by rw [e3, show (2 : Int32) = nI 2 from rfl, nI_add]; exact vp_in_nI (by omega) (by omega)
  obtain ⟨u2, ev2⟩ : ∃ z, xs (x3 + 2).toNatClampNeg = z := ⟨_, rfl⟩
  have h3 : vp_in (x3 + 3) L := by rw [e3, show (3 : Int32) = nI 3 from rfl, nI_add]; exact vp_in_nI (by omega) (by omega)
  obtain ⟨u3, ev3⟩ : ∃ z, xs (x3 + 3).toNatClampNeg = z := ⟨_, rfl⟩
  obtain ⟨r, S2, T2, hfx, hfm, hR2⟩ := op_enter hR u1 u2 u3
  refine lv_aload_n hx hb dL_law_242 rfl (lv_at hl 2 rfl) ?_
  refine lv_aload_n hx hb dL_law_243 rfl (lv_at hl 1 rfl) ?_
  refine lv_iload_n hx hb dL_law_244 rfl (lv_at hl 0 rfl) ?_
  refine lv_iconst (v := 1) hx hb dL_law_245 (by decide) ?_
  refine lv_iadd hx hb dL_law_246 ?_
  refine l_sld hx hb hX hbl hbA hw.2.2 h1 ev1 dL_law_247 ?_
  refine lv_aload_n hx hb dL_law_248 rfl (lv_at hl 1 rfl) ?_
  refine lv_iload_n hx hb dL_law_249 rfl (lv_at hl 0 rfl) ?_
  refine lv_iconst (v := 2) hx hb dL_law_250 (by decide) ?_
  refine lv_iadd hx hb dL_law_251 ?_
  refine l_sld hx hb hX hbl hbA hw.2.2 h2 ev2 dL_law_252 ?_
  refine lv_aload_n hx hb dL_law_253 rfl (lv_at hl 1 rfl) ?_
  refine lv_iload_n hx hb dL_law_254 rfl (lv_at hl 0 rfl) ?_
  refine lv_iconst (v := 3) hx hb dL_law_255 (by decide) ?_
  refine lv_iadd hx hb dL_law_256 ?_
  refine l_sld hx hb hX hbl hbA hw.2.2 h3 ev3 dL_law_257 ?_
  refine cV (As := [.int u1, .int u2, .int u3]) (rest := []) ⟨hx, hb, hml, hown, hts⟩ hG hA hw (c_X7_enter G l a ha _ S u1 u2 u3 r S2 hfx) (cwV 3 hts gL_law_X7_enter rfl rfl rfl (by decide +kernel) ⟨Nat.le_of_ble_eq_true rfl, Nat.le_of_ble_eq_true rfl⟩) (va_recv hG.1 hw.1 (ci := 7) (q0 := 0) rfl rfl) rfl hl.1 rfl (Nat.le_of_ble_eq_true rfl) dL_law_258 ⟨by show _ ≤ 600000; omega, by show _ ≤ 7302249; omega⟩ (fun H locs hw => ?_)
  replace hw := wd_toM hw
  refine lv_aload_n hx hb dL_law_261 rfl (lv_at hl 3 rfl) ?_
  refine lv_aload_n hx hb dL_law_262 rfl (lv_at hl 1 rfl) ?_
  refine lv_iload_n hx hb dL_law_263 rfl (lv_at hl 0 rfl) ?_
  refine lv_iconst (v := 1) hx hb dL_law_264 (by decide) ?_
  refine lv_iadd hx hb dL_law_265 ?_
  refine l_sld hx hb hX hbl hbA hw.2.2 h1 ev1 dL_law_266 ?_
  refine lv_aload_n hx hb dL_law_267 rfl (lv_at hl 1 rfl) ?_
  refine lv_iload_n hx hb dL_law_268 rfl (lv_at hl 0 rfl) ?_
  refine lv_iconst (v := 2) hx hb dL_law_269 (by decide) ?_
  refine lv_iadd hx hb dL_law_270 ?_
  refine l_sld hx hb hX hbl hbA hw.2.2 h2 ev2 dL_law_271 ?_
  refine lv_aload_n hx hb dL_law_272 rfl (lv_at hl 1 rfl) ?_
  refine lv_iload_n hx hb dL_law_273 rfl (lv_at hl 0 rfl) ?_
  refine lv_iconst (v := 3) hx hb dL_law_274 (by decide) ?_
  refine lv_iadd hx hb dL_law_275 ?_
  refine l_sld hx hb hX hbl hbA hw.2.2 h3 ev3 dL_law_276 ?_
  refine cV (As := [.int u1, .int u2, .int u3]) (rest := [.int r]) ⟨hx, hb, hml, hown, hts⟩ hG hA hw (c_X8_enter G l b2 _ T u1 u2 u3 r T2 hfm) (cwV 3 hts gL_law_X8_enter rfl rfl rfl (by decide +kernel) ⟨Nat.le_of_ble_eq_true rfl, Nat.le_of_ble_eq_true rfl⟩) (va_recv hG.1 hw.1 (ci := 8) (q0 := 0) rfl rfl) rfl hl.1 rfl (Nat.le_of_ble_eq_true rfl) dL_law_277 ⟨by show _ ≤ 600000; omega, by show _ ≤ 7302249; omega⟩ (fun H locs hw => ?_)
  replace hw := wd_toX hw
  refine lv_icmp_eq (tgt := 1133) hx hb dL_law_280 (by decide) (fun _ => ?_) (fun c0 => absurd rfl c0)
  refine W.widen (k := 200 + (k + 1)) (n := 100000 + 15 * (k + 1)) (by omega) (by omega) ?_
  exact go _ _ _ _ _ _ _ hR2 ha hw hl
set_option maxHeartbeats 4000000 in
set_option maxRecDepth 100000 in
theorem law_away {p : Program} {l : Launch} {e : Env} {s : State} {m : MethodId} {below : List Frame} {meth : Method} {c : Code} {G : GP} {b L : Nat} {xs : Nat → Int32} (hL : L ≤ 4096) (C0 : lw_At p s m meth c b L xs) (hG : Gb G (fun q : Nat => s.heap.size ≤ q) s s.heap) (hO : Ao s) {k : Nat} (hk : 8 * k + 8 ≤ L) {x3 : Int32} (e3 : x3 = nI (8 * k)) (go : ∀ (S T : St) (a b2 : Nat → Nat) (H : Heap) (locs : List Loc) (ls : Array Slot), Rel S T → a 45 = G.2.2.1 → Wd G (fun q : Nat => s.heap.size ≤ q) s H locs (xw G.2.1 a (mw G.2.1 b2 [] T) S) → lv_has ls 4 [(3, .int x3), (0, .ref b), (1, .ref (a 0)), (2, .ref (b2 0))] → W p l e room_1 s m #[Value.ref b] below meth c H locs (200 + (k + 1)) (100000 + 15 * (k + 1)) (lw_Z below #[Value.ref b] s) (F0 m 1133 ls [])) {S T : St} (hR : Rel S T) {a b2 : Nat → Nat} (ha : a 45 = G.2.2.1) {H : Heap} {locs : List Loc} (hw : Wd G (fun q : Nat => s.heap.size ≤ q) s H locs (xw G.2.1 a (mw G.2.1 b2 [] T) S)) {ls : Array Slot} (hl : lv_has ls 4 [(3, .int x3), (0, .ref b), (1, .ref (a 0)), (2, .ref (b2 0))]) : W p l e room_1 s m #[Value.ref b] below meth c H locs (200 + k) (100000 + 15 * k) (lw_Z below #[Value.ref b] s) (F0 m 285 ls []) := by
  obtain ⟨hx, hb, hr, hml, hown, hts0, hX, hbl, hlocks, hgv⟩ := C0
  have hts : ∀ w ∈ wsL_law, w.before #[Value.ref b] s = true := fun w h => hts0 w (wsL_law_in w h)
  have hA : ∀ q : Nat, s.heap.size ≤ q → (fun q : Nat => s.heap.size ≤ q) q := fun _ h => h
  have hbA : ¬ (fun q : Nat => s.heap.size ≤ q) b := Nat.not_le.mpr hbl
  have h1 : vp_in (x3 + 1) L := by rw [e3, show (1 : Int32) = nI 1 from rfl, nI_add]; exact vp_in_nI (by omega) (by omega)
  obtain ⟨u1, ev1⟩ : ∃ z, xs (x3 + 1).toNatClampNeg = z := ⟨_, rfl⟩
  have h2 : vp_in (x3 + 2) L := by rw [e3, show (2 : Int32) = nI 2 from rfl, nI_add]; exact vp_in_nI (by omega) (by omega)
  obtain ⟨u2, ev2⟩ : ∃ z, xs (x3 + 2).toNatClampNeg = z := ⟨_, rfl⟩
  have h3 : vp_in (x3 + 3) L := by rw [e3, show (3 : Int32) = nI 3 from rfl, nI_add]; exact vp_in_nI (by omega) (by omega)
  obtain ⟨u3, ev3⟩ : ∃ z, xs (x3 + 3).toNatClampNeg = z := ⟨_, rfl⟩
  by_cases cz3 : u3 = 0
  · obtain ⟨r, S2, T2, hfx, hfm, hR2⟩ := op_away hR u1 u2 0 (Or.inl rfl)
    refine lv_aload_n hx hb dL_law_285 rfl (lv_at hl 2 rfl) ?_
    refine lv_aload_n hx hb dL_law_286 rfl (lv_at hl 1 rfl) ?_
    refine lv_iload_n hx hb dL_law_287 rfl (lv_at hl 0 rfl) ?_
    refine lv_iconst (v := 1) hx hb dL_law_288 (by decide) ?_
    refine lv_iadd hx hb dL_law_289 ?_
    refine l_sld hx hb hX hbl hbA hw.2.2 h1 ev1 dL_law_290 ?_
    refine lv_aload_n hx hb dL_law_291 rfl (lv_at hl 1 rfl) ?_
    refine lv_iload_n hx hb dL_law_292 rfl (lv_at hl 0 rfl) ?_
    refine lv_iconst (v := 2) hx hb dL_law_293 (by decide) ?_
    refine lv_iadd hx hb dL_law_294 ?_
    refine l_sld hx hb hX hbl hbA hw.2.2 h2 ev2 dL_law_295 ?_
    refine lv_aload_n hx hb dL_law_296 rfl (lv_at hl 1 rfl) ?_
    refine lv_iload_n hx hb dL_law_297 rfl (lv_at hl 0 rfl) ?_
    refine lv_iconst (v := 3) hx hb dL_law_298 (by decide) ?_
    refine lv_iadd hx hb dL_law_299 ?_
    refine l_sld hx hb hX hbl hbA hw.2.2 h3 ev3 dL_law_300 ?_
    refine lv_if_eq (tgt := 308) hx hb dL_law_301 (by decide) (fun _ => ?_) (fun c0 => absurd cz3 c0)
    refine lv_iconst (v := 0) hx hb dL_law_308 (by decide) ?_
    refine cV (As := [.int u1, .int u2, .int 0]) (rest := []) ⟨hx, hb, hml, hown, hts⟩ hG hA hw (c_X7_away G l a ha _ S u1 u2 0 r S2 hfx) (cwV 3 hts gL_law_X7_away rfl rfl rfl (by decide +kernel) ⟨Nat.le_of_ble_eq_true rfl, Nat.le_of_ble_eq_true rfl⟩) (va_recv hG.1 hw.1 (ci := 7) (q0 := 0) rfl rfl) rfl hl.1 rfl (Nat.le_of_ble_eq_true rfl) dL_law_309 ⟨by show _ ≤ 600000; omega, by show _ ≤ 7302249; omega⟩ (fun H locs hw => ?_)
    replace hw := wd_toM hw
    refine lv_aload_n hx hb dL_law_312 rfl (lv_at hl 3 rfl) ?_
    refine lv_aload_n hx hb dL_law_313 rfl (lv_at hl 1 rfl) ?_
    refine lv_iload_n hx hb dL_law_314 rfl (lv_at hl 0 rfl) ?_
    refine lv_iconst (v := 1) hx hb dL_law_315 (by decide) ?_
    refine lv_iadd hx hb dL_law_316 ?_
    refine l_sld hx hb hX hbl hbA hw.2.2 h1 ev1 dL_law_317 ?_
    refine lv_aload_n hx hb dL_law_318 rfl (lv_at hl 1 rfl) ?_
    refine lv_iload_n hx hb dL_law_319 rfl (lv_at hl 0 rfl) ?_
    refine lv_iconst (v := 2) hx hb dL_law_320 (by decide) ?_
    refine lv_iadd hx hb dL_law_321 ?_
    refine l_sld hx hb hX hbl hbA hw.2.2 h2 ev2 dL_law_322 ?_
    refine lv_aload_n hx hb dL_law_323 rfl (lv_at hl 1 rfl) ?_
    refine lv_iload_n hx hb dL_law_324 rfl (lv_at hl 0 rfl) ?_
    refine lv_iconst (v := 3) hx hb dL_law_325 (by decide) ?_
    refine lv_iadd hx hb dL_law_326 ?_
    refine l_sld hx hb hX hbl hbA hw.2.2 h3 ev3 dL_law_327 ?_
    refine lv_if_eq (tgt := 335) hx hb dL_law_328 (by decide) (fun _ => ?_) (fun c0 => absurd cz3 c0)
    refine lv_iconst (v := 0) hx hb dL_law_335 (by decide) ?_
    refine cV (As := [.int u1, .int u2, .int 0]) (rest := [.int r]) ⟨hx, hb, hml, hown, hts⟩ hG hA hw (c_X8_away G l b2 _ T u1 u2 0 r T2 hfm) (cwV 3 hts gL_law_X8_away rfl rfl rfl (by decide +kernel) ⟨Nat.le_of_ble_eq_true rfl, Nat.le_of_ble_eq_true rfl⟩) (va_recv hG.1 hw.1 (ci := 8) (q0 := 0) rfl rfl) rfl hl.1 rfl (Nat.le_of_ble_eq_true rfl) dL_law_336 ⟨by show _ ≤ 600000; omega, by show _ ≤ 7302249; omega⟩ (fun H locs hw => ?_)
    replace hw := wd_toX hw
    refine lv_icmp_eq (tgt := 1133) hx hb dL_law_339 (by decide) (fun _ => ?_) (fun c0 => absurd rfl c0)
    refine W.widen (k := 200 + (k + 1)) (n := 100000 + 15 * (k + 1)) (by omega) (by omega) ?_
    exact go _ _ _ _ _ _ _ hR2 ha hw hl
  · obtain ⟨r, S2, T2, hfx, hfm, hR2⟩ := op_away hR u1 u2 1 (Or.inr rfl)
    refine lv_aload_n hx hb dL_law_285 rfl (lv_at hl 2 rfl) ?_
    refine lv_aload_n hx hb dL_law_286 rfl (lv_at hl 1 rfl) ?_
    refine lv_iload_n hx hb dL_law_287 rfl (lv_at hl 0 rfl) ?_
    refine lv_iconst (v := 1) hx hb dL_law_288 (by decide) ?_
    refine lv_iadd hx hb dL_law_289 ?_
    refine l_sld hx hb hX hbl hbA hw.2.2 h1 ev1 dL_law_290 ?_
    refine lv_aload_n hx hb dL_law_291 rfl (lv_at hl 1 rfl) ?_
    refine lv_iload_n hx hb dL_law_292 rfl (lv_at hl 0 rfl) ?_
    refine lv_iconst (v := 2) hx hb dL_law_293 (by decide) ?_
    refine lv_iadd hx hb dL_law_294 ?_
    refine l_sld hx hb hX hbl hbA hw.2.2 h2 ev2 dL_law_295 ?_
    refine lv_aload_n hx hb dL_law_296 rfl (lv_at hl 1 rfl) ?_
    refine lv_iload_n hx hb dL_law_297 rfl (lv_at hl 0 rfl) ?_
    refine lv_iconst (v := 3) hx hb dL_law_298 (by decide) ?_
    refine lv_iadd hx hb dL_law_299 ?_
    refine l_sld hx hb hX hbl hbA hw.2.2 h3 ev3 dL_law_300 ?_
    refine lv_if_eq (tgt := 308) hx hb dL_law_301 (by decide) (fun c0 => absurd c0 cz3) (fun _ => ?_)
    refine lv_iconst (v := 1) hx hb dL_law_304 (by decide) ?_
    refine lv_goto (tgt := 309) hx hb dL_law_305 (by decide) ?_
    refine cV (As := [.int u1, .int u2, .int 1]) (rest := []) ⟨hx, hb, hml, hown, hts⟩ hG hA hw (c_X7_away G l a ha _ S u1 u2 1 r S2 hfx) (cwV 3 hts gL_law_X7_away rfl rfl rfl (by decide +kernel) ⟨Nat.le_of_ble_eq_true rfl, Nat.le_of_ble_eq_true rfl⟩) (va_recv hG.1 hw.1 (ci := 7) (q0 := 0) rfl rfl) rfl hl.1 rfl (Nat.le_of_ble_eq_true rfl) dL_law_309 ⟨by show _ ≤ 600000; omega, by show _ ≤ 7302249; omega⟩ (fun H locs hw => ?_)
    replace hw := wd_toM hw
    refine lv_aload_n hx hb dL_law_312 rfl (lv_at hl 3 rfl) ?_
    refine lv_aload_n hx hb dL_law_313 rfl (lv_at hl 1 rfl) ?_
    refine lv_iload_n hx hb dL_law_314 rfl (lv_at hl 0 rfl) ?_
    refine lv_iconst (v := 1) hx hb dL_law_315 (by decide) ?_
    refine lv_iadd hx hb dL_law_316 ?_
    refine l_sld hx hb hX hbl hbA hw.2.2 h1 ev1 dL_law_317 ?_
    refine lv_aload_n hx hb dL_law_318 rfl (lv_at hl 1 rfl) ?_
    refine lv_iload_n hx hb dL_law_319 rfl (lv_at hl 0 rfl) ?_
    refine lv_iconst (v := 2) hx hb dL_law_320 (by decide) ?_
    refine lv_iadd hx hb dL_law_321 ?_
    refine l_sld hx hb hX hbl hbA hw.2.2 h2 ev2 dL_law_322 ?_
    refine lv_aload_n hx hb dL_law_323 rfl (lv_at hl 1 rfl) ?_
    refine lv_iload_n hx hb dL_law_324 rfl (lv_at hl 0 rfl) ?_
    refine lv_iconst (v := 3) hx hb dL_law_325 (by decide) ?_
    refine lv_iadd hx hb dL_law_326 ?_
    refine l_sld hx hb hX hbl hbA hw.2.2 h3 ev3 dL_law_327 ?_
    refine lv_if_eq (tgt := 335) hx hb dL_law_328 (by decide) (fun c0 => absurd c0 cz3) (fun _ => ?_)
    refine lv_iconst (v := 1) hx hb dL_law_331 (by decide) ?_
    refine lv_goto (tgt := 336) hx hb dL_law_332 (by decide) ?_
    refine cV (As := [.int u1, .int u2, .int 1]) (rest := [.int r]) ⟨hx, hb, hml, hown, hts⟩ hG hA hw (c_X8_away G l b2 _ T u1 u2 1 r T2 hfm) (cwV 3 hts gL_law_X8_away rfl rfl rfl (by decide +kernel) ⟨Nat.le_of_ble_eq_true rfl, Nat.le_of_ble_eq_true rfl⟩) (va_recv hG.1 hw.1 (ci := 8) (q0 := 0) rfl rfl) rfl hl.1 rfl (Nat.le_of_ble_eq_true rfl) dL_law_336 ⟨by show _ ≤ 600000; omega, by show _ ≤ 7302249; omega⟩ (fun H locs hw => ?_)
    replace hw := wd_toX hw
    refine lv_icmp_eq (tgt := 1133) hx hb dL_law_339 (by decide) (fun _ => ?_) (fun c0 => absurd rfl c0)
    refine W.widen (k := 200 + (k + 1)) (n := 100000 + 15 * (k + 1)) (by omega) (by omega) ?_
    exact go _ _ _ _ _ _ _ hR2 ha hw hl
set_option maxHeartbeats 4000000 in
set_option maxRecDepth 100000 in
theorem law_strike {p : Program} {l : Launch} {e : Env} {s : State} {m : MethodId} {below : List Frame} {meth : Method} {c : Code} {G : GP} {b L : Nat} {xs : Nat → Int32} (hL : L ≤ 4096) (C0 : lw_At p s m meth c b L xs) (hG : Gb G (fun q : Nat => s.heap.size ≤ q) s s.heap) (hO : Ao s) {k : Nat} (hk : 8 * k + 8 ≤ L) {x3 : Int32} (e3 : x3 = nI (8 * k)) (go : ∀ (S T : St) (a b2 : Nat → Nat) (H : Heap) (locs : List Loc) (ls : Array Slot), Rel S T → a 45 = G.2.2.1 → Wd G (fun q : Nat => s.heap.size ≤ q) s H locs (xw G.2.1 a (mw G.2.1 b2 [] T) S) → lv_has ls 4 [(3, .int x3), (0, .ref b), (1, .ref (a 0)), (2, .ref (b2 0))] → W p l e room_1 s m #[Value.ref b] below meth c H locs (200 + (k + 1)) (100000 + 15 * (k + 1)) (lw_Z below #[Value.ref b] s) (F0 m 1133 ls [])) {S T : St} (hR : Rel S T) {a b2 : Nat → Nat} (ha : a 45 = G.2.2.1) {H : Heap} {locs : List Loc} (hw : Wd G (fun q : Nat => s.heap.size ≤ q) s H locs (xw G.2.1 a (mw G.2.1 b2 [] T) S)) {ls : Array Slot} (hl : lv_has ls 4 [(3, .int x3), (0, .ref b), (1, .ref (a 0)), (2, .ref (b2 0))]) : W p l e room_1 s m #[Value.ref b] below meth c H locs (200 + k) (100000 + 15 * k) (lw_Z below #[Value.ref b] s) (F0 m 344 ls []) := by
  obtain ⟨hx, hb, hr, hml, hown, hts0, hX, hbl, hlocks, hgv⟩ := C0
  have hts : ∀ w ∈ wsL_law, w.before #[Value.ref b] s = true := fun w h => hts0 w (wsL_law_in w h)
  have hA : ∀ q : Nat, s.heap.size ≤ q → (fun q : Nat => s.heap.size ≤ q) q := fun _ h => h
  have hbA : ¬ (fun q : Nat => s.heap.size ≤ q) b := Nat.not_le.mpr hbl
  have h1 : vp_in (x3 + 1) L := by rw [e3, show (1 : Int32) = nI 1 from rfl, nI_add]; exact vp_in_nI (by omega) (by omega)
  obtain ⟨u1, ev1⟩ : ∃ z, xs (x3 + 1).toNatClampNeg = z := ⟨_, rfl⟩
  have h2 : vp_in (x3 + 2) L := by rw [e3, show (2 : Int32) = nI 2 from rfl, nI_add]; exact vp_in_nI (by omega) (by omega)
  obtain ⟨u2, ev2⟩ : ∃ z, xs (x3 + 2).toNatClampNeg = z := ⟨_, rfl⟩
  obtain ⟨r, S2, T2, hfx, hfm, hR2⟩ := op_strike hR u1 u2
  refine lv_aload_n hx hb dL_law_344 rfl (lv_at hl 2 rfl) ?_
  refine lv_aload_n hx hb dL_law_345 rfl (lv_at hl 1 rfl) ?_
  refine lv_iload_n hx hb dL_law_346 rfl (lv_at hl 0 rfl) ?_
  refine lv_iconst (v := 1) hx hb dL_law_347 (by decide) ?_
  refine lv_iadd hx hb dL_law_348 ?_
  refine l_sld hx hb hX hbl hbA hw.2.2 h1 ev1 dL_law_349 ?_
  refine lv_aload_n hx hb dL_law_350 rfl (lv_at hl 1 rfl) ?_
  refine lv_iload_n hx hb dL_law_351 rfl (lv_at hl 0 rfl) ?_
  refine lv_iconst (v := 2) hx hb dL_law_352 (by decide) ?_
  refine lv_iadd hx hb dL_law_353 ?_
  refine l_sld hx hb hX hbl hbA hw.2.2 h2 ev2 dL_law_354 ?_
  refine cV (As := [.int u1, .int u2]) (rest := []) ⟨hx, hb, hml, hown, hts⟩ hG hA hw (c_X7_strike G l a ha _ S u1 u2 r S2 hfx) (cwV 2 hts gL_law_X7_strike rfl rfl rfl (by decide +kernel) ⟨Nat.le_of_ble_eq_true rfl, Nat.le_of_ble_eq_true rfl⟩) (va_recv hG.1 hw.1 (ci := 7) (q0 := 0) rfl rfl) rfl hl.1 rfl (Nat.le_of_ble_eq_true rfl) dL_law_355 ⟨by show _ ≤ 600000; omega, by show _ ≤ 7302249; omega⟩ (fun H locs hw => ?_)
  replace hw := wd_toM hw
  refine lv_aload_n hx hb dL_law_358 rfl (lv_at hl 3 rfl) ?_
  refine lv_aload_n hx hb dL_law_359 rfl (lv_at hl 1 rfl) ?_
  refine lv_iload_n hx hb dL_law_360 rfl (lv_at hl 0 rfl) ?_
  refine lv_iconst (v := 1) hx hb dL_law_361 (by decide) ?_
  refine lv_iadd hx hb dL_law_362 ?_
  refine l_sld hx hb hX hbl hbA hw.2.2 h1 ev1 dL_law_363 ?_
  refine lv_aload_n hx hb dL_law_364 rfl (lv_at hl 1 rfl) ?_
  refine lv_iload_n hx hb dL_law_365 rfl (lv_at hl 0 rfl) ?_
  refine lv_iconst (v := 2) hx hb dL_law_366 (by decide) ?_
  refine lv_iadd hx hb dL_law_367 ?_
  refine l_sld hx hb hX hbl hbA hw.2.2 h2 ev2 dL_law_368 ?_
  refine cV (As := [.int u1, .int u2]) (rest := [.int r]) ⟨hx, hb, hml, hown, hts⟩ hG hA hw (c_X8_strike G l b2 _ T u1 u2 r T2 hfm) (cwV 2 hts gL_law_X8_strike rfl rfl rfl (by decide +kernel) ⟨Nat.le_of_ble_eq_true rfl, Nat.le_of_ble_eq_true rfl⟩) (va_recv hG.1 hw.1 (ci := 8) (q0 := 0) rfl rfl) rfl hl.1 rfl (Nat.le_of_ble_eq_true rfl) dL_law_369 ⟨by show _ ≤ 600000; omega, by show _ ≤ 7302249; omega⟩ (fun H locs hw => ?_)
  replace hw := wd_toX hw
  refine lv_icmp_eq (tgt := 1133) hx hb dL_law_372 (by decide) (fun _ => ?_) (fun c0 => absurd rfl c0)
  refine W.widen (k := 200 + (k + 1)) (n := 100000 + 15 * (k + 1)) (by omega) (by omega) ?_
  exact go _ _ _ _ _ _ _ hR2 ha hw hl
set_option maxHeartbeats 4000000 in
set_option maxRecDepth 100000 in
theorem law_travel {p : Program} {l : Launch} {e : Env} {s : State} {m : MethodId} {below : List Frame} {meth : Method} {c : Code} {G : GP} {b L : Nat} {xs : Nat → Int32} (hL : L ≤ 4096) (C0 : lw_At p s m meth c b L xs) (hG : Gb G (fun q : Nat => s.heap.size ≤ q) s s.heap) (hO : Ao s) {k : Nat} (hk : 8 * k + 8 ≤ L) {x3 : Int32} (e3 : x3 = nI (8 * k)) (go : ∀ (S T : St) (a b2 : Nat → Nat) (H : Heap) (locs : List Loc) (ls : Array Slot), Rel S T → a 45 = G.2.2.1 → Wd G (fun q : Nat => s.heap.size ≤ q) s H locs (xw G.2.1 a (mw G.2.1 b2 [] T) S) → lv_has ls 4 [(3, .int x3), (0, .ref b), (1, .ref (a 0)), (2, .ref (b2 0))] → W p l e room_1 s m #[Value.ref b] below meth c H locs (200 + (k + 1)) (100000 + 15 * (k + 1)) (lw_Z below #[Value.ref b] s) (F0 m 1133 ls [])) {S T : St} (hR : Rel S T) {a b2 : Nat → Nat} (ha : a 45 = G.2.2.1) {H : Heap} {locs : List Loc} (hw : Wd G (fun q : Nat => s.heap.size ≤ q) s H locs (xw G.2.1 a (mw G.2.1 b2 [] T) S)) {ls : Array Slot} (hl : lv_has ls 4 [(3, .int x3), (0, .ref b), (1, .ref (a 0)), (2, .ref (b2 0))]) : W p l e room_1 s m #[Value.ref b] below meth c H locs (200 + k) (100000 + 15 * k) (lw_Z below #[Value.ref b] s) (F0 m 377 ls []) := by
  obtain ⟨hx, hb, hr, hml, hown, hts0, hX, hbl, hlocks, hgv⟩ := C0
  have hts : ∀ w ∈ wsL_law, w.before #[Value.ref b] s = true := fun w h => hts0 w (wsL_law_in w h)
  have hA : ∀ q : Nat, s.heap.size ≤ q → (fun q : Nat => s.heap.size ≤ q) q := fun _ h => h
  have hbA : ¬ (fun q : Nat => s.heap.size ≤ q) b := Nat.not_le.mpr hbl
  have h1 : vp_in (x3 + 1) L := by rw [e3, show (1 : Int32) = nI 1 from rfl, nI_add]; exact vp_in_nI (by omega) (by omega)
  obtain ⟨u1, ev1⟩ : ∃ z, xs (x3 + 1).toNatClampNeg = z := ⟨_, rfl⟩
  have h2 : vp_in (x3 + 2) L := by rw [e3, show (2 : Int32) = nI 2 from rfl, nI_add]; exact vp_in_nI (by omega) (by omega)
  obtain ⟨u2, ev2⟩ : ∃ z, xs (x3 + 2).toNatClampNeg = z := ⟨_, rfl⟩
  have h3 : vp_in (x3 + 3) L := by rw [e3, show (3 : Int32) = nI 3 from rfl, nI_add]; exact vp_in_nI (by omega) (by omega)
  obtain ⟨u3, ev3⟩ : ∃ z, xs (x3 + 3).toNatClampNeg = z := ⟨_, rfl⟩
  obtain ⟨r, S2, T2, hfx, hfm, hR2⟩ := op_travel hR u1 u2 u3
  refine lv_aload_n hx hb dL_law_377 rfl (lv_at hl 2 rfl) ?_
  refine lv_aload_n hx hb dL_law_378 rfl (lv_at hl 1 rfl) ?_
  refine lv_iload_n hx hb dL_law_379 rfl (lv_at hl 0 rfl) ?_
  refine lv_iconst (v := 1) hx hb dL_law_380 (by decide) ?_
  refine lv_iadd hx hb dL_law_381 ?_
  refine l_sld hx hb hX hbl hbA hw.2.2 h1 ev1 dL_law_382 ?_
  refine lv_aload_n hx hb dL_law_383 rfl (lv_at hl 1 rfl) ?_
  refine lv_iload_n hx hb dL_law_384 rfl (lv_at hl 0 rfl) ?_
  refine lv_iconst (v := 2) hx hb dL_law_385 (by decide) ?_
  refine lv_iadd hx hb dL_law_386 ?_
  refine l_sld hx hb hX hbl hbA hw.2.2 h2 ev2 dL_law_387 ?_
  refine lv_aload_n hx hb dL_law_388 rfl (lv_at hl 1 rfl) ?_
  refine lv_iload_n hx hb dL_law_389 rfl (lv_at hl 0 rfl) ?_
  refine lv_iconst (v := 3) hx hb dL_law_390 (by decide) ?_
  refine lv_iadd hx hb dL_law_391 ?_
  refine l_sld hx hb hX hbl hbA hw.2.2 h3 ev3 dL_law_392 ?_
  refine cV (As := [.int u1, .int u2, .int u3]) (rest := []) ⟨hx, hb, hml, hown, hts⟩ hG hA hw (c_X7_travel G l a ha _ S u1 u2 u3 r S2 hfx) (cwV 3 hts gL_law_X7_travel rfl rfl rfl (by decide +kernel) ⟨Nat.le_of_ble_eq_true rfl, Nat.le_of_ble_eq_true rfl⟩) (va_recv hG.1 hw.1 (ci := 7) (q0 := 0) rfl rfl) rfl hl.1 rfl (Nat.le_of_ble_eq_true rfl) dL_law_393 ⟨by show _ ≤ 600000; omega, by show _ ≤ 7302249; omega⟩ (fun H locs hw => ?_)
  replace hw := wd_toM hw
  refine lv_aload_n hx hb dL_law_396 rfl (lv_at hl 3 rfl) ?_
  refine lv_aload_n hx hb dL_law_397 rfl (lv_at hl 1 rfl) ?_
  refine lv_iload_n hx hb dL_law_398 rfl (lv_at hl 0 rfl) ?_
  refine lv_iconst (v := 1) hx hb dL_law_399 (by decide) ?_
  refine lv_iadd hx hb dL_law_400 ?_
  refine l_sld hx hb hX hbl hbA hw.2.2 h1 ev1 dL_law_401 ?_
  refine lv_aload_n hx hb dL_law_402 rfl (lv_at hl 1 rfl) ?_
  refine lv_iload_n hx hb dL_law_403 rfl (lv_at hl 0 rfl) ?_
  refine lv_iconst (v := 2) hx hb dL_law_404 (by decide) ?_
  refine lv_iadd hx hb dL_law_405 ?_
  refine l_sld hx hb hX hbl hbA hw.2.2 h2 ev2 dL_law_406 ?_
  refine lv_aload_n hx hb dL_law_407 rfl (lv_at hl 1 rfl) ?_
  refine lv_iload_n hx hb dL_law_408 rfl (lv_at hl 0 rfl) ?_
  refine lv_iconst (v := 3) hx hb dL_law_409 (by decide) ?_
  refine lv_iadd hx hb dL_law_410 ?_
  refine l_sld hx hb hX hbl hbA hw.2.2 h3 ev3 dL_law_411 ?_
  refine cV (As := [.int u1, .int u2, .int u3]) (rest := [.int r]) ⟨hx, hb, hml, hown, hts⟩ hG hA hw (c_X8_travel G l b2 _ T u1 u2 u3 r T2 hfm) (cwV 3 hts gL_law_X8_travel rfl rfl rfl (by decide +kernel) ⟨Nat.le_of_ble_eq_true rfl, Nat.le_of_ble_eq_true rfl⟩) (va_recv hG.1 hw.1 (ci := 8) (q0 := 0) rfl rfl) rfl hl.1 rfl (Nat.le_of_ble_eq_true rfl) dL_law_412 ⟨by show _ ≤ 600000; omega, by show _ ≤ 7302249; omega⟩ (fun H locs hw => ?_)
  replace hw := wd_toX hw
  refine lv_icmp_eq (tgt := 1133) hx hb dL_law_415 (by decide) (fun _ => ?_) (fun c0 => absurd rfl c0)
  refine W.widen (k := 200 + (k + 1)) (n := 100000 + 15 * (k + 1)) (by omega) (by omega) ?_
  exact go _ _ _ _ _ _ _ hR2 ha hw hl
set_option maxHeartbeats 4000000 in
set_option maxRecDepth 100000 in
theorem law_lawyer {p : Program} {l : Launch} {e : Env} {s : State} {m : MethodId} {below : List Frame} {meth : Method} {c : Code} {G : GP} {b L : Nat} {xs : Nat → Int32} (hL : L ≤ 4096) (C0 : lw_At p s m meth c b L xs) (hG : Gb G (fun q : Nat => s.heap.size ≤ q) s s.heap) (hO : Ao s) {k : Nat} (hk : 8 * k + 8 ≤ L) {x3 : Int32} (e3 : x3 = nI (8 * k)) (go : ∀ (S T : St) (a b2 : Nat → Nat) (H : Heap) (locs : List Loc) (ls : Array Slot), Rel S T → a 45 = G.2.2.1 → Wd G (fun q : Nat => s.heap.size ≤ q) s H locs (xw G.2.1 a (mw G.2.1 b2 [] T) S) → lv_has ls 4 [(3, .int x3), (0, .ref b), (1, .ref (a 0)), (2, .ref (b2 0))] → W p l e room_1 s m #[Value.ref b] below meth c H locs (200 + (k + 1)) (100000 + 15 * (k + 1)) (lw_Z below #[Value.ref b] s) (F0 m 1133 ls [])) {S T : St} (hR : Rel S T) {a b2 : Nat → Nat} (ha : a 45 = G.2.2.1) {H : Heap} {locs : List Loc} (hw : Wd G (fun q : Nat => s.heap.size ≤ q) s H locs (xw G.2.1 a (mw G.2.1 b2 [] T) S)) {ls : Array Slot} (hl : lv_has ls 4 [(3, .int x3), (0, .ref b), (1, .ref (a 0)), (2, .ref (b2 0))]) : W p l e room_1 s m #[Value.ref b] below meth c H locs (200 + k) (100000 + 15 * k) (lw_Z below #[Value.ref b] s) (F0 m 420 ls []) := by
  obtain ⟨hx, hb, hr, hml, hown, hts0, hX, hbl, hlocks, hgv⟩ := C0
  have hts : ∀ w ∈ wsL_law, w.before #[Value.ref b] s = true := fun w h => hts0 w (wsL_law_in w h)
  have hA : ∀ q : Nat, s.heap.size ≤ q → (fun q : Nat => s.heap.size ≤ q) q := fun _ h => h
  have hbA : ¬ (fun q : Nat => s.heap.size ≤ q) b := Nat.not_le.mpr hbl
  have h1 : vp_in (x3 + 1) L := by rw [e3, show (1 : Int32) = nI 1 from rfl, nI_add]; exact vp_in_nI (by omega) (by omega)
  obtain ⟨u1, ev1⟩ : ∃ z, xs (x3 + 1).toNatClampNeg = z := ⟨_, rfl⟩
  have h2 : vp_in (x3 + 2) L := by rw [e3, show (2 : Int32) = nI 2 from rfl, nI_add]; exact vp_in_nI (by omega) (by omega)
  obtain ⟨u2, ev2⟩ : ∃ z, xs (x3 + 2).toNatClampNeg = z := ⟨_, rfl⟩
  obtain ⟨r, S2, T2, hfx, hfm, hR2⟩ := op_lawyer hR u1 u2
  obtain ⟨hfx, rfl⟩ := hfx
  obtain ⟨hfm, rfl⟩ := hfm
  refine lv_aload_n hx hb dL_law_420 rfl (lv_at hl 2 rfl) ?_
  refine lv_aload_n hx hb dL_law_421 rfl (lv_at hl 1 rfl) ?_
  refine lv_iload_n hx hb dL_law_422 rfl (lv_at hl 0 rfl) ?_
  refine lv_iconst (v := 1) hx hb dL_law_423 (by decide) ?_
  refine lv_iadd hx hb dL_law_424 ?_
  refine l_sld hx hb hX hbl hbA hw.2.2 h1 ev1 dL_law_425 ?_
  refine lv_aload_n hx hb dL_law_426 rfl (lv_at hl 1 rfl) ?_
  refine lv_iload_n hx hb dL_law_427 rfl (lv_at hl 0 rfl) ?_
  refine lv_iconst (v := 2) hx hb dL_law_428 (by decide) ?_
  refine lv_iadd hx hb dL_law_429 ?_
  refine l_sld hx hb hX hbl hbA hw.2.2 h2 ev2 dL_law_430 ?_
  refine cV (As := [.int u1, .int u2]) (rest := []) ⟨hx, hb, hml, hown, hts⟩ hG hA hw (c_X7_lawyer G l a ha _ S u1 u2 r hfx) (cwV 2 hts gL_law_X7_lawyer rfl rfl rfl (by decide +kernel) ⟨Nat.le_of_ble_eq_true rfl, Nat.le_of_ble_eq_true rfl⟩) (va_recv hG.1 hw.1 (ci := 7) (q0 := 0) rfl rfl) rfl hl.1 rfl (Nat.le_of_ble_eq_true rfl) dL_law_431 ⟨by show _ ≤ 600000; omega, by show _ ≤ 7302249; omega⟩ (fun H locs hw => ?_)
  replace hw := wd_toM hw
  refine lv_aload_n hx hb dL_law_434 rfl (lv_at hl 3 rfl) ?_
  refine lv_aload_n hx hb dL_law_435 rfl (lv_at hl 1 rfl) ?_
  refine lv_iload_n hx hb dL_law_436 rfl (lv_at hl 0 rfl) ?_
  refine lv_iconst (v := 1) hx hb dL_law_437 (by decide) ?_
  refine lv_iadd hx hb dL_law_438 ?_
  refine l_sld hx hb hX hbl hbA hw.2.2 h1 ev1 dL_law_439 ?_
  refine lv_aload_n hx hb dL_law_440 rfl (lv_at hl 1 rfl) ?_
  refine lv_iload_n hx hb dL_law_441 rfl (lv_at hl 0 rfl) ?_
  refine lv_iconst (v := 2) hx hb dL_law_442 (by decide) ?_
  refine lv_iadd hx hb dL_law_443 ?_
  refine l_sld hx hb hX hbl hbA hw.2.2 h2 ev2 dL_law_444 ?_
  refine cV (As := [.int u1, .int u2]) (rest := [.int r]) ⟨hx, hb, hml, hown, hts⟩ hG hA hw (c_X8_lawyer G l b2 _ T u1 u2 r hfm) (cwV 2 hts gL_law_X8_lawyer rfl rfl rfl (by decide +kernel) ⟨Nat.le_of_ble_eq_true rfl, Nat.le_of_ble_eq_true rfl⟩) (va_recv hG.1 hw.1 (ci := 8) (q0 := 0) rfl rfl) rfl hl.1 rfl (Nat.le_of_ble_eq_true rfl) dL_law_445 ⟨by show _ ≤ 600000; omega, by show _ ≤ 7302249; omega⟩ (fun H locs hw => ?_)
  replace hw := wd_toX hw
  refine lv_icmp_eq (tgt := 1133) hx hb dL_law_448 (by decide) (fun _ => ?_) (fun c0 => absurd rfl c0)
  refine W.widen (k := 200 + (k + 1)) (n := 100000 + 15 * (k + 1)) (by omega) (by omega) ?_
  exact go _ _ _ _ _ _ _ hR2 ha hw hl
set_option maxHeartbeats 4000000 in
set_option maxRecDepth 100000 in
theorem law_edition {p : Program} {l : Launch} {e : Env} {s : State} {m : MethodId} {below : List Frame} {meth : Method} {c : Code} {G : GP} {b L : Nat} {xs : Nat → Int32} (hL : L ≤ 4096) (C0 : lw_At p s m meth c b L xs) (hG : Gb G (fun q : Nat => s.heap.size ≤ q) s s.heap) (hO : Ao s) {k : Nat} (hk : 8 * k + 8 ≤ L) {x3 : Int32} (e3 : x3 = nI (8 * k)) (go : ∀ (S T : St) (a b2 : Nat → Nat) (H : Heap) (locs : List Loc) (ls : Array Slot), Rel S T → a 45 = G.2.2.1 → Wd G (fun q : Nat => s.heap.size ≤ q) s H locs (xw G.2.1 a (mw G.2.1 b2 [] T) S) → lv_has ls 4 [(3, .int x3), (0, .ref b), (1, .ref (a 0)), (2, .ref (b2 0))] → W p l e room_1 s m #[Value.ref b] below meth c H locs (200 + (k + 1)) (100000 + 15 * (k + 1)) (lw_Z below #[Value.ref b] s) (F0 m 1133 ls [])) {S T : St} (hR : Rel S T) {a b2 : Nat → Nat} (ha : a 45 = G.2.2.1) {H : Heap} {locs : List Loc} (hw : Wd G (fun q : Nat => s.heap.size ≤ q) s H locs (xw G.2.1 a (mw G.2.1 b2 [] T) S)) {ls : Array Slot} (hl : lv_has ls 4 [(3, .int x3), (0, .ref b), (1, .ref (a 0)), (2, .ref (b2 0))]) : W p l e room_1 s m #[Value.ref b] below meth c H locs (200 + k) (100000 + 15 * k) (lw_Z below #[Value.ref b] s) (F0 m 453 ls []) := by
  obtain ⟨hx, hb, hr, hml, hown, hts0, hX, hbl, hlocks, hgv⟩ := C0
  have hts : ∀ w ∈ wsL_law, w.before #[Value.ref b] s = true := fun w h => hts0 w (wsL_law_in w h)
  have hA : ∀ q : Nat, s.heap.size ≤ q → (fun q : Nat => s.heap.size ≤ q) q := fun _ h => h
  have hbA : ¬ (fun q : Nat => s.heap.size ≤ q) b := Nat.not_le.mpr hbl
  have h1 : vp_in (x3 + 1) L := by rw [e3, show (1 : Int32) = nI 1 from rfl, nI_add]; exact vp_in_nI (by omega) (by omega)
  obtain ⟨u1, ev1⟩ : ∃ z, xs (x3 + 1).toNatClampNeg = z := ⟨_, rfl⟩
  obtain ⟨r, S2, T2, hfx, hfm, hR2⟩ := op_edition hR u1
  refine lv_aload_n hx hb dL_law_453 rfl (lv_at hl 2 rfl) ?_
  refine lv_aload_n hx hb dL_law_454 rfl (lv_at hl 1 rfl) ?_
  refine lv_iload_n hx hb dL_law_455 rfl (lv_at hl 0 rfl) ?_
  refine lv_iconst (v := 1) hx hb dL_law_456 (by decide) ?_
  refine lv_iadd hx hb dL_law_457 ?_
  refine l_sld hx hb hX hbl hbA hw.2.2 h1 ev1 dL_law_458 ?_
  refine cV (As := [.int u1]) (rest := []) ⟨hx, hb, hml, hown, hts⟩ hG hA hw (c_X7_edition G l a ha _ S u1 r S2 hfx) (cwV 1 hts gL_law_X7_edition rfl rfl rfl (by decide +kernel) ⟨Nat.le_of_ble_eq_true rfl, Nat.le_of_ble_eq_true rfl⟩) (va_recv hG.1 hw.1 (ci := 7) (q0 := 0) rfl rfl) rfl hl.1 rfl (Nat.le_of_ble_eq_true rfl) dL_law_459 ⟨by show _ ≤ 600000; omega, by show _ ≤ 7302249; omega⟩ (fun H locs hw => ?_)
  replace hw := wd_toM hw
  refine lv_aload_n hx hb dL_law_462 rfl (lv_at hl 3 rfl) ?_
  refine lv_aload_n hx hb dL_law_463 rfl (lv_at hl 1 rfl) ?_
  refine lv_iload_n hx hb dL_law_464 rfl (lv_at hl 0 rfl) ?_
  refine lv_iconst (v := 1) hx hb dL_law_465 (by decide) ?_
  refine lv_iadd hx hb dL_law_466 ?_
  refine l_sld hx hb hX hbl hbA hw.2.2 h1 ev1 dL_law_467 ?_
  refine cV (As := [.int u1]) (rest := [.int r]) ⟨hx, hb, hml, hown, hts⟩ hG hA hw (c_X8_edition G l b2 _ T u1 r T2 hfm) (cwV 1 hts gL_law_X8_edition rfl rfl rfl (by decide +kernel) ⟨Nat.le_of_ble_eq_true rfl, Nat.le_of_ble_eq_true rfl⟩) (va_recv hG.1 hw.1 (ci := 8) (q0 := 0) rfl rfl) rfl hl.1 rfl (Nat.le_of_ble_eq_true rfl) dL_law_468 ⟨by show _ ≤ 600000; omega, by show _ ≤ 7302249; omega⟩ (fun H locs hw => ?_)
  replace hw := wd_toX hw
  refine lv_icmp_eq (tgt := 1133) hx hb dL_law_471 (by decide) (fun _ => ?_) (fun c0 => absurd rfl c0)
  refine W.widen (k := 200 + (k + 1)) (n := 100000 + 15 * (k + 1)) (by omega) (by omega) ?_
  exact go _ _ _ _ _ _ _ hR2 ha hw hl
set_option maxHeartbeats 4000000 in
set_option maxRecDepth 100000 in
theorem law_fault {p : Program} {l : Launch} {e : Env} {s : State} {m : MethodId} {below : List Frame} {meth : Method} {c : Code} {G : GP} {b L : Nat} {xs : Nat → Int32} (hL : L ≤ 4096) (C0 : lw_At p s m meth c b L xs) (hG : Gb G (fun q : Nat => s.heap.size ≤ q) s s.heap) (hO : Ao s) {k : Nat} (hk : 8 * k + 8 ≤ L) {x3 : Int32} (e3 : x3 = nI (8 * k)) (go : ∀ (S T : St) (a b2 : Nat → Nat) (H : Heap) (locs : List Loc) (ls : Array Slot), Rel S T → a 45 = G.2.2.1 → Wd G (fun q : Nat => s.heap.size ≤ q) s H locs (xw G.2.1 a (mw G.2.1 b2 [] T) S) → lv_has ls 4 [(3, .int x3), (0, .ref b), (1, .ref (a 0)), (2, .ref (b2 0))] → W p l e room_1 s m #[Value.ref b] below meth c H locs (200 + (k + 1)) (100000 + 15 * (k + 1)) (lw_Z below #[Value.ref b] s) (F0 m 1133 ls [])) {S T : St} (hR : Rel S T) {a b2 : Nat → Nat} (ha : a 45 = G.2.2.1) {H : Heap} {locs : List Loc} (hw : Wd G (fun q : Nat => s.heap.size ≤ q) s H locs (xw G.2.1 a (mw G.2.1 b2 [] T) S)) {ls : Array Slot} (hl : lv_has ls 4 [(3, .int x3), (0, .ref b), (1, .ref (a 0)), (2, .ref (b2 0))]) : W p l e room_1 s m #[Value.ref b] below meth c H locs (200 + k) (100000 + 15 * k) (lw_Z below #[Value.ref b] s) (F0 m 476 ls []) := by
  obtain ⟨hx, hb, hr, hml, hown, hts0, hX, hbl, hlocks, hgv⟩ := C0
  have hts : ∀ w ∈ wsL_law, w.before #[Value.ref b] s = true := fun w h => hts0 w (wsL_law_in w h)
  have hA : ∀ q : Nat, s.heap.size ≤ q → (fun q : Nat => s.heap.size ≤ q) q := fun _ h => h
  have hbA : ¬ (fun q : Nat => s.heap.size ≤ q) b := Nat.not_le.mpr hbl
  have h1 : vp_in (x3 + 1) L := by rw [e3, show (1 : Int32) = nI 1 from rfl, nI_add]; exact vp_in_nI (by omega) (by omega)
  obtain ⟨u1, ev1⟩ : ∃ z, xs (x3 + 1).toNatClampNeg = z := ⟨_, rfl⟩
  obtain ⟨r, S2, T2, hfx, hfm, hR2⟩ := op_fault hR u1
  obtain ⟨hfx, rfl⟩ := hfx
  obtain ⟨hfm, rfl⟩ := hfm
  refine lv_aload_n hx hb dL_law_476 rfl (lv_at hl 2 rfl) ?_
  refine lv_aload_n hx hb dL_law_477 rfl (lv_at hl 1 rfl) ?_
  refine lv_iload_n hx hb dL_law_478 rfl (lv_at hl 0 rfl) ?_
  refine lv_iconst (v := 1) hx hb dL_law_479 (by decide) ?_
  refine lv_iadd hx hb dL_law_480 ?_
  refine l_sld hx hb hX hbl hbA hw.2.2 h1 ev1 dL_law_481 ?_
  refine cV (As := [.int u1]) (rest := []) ⟨hx, hb, hml, hown, hts⟩ hG hA hw (c_X7_fault G l a ha _ S u1 r hfx) (cwV 1 hts gL_law_X7_fault rfl rfl rfl (by decide +kernel) ⟨Nat.le_of_ble_eq_true rfl, Nat.le_of_ble_eq_true rfl⟩) (va_recv hG.1 hw.1 (ci := 7) (q0 := 0) rfl rfl) rfl hl.1 rfl (Nat.le_of_ble_eq_true rfl) dL_law_482 ⟨by show _ ≤ 600000; omega, by show _ ≤ 7302249; omega⟩ (fun H locs hw => ?_)
  replace hw := wd_toM hw
  refine lv_aload_n hx hb dL_law_485 rfl (lv_at hl 3 rfl) ?_
  refine lv_aload_n hx hb dL_law_486 rfl (lv_at hl 1 rfl) ?_
  refine lv_iload_n hx hb dL_law_487 rfl (lv_at hl 0 rfl) ?_
  refine lv_iconst (v := 1) hx hb dL_law_488 (by decide) ?_
  refine lv_iadd hx hb dL_law_489 ?_
  refine l_sld hx hb hX hbl hbA hw.2.2 h1 ev1 dL_law_490 ?_
  refine cV (As := [.int u1]) (rest := [.int r]) ⟨hx, hb, hml, hown, hts⟩ hG hA hw (c_X8_fault G l b2 _ T u1 r hfm) (cwV 1 hts gL_law_X8_fault rfl rfl rfl (by decide +kernel) ⟨Nat.le_of_ble_eq_true rfl, Nat.le_of_ble_eq_true rfl⟩) (va_recv hG.1 hw.1 (ci := 8) (q0 := 0) rfl rfl) rfl hl.1 rfl (Nat.le_of_ble_eq_true rfl) dL_law_491 ⟨by show _ ≤ 600000; omega, by show _ ≤ 7302249; omega⟩ (fun H locs hw => ?_)
  replace hw := wd_toX hw
  refine lv_icmp_eq (tgt := 1133) hx hb dL_law_494 (by decide) (fun _ => ?_) (fun c0 => absurd rfl c0)
  refine W.widen (k := 200 + (k + 1)) (n := 100000 + 15 * (k + 1)) (by omega) (by omega) ?_
  exact go _ _ _ _ _ _ _ hR2 ha hw hl
set_option maxHeartbeats 4000000 in
set_option maxRecDepth 100000 in
theorem law_inForce {p : Program} {l : Launch} {e : Env} {s : State} {m : MethodId} {below : List Frame} {meth : Method} {c : Code} {G : GP} {b L : Nat} {xs : Nat → Int32} (hL : L ≤ 4096) (C0 : lw_At p s m meth c b L xs) (hG : Gb G (fun q : Nat => s.heap.size ≤ q) s s.heap) (hO : Ao s) {k : Nat} (hk : 8 * k + 8 ≤ L) {x3 : Int32} (e3 : x3 = nI (8 * k)) (go : ∀ (S T : St) (a b2 : Nat → Nat) (H : Heap) (locs : List Loc) (ls : Array Slot), Rel S T → a 45 = G.2.2.1 → Wd G (fun q : Nat => s.heap.size ≤ q) s H locs (xw G.2.1 a (mw G.2.1 b2 [] T) S) → lv_has ls 4 [(3, .int x3), (0, .ref b), (1, .ref (a 0)), (2, .ref (b2 0))] → W p l e room_1 s m #[Value.ref b] below meth c H locs (200 + (k + 1)) (100000 + 15 * (k + 1)) (lw_Z below #[Value.ref b] s) (F0 m 1133 ls [])) {S T : St} (hR : Rel S T) {a b2 : Nat → Nat} (ha : a 45 = G.2.2.1) {H : Heap} {locs : List Loc} (hw : Wd G (fun q : Nat => s.heap.size ≤ q) s H locs (xw G.2.1 a (mw G.2.1 b2 [] T) S)) {ls : Array Slot} (hl : lv_has ls 4 [(3, .int x3), (0, .ref b), (1, .ref (a 0)), (2, .ref (b2 0))]) : W p l e room_1 s m #[Value.ref b] below meth c H locs (200 + k) (100000 + 15 * k) (lw_Z below #[Value.ref b] s) (F0 m 499 ls []) := by
  obtain ⟨hx, hb, hr, hml, hown, hts0, hX, hbl, hlocks, hgv⟩ := C0
  have hts : ∀ w ∈ wsL_law, w.before #[Value.ref b] s = true := fun w h => hts0 w (wsL_law_in w h)
  have hA : ∀ q : Nat, s.heap.size ≤ q → (fun q : Nat => s.heap.size ≤ q) q := fun _ h => h
  have hbA : ¬ (fun q : Nat => s.heap.size ≤ q) b := Nat.not_le.mpr hbl
  have h1 : vp_in (x3 + 1) L := by rw [e3, show (1 : Int32) = nI 1 from rfl, nI_add]; exact vp_in_nI (by omega) (by omega)
  obtain ⟨u1, ev1⟩ : ∃ z, xs (x3 + 1).toNatClampNeg = z := ⟨_, rfl⟩
  have h2 : vp_in (x3 + 2) L := by rw [e3, show (2 : Int32) = nI 2 from rfl, nI_add]; exact vp_in_nI (by omega) (by omega)
  obtain ⟨u2, ev2⟩ : ∃ z, xs (x3 + 2).toNatClampNeg = z := ⟨_, rfl⟩
  obtain ⟨r, S2, T2, hfx, hfm, hR2⟩ := op_inForce hR u1 u2
  obtain ⟨hfx, rfl⟩ := hfx
  obtain ⟨hfm, rfl⟩ := hfm
  refine lv_aload_n hx hb dL_law_499 rfl (lv_at hl 2 rfl) ?_
  refine lv_aload_n hx hb dL_law_500 rfl (lv_at hl 1 rfl) ?_
  refine lv_iload_n hx hb dL_law_501 rfl (lv_at hl 0 rfl) ?_
  refine lv_iconst (v := 1) hx hb dL_law_502 (by decide) ?_
  refine lv_iadd hx hb dL_law_503 ?_
  refine l_sld hx hb hX hbl hbA hw.2.2 h1 ev1 dL_law_504 ?_
  refine lv_aload_n hx hb dL_law_505 rfl (lv_at hl 1 rfl) ?_
  refine lv_iload_n hx hb dL_law_506 rfl (lv_at hl 0 rfl) ?_
  refine lv_iconst (v := 2) hx hb dL_law_507 (by decide) ?_
  refine lv_iadd hx hb dL_law_508 ?_
  refine l_sld hx hb hX hbl hbA hw.2.2 h2 ev2 dL_law_509 ?_
  refine cV (As := [.int u1, .int u2]) (rest := []) ⟨hx, hb, hml, hown, hts⟩ hG hA hw (c_X7_inForce G l a ha _ S u1 u2 r hfx) (cwV 2 hts gL_law_X7_inForce rfl rfl rfl (by decide +kernel) ⟨Nat.le_of_ble_eq_true rfl, Nat.le_of_ble_eq_true rfl⟩) (va_recv hG.1 hw.1 (ci := 7) (q0 := 0) rfl rfl) rfl hl.1 rfl (Nat.le_of_ble_eq_true rfl) dL_law_510 ⟨by show _ ≤ 600000; omega, by show _ ≤ 7302249; omega⟩ (fun H locs hw => ?_)
  replace hw := wd_toM hw
  refine lv_aload_n hx hb dL_law_513 rfl (lv_at hl 3 rfl) ?_
  refine lv_aload_n hx hb dL_law_514 rfl (lv_at hl 1 rfl) ?_
  refine lv_iload_n hx hb dL_law_515 rfl (lv_at hl 0 rfl) ?_
  refine lv_iconst (v := 1) hx hb dL_law_516 (by decide) ?_
  refine lv_iadd hx hb dL_law_517 ?_
  refine l_sld hx hb hX hbl hbA hw.2.2 h1 ev1 dL_law_518 ?_
  refine lv_aload_n hx hb dL_law_519 rfl (lv_at hl 1 rfl) ?_
  refine lv_iload_n hx hb dL_law_520 rfl (lv_at hl 0 rfl) ?_
  refine lv_iconst (v := 2) hx hb dL_law_521 (by decide) ?_
  refine lv_iadd hx hb dL_law_522 ?_
  refine l_sld hx hb hX hbl hbA hw.2.2 h2 ev2 dL_law_523 ?_
  refine cV (As := [.int u1, .int u2]) (rest := [.int r]) ⟨hx, hb, hml, hown, hts⟩ hG hA hw (c_X8_inForce G l b2 _ T u1 u2 r hfm) (cwV 2 hts gL_law_X8_inForce rfl rfl rfl (by decide +kernel) ⟨Nat.le_of_ble_eq_true rfl, Nat.le_of_ble_eq_true rfl⟩) (va_recv hG.1 hw.1 (ci := 8) (q0 := 0) rfl rfl) rfl hl.1 rfl (Nat.le_of_ble_eq_true rfl) dL_law_524 ⟨by show _ ≤ 600000; omega, by show _ ≤ 7302249; omega⟩ (fun H locs hw => ?_)
  replace hw := wd_toX hw
  refine lv_icmp_eq (tgt := 1133) hx hb dL_law_527 (by decide) (fun _ => ?_) (fun c0 => absurd rfl c0)
  refine W.widen (k := 200 + (k + 1)) (n := 100000 + 15 * (k + 1)) (by omega) (by omega) ?_
  exact go _ _ _ _ _ _ _ hR2 ha hw hl
set_option maxHeartbeats 4000000 in
set_option maxRecDepth 100000 in
theorem law_rule {p : Program} {l : Launch} {e : Env} {s : State} {m : MethodId} {below : List Frame} {meth : Method} {c : Code} {G : GP} {b L : Nat} {xs : Nat → Int32} (hL : L ≤ 4096) (C0 : lw_At p s m meth c b L xs) (hG : Gb G (fun q : Nat => s.heap.size ≤ q) s s.heap) (hO : Ao s) {k : Nat} (hk : 8 * k + 8 ≤ L) {x3 : Int32} (e3 : x3 = nI (8 * k)) (go : ∀ (S T : St) (a b2 : Nat → Nat) (H : Heap) (locs : List Loc) (ls : Array Slot), Rel S T → a 45 = G.2.2.1 → Wd G (fun q : Nat => s.heap.size ≤ q) s H locs (xw G.2.1 a (mw G.2.1 b2 [] T) S) → lv_has ls 4 [(3, .int x3), (0, .ref b), (1, .ref (a 0)), (2, .ref (b2 0))] → W p l e room_1 s m #[Value.ref b] below meth c H locs (200 + (k + 1)) (100000 + 15 * (k + 1)) (lw_Z below #[Value.ref b] s) (F0 m 1133 ls [])) {S T : St} (hR : Rel S T) {a b2 : Nat → Nat} (ha : a 45 = G.2.2.1) {H : Heap} {locs : List Loc} (hw : Wd G (fun q : Nat => s.heap.size ≤ q) s H locs (xw G.2.1 a (mw G.2.1 b2 [] T) S)) {ls : Array Slot} (hl : lv_has ls 4 [(3, .int x3), (0, .ref b), (1, .ref (a 0)), (2, .ref (b2 0))]) : W p l e room_1 s m #[Value.ref b] below meth c H locs (200 + k) (100000 + 15 * k) (lw_Z below #[Value.ref b] s) (F0 m 532 ls []) := by
  obtain ⟨hx, hb, hr, hml, hown, hts0, hX, hbl, hlocks, hgv⟩ := C0
  have hts : ∀ w ∈ wsL_law, w.before #[Value.ref b] s = true := fun w h => hts0 w (wsL_law_in w h)
  have hA : ∀ q : Nat, s.heap.size ≤ q → (fun q : Nat => s.heap.size ≤ q) q := fun _ h => h
  have hbA : ¬ (fun q : Nat => s.heap.size ≤ q) b := Nat.not_le.mpr hbl
  have h1 : vp_in (x3 + 1) L := by rw [e3, show (1 : Int32) = nI 1 from rfl, nI_add]; exact vp_in_nI (by omega) (by omega)
  obtain ⟨u1, ev1⟩ : ∃ z, xs (x3 + 1).toNatClampNeg = z := ⟨_, rfl⟩
  have h2 : vp_in (x3 + 2) L := by rw [e3, show (2 : Int32) = nI 2 from rfl, nI_add]; exact vp_in_nI (by omega) (by omega)
  obtain ⟨u2, ev2⟩ : ∃ z, xs (x3 + 2).toNatClampNeg = z := ⟨_, rfl⟩
  obtain ⟨r, S2, T2, hfx, hfm, hR2⟩ := op_rule hR u1 u2
  obtain ⟨hfx, rfl⟩ := hfx
  obtain ⟨hfm, rfl⟩ := hfm
  refine lv_aload_n hx hb dL_law_532 rfl (lv_at hl 2 rfl) ?_
  refine lv_aload_n hx hb dL_law_533 rfl (lv_at hl 1 rfl) ?_
  refine lv_iload_n hx hb dL_law_534 rfl (lv_at hl 0 rfl) ?_
  refine lv_iconst (v := 1) hx hb dL_law_535 (by decide) ?_
  refine lv_iadd hx hb dL_law_536 ?_
  refine l_sld hx hb hX hbl hbA hw.2.2 h1 ev1 dL_law_537 ?_
  refine lv_aload_n hx hb dL_law_538 rfl (lv_at hl 1 rfl) ?_
  refine lv_iload_n hx hb dL_law_539 rfl (lv_at hl 0 rfl) ?_
  refine lv_iconst (v := 2) hx hb dL_law_540 (by decide) ?_
  refine lv_iadd hx hb dL_law_541 ?_
  refine l_sld hx hb hX hbl hbA hw.2.2 h2 ev2 dL_law_542 ?_
  refine cV (As := [.int u1, .int u2]) (rest := []) ⟨hx, hb, hml, hown, hts⟩ hG hA hw (c_X7_rule G l a ha _ S u1 u2 r hfx) (cwV 2 hts gL_law_X7_rule rfl rfl rfl (by decide +kernel) ⟨Nat.le_of_ble_eq_true rfl, Nat.le_of_ble_eq_true rfl⟩) (va_recv hG.1 hw.1 (ci := 7) (q0 := 0) rfl rfl) rfl hl.1 rfl (Nat.le_of_ble_eq_true rfl) dL_law_543 ⟨by show _ ≤ 600000; omega, by show _ ≤ 7302249; omega⟩ (fun H locs hw => ?_)
  replace hw := wd_toM hw
  refine lv_aload_n hx hb dL_law_546 rfl (lv_at hl 3 rfl) ?_
  refine lv_aload_n hx hb dL_law_547 rfl (lv_at hl 1 rfl) ?_
  refine lv_iload_n hx hb dL_law_548 rfl (lv_at hl 0 rfl) ?_
  refine lv_iconst (v := 1) hx hb dL_law_549 (by decide) ?_
  refine lv_iadd hx hb dL_law_550 ?_
  refine l_sld hx hb hX hbl hbA hw.2.2 h1 ev1 dL_law_551 ?_
  refine lv_aload_n hx hb dL_law_552 rfl (lv_at hl 1 rfl) ?_
  refine lv_iload_n hx hb dL_law_553 rfl (lv_at hl 0 rfl) ?_
  refine lv_iconst (v := 2) hx hb dL_law_554 (by decide) ?_
  refine lv_iadd hx hb dL_law_555 ?_
  refine l_sld hx hb hX hbl hbA hw.2.2 h2 ev2 dL_law_556 ?_
  refine cV (As := [.int u1, .int u2]) (rest := [.int r]) ⟨hx, hb, hml, hown, hts⟩ hG hA hw (c_X8_rule G l b2 _ T u1 u2 r hfm) (cwV 2 hts gL_law_X8_rule rfl rfl rfl (by decide +kernel) ⟨Nat.le_of_ble_eq_true rfl, Nat.le_of_ble_eq_true rfl⟩) (va_recv hG.1 hw.1 (ci := 8) (q0 := 0) rfl rfl) rfl hl.1 rfl (Nat.le_of_ble_eq_true rfl) dL_law_557 ⟨by show _ ≤ 600000; omega, by show _ ≤ 7302249; omega⟩ (fun H locs hw => ?_)
  replace hw := wd_toX hw
  refine lv_icmp_eq (tgt := 1133) hx hb dL_law_560 (by decide) (fun _ => ?_) (fun c0 => absurd rfl c0)
  refine W.widen (k := 200 + (k + 1)) (n := 100000 + 15 * (k + 1)) (by omega) (by omega) ?_
  exact go _ _ _ _ _ _ _ hR2 ha hw hl
set_option maxHeartbeats 4000000 in
set_option maxRecDepth 100000 in
theorem law_duty {p : Program} {l : Launch} {e : Env} {s : State} {m : MethodId} {below : List Frame} {meth : Method} {c : Code} {G : GP} {b L : Nat} {xs : Nat → Int32} (hL : L ≤ 4096) (C0 : lw_At p s m meth c b L xs) (hG : Gb G (fun q : Nat => s.heap.size ≤ q) s s.heap) (hO : Ao s) {k : Nat} (hk : 8 * k + 8 ≤ L) {x3 : Int32} (e3 : x3 = nI (8 * k)) (go : ∀ (S T : St) (a b2 : Nat → Nat) (H : Heap) (locs : List Loc) (ls : Array Slot), Rel S T → a 45 = G.2.2.1 → Wd G (fun q : Nat => s.heap.size ≤ q) s H locs (xw G.2.1 a (mw G.2.1 b2 [] T) S) → lv_has ls 4 [(3, .int x3), (0, .ref b), (1, .ref (a 0)), (2, .ref (b2 0))] → W p l e room_1 s m #[Value.ref b] below meth c H locs (200 + (k + 1)) (100000 + 15 * (k + 1)) (lw_Z below #[Value.ref b] s) (F0 m 1133 ls [])) {S T : St} (hR : Rel S T) {a b2 : Nat → Nat} (ha : a 45 = G.2.2.1) {H : Heap} {locs : List Loc} (hw : Wd G (fun q : Nat => s.heap.size ≤ q) s H locs (xw G.2.1 a (mw G.2.1 b2 [] T) S)) {ls : Array Slot} (hl : lv_has ls 4 [(3, .int x3), (0, .ref b), (1, .ref (a 0)), (2, .ref (b2 0))]) : W p l e room_1 s m #[Value.ref b] below meth c H locs (200 + k) (100000 + 15 * k) (lw_Z below #[Value.ref b] s) (F0 m 565 ls []) := by
  obtain ⟨hx, hb, hr, hml, hown, hts0, hX, hbl, hlocks, hgv⟩ := C0
  have hts : ∀ w ∈ wsL_law, w.before #[Value.ref b] s = true := fun w h => hts0 w (wsL_law_in w h)
  have hA : ∀ q : Nat, s.heap.size ≤ q → (fun q : Nat => s.heap.size ≤ q) q := fun _ h => h
  have hbA : ¬ (fun q : Nat => s.heap.size ≤ q) b := Nat.not_le.mpr hbl
  have h1 : vp_in (x3 + 1) L := by rw [e3, show (1 : Int32) = nI 1 from rfl, nI_add]; exact vp_in_nI (by omega) (by omega)
  obtain ⟨u1, ev1⟩ : ∃ z, xs (x3 + 1).toNatClampNeg = z := ⟨_, rfl⟩
  have h2 : vp_in (x3 + 2) L := by rw [e3, show (2 : Int32) = nI 2 from rfl, nI_add]; exact vp_in_nI (by omega) (by omega)
  obtain ⟨u2, ev2⟩ : ∃ z, xs (x3 + 2).toNatClampNeg = z := ⟨_, rfl⟩
  have h3 : vp_in (x3 + 3) L := by rw [e3, show (3 : Int32) = nI 3 from rfl, nI_add]; exact vp_in_nI (by omega) (by omega)
  obtain ⟨u3, ev3⟩ : ∃ z, xs (x3 + 3).toNatClampNeg = z := ⟨_, rfl⟩
  obtain ⟨r, S2, T2, hfx, hfm, hR2⟩ := op_duty hR u1 u2 u3
  refine lv_aload_n hx hb dL_law_565 rfl (lv_at hl 2 rfl) ?_
  refine lv_aload_n hx hb dL_law_566 rfl (lv_at hl 1 rfl) ?_
  refine lv_iload_n hx hb dL_law_567 rfl (lv_at hl 0 rfl) ?_
  refine lv_iconst (v := 1) hx hb dL_law_568 (by decide) ?_
  refine lv_iadd hx hb dL_law_569 ?_
  refine l_sld hx hb hX hbl hbA hw.2.2 h1 ev1 dL_law_570 ?_
  refine lv_aload_n hx hb dL_law_571 rfl (lv_at hl 1 rfl) ?_
  refine lv_iload_n hx hb dL_law_572 rfl (lv_at hl 0 rfl) ?_
  refine lv_iconst (v := 2) hx hb dL_law_573 (by decide) ?_
  refine lv_iadd hx hb dL_law_574 ?_
  refine l_sld hx hb hX hbl hbA hw.2.2 h2 ev2 dL_law_575 ?_
  refine lv_aload_n hx hb dL_law_576 rfl (lv_at hl 1 rfl) ?_
  refine lv_iload_n hx hb dL_law_577 rfl (lv_at hl 0 rfl) ?_
  refine lv_iconst (v := 3) hx hb dL_law_578 (by decide) ?_
  refine lv_iadd hx hb dL_law_579 ?_
  refine l_sld hx hb hX hbl hbA hw.2.2 h3 ev3 dL_law_580 ?_
  refine cV (As := [.int u1, .int u2, .int u3]) (rest := []) ⟨hx, hb, hml, hown, hts⟩ hG hA hw (c_X7_duty G l a ha _ S u1 u2 u3 r S2 hfx) (cwV 3 hts gL_law_X7_duty rfl rfl rfl (by decide +kernel) ⟨Nat.le_of_ble_eq_true rfl, Nat.le_of_ble_eq_true rfl⟩) (va_recv hG.1 hw.1 (ci := 7) (q0 := 0) rfl rfl) rfl hl.1 rfl (Nat.le_of_ble_eq_true rfl) dL_law_581 ⟨by show _ ≤ 600000; omega, by show _ ≤ 7302249; omega⟩ (fun H locs hw => ?_)
  replace hw := wd_toM hw
  refine lv_aload_n hx hb dL_law_584 rfl (lv_at hl 3 rfl) ?_
  refine lv_aload_n hx hb dL_law_585 rfl (lv_at hl 1 rfl) ?_
  refine lv_iload_n hx hb dL_law_586 rfl (lv_at hl 0 rfl) ?_
  refine lv_iconst (v := 1) hx hb dL_law_587 (by decide) ?_
  refine lv_iadd hx hb dL_law_588 ?_
  refine l_sld hx hb hX hbl hbA hw.2.2 h1 ev1 dL_law_589 ?_
  refine lv_aload_n hx hb dL_law_590 rfl (lv_at hl 1 rfl) ?_
  refine lv_iload_n hx hb dL_law_591 rfl (lv_at hl 0 rfl) ?_
  refine lv_iconst (v := 2) hx hb dL_law_592 (by decide) ?_
  refine lv_iadd hx hb dL_law_593 ?_
  refine l_sld hx hb hX hbl hbA hw.2.2 h2 ev2 dL_law_594 ?_
  refine lv_aload_n hx hb dL_law_595 rfl (lv_at hl 1 rfl) ?_
  refine lv_iload_n hx hb dL_law_596 rfl (lv_at hl 0 rfl) ?_
  refine lv_iconst (v := 3) hx hb dL_law_597 (by decide) ?_
  refine lv_iadd hx hb dL_law_598 ?_
  refine l_sld hx hb hX hbl hbA hw.2.2 h3 ev3 dL_law_599 ?_
  refine cV (As := [.int u1, .int u2, .int u3]) (rest := [.int r]) ⟨hx, hb, hml, hown, hts⟩ hG hA hw (c_X8_duty G l b2 _ T u1 u2 u3 r T2 hfm) (cwV 3 hts gL_law_X8_duty rfl rfl rfl (by decide +kernel) ⟨Nat.le_of_ble_eq_true rfl, Nat.le_of_ble_eq_true rfl⟩) (va_recv hG.1 hw.1 (ci := 8) (q0 := 0) rfl rfl) rfl hl.1 rfl (Nat.le_of_ble_eq_true rfl) dL_law_600 ⟨by show _ ≤ 600000; omega, by show _ ≤ 7302249; omega⟩ (fun H locs hw => ?_)
  replace hw := wd_toX hw
  refine lv_icmp_eq (tgt := 1133) hx hb dL_law_603 (by decide) (fun _ => ?_) (fun c0 => absurd rfl c0)
  refine W.widen (k := 200 + (k + 1)) (n := 100000 + 15 * (k + 1)) (by omega) (by omega) ?_
  exact go _ _ _ _ _ _ _ hR2 ha hw hl
set_option maxHeartbeats 4000000 in
set_option maxRecDepth 100000 in
theorem law_onDuty {p : Program} {l : Launch} {e : Env} {s : State} {m : MethodId} {below : List Frame} {meth : Method} {c : Code} {G : GP} {b L : Nat} {xs : Nat → Int32} (hL : L ≤ 4096) (C0 : lw_At p s m meth c b L xs) (hG : Gb G (fun q : Nat => s.heap.size ≤ q) s s.heap) (hO : Ao s) {k : Nat} (hk : 8 * k + 8 ≤ L) {x3 : Int32} (e3 : x3 = nI (8 * k)) (go : ∀ (S T : St) (a b2 : Nat → Nat) (H : Heap) (locs : List Loc) (ls : Array Slot), Rel S T → a 45 = G.2.2.1 → Wd G (fun q : Nat => s.heap.size ≤ q) s H locs (xw G.2.1 a (mw G.2.1 b2 [] T) S) → lv_has ls 4 [(3, .int x3), (0, .ref b), (1, .ref (a 0)), (2, .ref (b2 0))] → W p l e room_1 s m #[Value.ref b] below meth c H locs (200 + (k + 1)) (100000 + 15 * (k + 1)) (lw_Z below #[Value.ref b] s) (F0 m 1133 ls [])) {S T : St} (hR : Rel S T) {a b2 : Nat → Nat} (ha : a 45 = G.2.2.1) {H : Heap} {locs : List Loc} (hw : Wd G (fun q : Nat => s.heap.size ≤ q) s H locs (xw G.2.1 a (mw G.2.1 b2 [] T) S)) {ls : Array Slot} (hl : lv_has ls 4 [(3, .int x3), (0, .ref b), (1, .ref (a 0)), (2, .ref (b2 0))]) : W p l e room_1 s m #[Value.ref b] below meth c H locs (200 + k) (100000 + 15 * k) (lw_Z below #[Value.ref b] s) (F0 m 608 ls []) := by
  obtain ⟨hx, hb, hr, hml, hown, hts0, hX, hbl, hlocks, hgv⟩ := C0
  have hts : ∀ w ∈ wsL_law, w.before #[Value.ref b] s = true := fun w h => hts0 w (wsL_law_in w h)
  have hA : ∀ q : Nat, s.heap.size ≤ q → (fun q : Nat => s.heap.size ≤ q) q := fun _ h => h
  have hbA : ¬ (fun q : Nat => s.heap.size ≤ q) b := Nat.not_le.mpr hbl
  have h1 : vp_in (x3 + 1) L := by rw [e3, show (1 : Int32) = nI 1 from rfl, nI_add]; exact vp_in_nI (by omega) (by omega)
  obtain ⟨u1, ev1⟩ : ∃ z, xs (x3 + 1).toNatClampNeg = z := ⟨_, rfl⟩
  have h2 : vp_in (x3 + 2) L := by rw [e3, show (2 : Int32) = nI 2 from rfl, nI_add]; exact vp_in_nI (by omega) (by omega)
  obtain ⟨u2, ev2⟩ : ∃ z, xs (x3 + 2).toNatClampNeg = z := ⟨_, rfl⟩
  obtain ⟨r, S2, T2, hfx, hfm, hR2⟩ := op_onDuty hR u1 u2
  obtain ⟨hfx, rfl⟩ := hfx
  obtain ⟨hfm, rfl⟩ := hfm
  refine lv_aload_n hx hb dL_law_608 rfl (lv_at hl 2 rfl) ?_
  refine lv_aload_n hx hb dL_law_609 rfl (lv_at hl 1 rfl) ?_
  refine lv_iload_n hx hb dL_law_610 rfl (lv_at hl 0 rfl) ?_
  refine lv_iconst (v := 1) hx hb dL_law_611 (by decide) ?_
  refine lv_iadd hx hb dL_law_612 ?_
  refine l_sld hx hb hX hbl hbA hw.2.2 h1 ev1 dL_law_613 ?_
  refine lv_aload_n hx hb dL_law_614 rfl (lv_at hl 1 rfl) ?_
  refine lv_iload_n hx hb dL_law_615 rfl (lv_at hl 0 rfl) ?_
  refine lv_iconst (v := 2) hx hb dL_law_616 (by decide) ?_
  refine lv_iadd hx hb dL_law_617 ?_
  refine l_sld hx hb hX hbl hbA hw.2.2 h2 ev2 dL_law_618 ?_
  refine cV (As := [.int u1, .int u2]) (rest := []) ⟨hx, hb, hml, hown, hts⟩ hG hA hw (c_X7_onDuty G l a ha _ S u1 u2 r hfx) (cwV 2 hts gL_law_X7_onDuty rfl rfl rfl (by decide +kernel) ⟨Nat.le_of_ble_eq_true rfl, Nat.le_of_ble_eq_true rfl⟩) (va_recv hG.1 hw.1 (ci := 7) (q0 := 0) rfl rfl) rfl hl.1 rfl (Nat.le_of_ble_eq_true rfl) dL_law_619 ⟨by show _ ≤ 600000; omega, by show _ ≤ 7302249; omega⟩ (fun H locs hw => ?_)
  replace hw := wd_toM hw
  refine lv_aload_n hx hb dL_law_622 rfl (lv_at hl 3 rfl) ?_
  refine lv_aload_n hx hb dL_law_623 rfl (lv_at hl 1 rfl) ?_
  refine lv_iload_n hx hb dL_law_624 rfl (lv_at hl 0 rfl) ?_
  refine lv_iconst (v := 1) hx hb dL_law_625 (by decide) ?_
  refine lv_iadd hx hb dL_law_626 ?_
  refine l_sld hx hb hX hbl hbA hw.2.2 h1 ev1 dL_law_627 ?_
  refine lv_aload_n hx hb dL_law_628 rfl (lv_at hl 1 rfl) ?_
  refine lv_iload_n hx hb dL_law_629 rfl (lv_at hl 0 rfl) ?_
  refine lv_iconst (v := 2) hx hb dL_law_630 (by decide) ?_
  refine lv_iadd hx hb dL_law_631 ?_
  refine l_sld hx hb hX hbl hbA hw.2.2 h2 ev2 dL_law_632 ?_
  refine cV (As := [.int u1, .int u2]) (rest := [.int r]) ⟨hx, hb, hml, hown, hts⟩ hG hA hw (c_X8_onDuty G l b2 _ T u1 u2 r hfm) (cwV 2 hts gL_law_X8_onDuty rfl rfl rfl (by decide +kernel) ⟨Nat.le_of_ble_eq_true rfl, Nat.le_of_ble_eq_true rfl⟩) (va_recv hG.1 hw.1 (ci := 8) (q0 := 0) rfl rfl) rfl hl.1 rfl (Nat.le_of_ble_eq_true rfl) dL_law_633 ⟨by show _ ≤ 600000; omega, by show _ ≤ 7302249; omega⟩ (fun H locs hw => ?_)
  replace hw := wd_toX hw
  refine lv_icmp_eq (tgt := 1133) hx hb dL_law_636 (by decide) (fun _ => ?_) (fun c0 => absurd rfl c0)
  refine W.widen (k := 200 + (k + 1)) (n := 100000 + 15 * (k + 1)) (by omega) (by omega) ?_
  exact go _ _ _ _ _ _ _ hR2 ha hw hl
set_option maxHeartbeats 4000000 in
set_option maxRecDepth 100000 in
theorem law_plan {p : Program} {l : Launch} {e : Env} {s : State} {m : MethodId} {below : List Frame} {meth : Method} {c : Code} {G : GP} {b L : Nat} {xs : Nat → Int32} (hL : L ≤ 4096) (C0 : lw_At p s m meth c b L xs) (hG : Gb G (fun q : Nat => s.heap.size ≤ q) s s.heap) (hO : Ao s) {k : Nat} (hk : 8 * k + 8 ≤ L) {x3 : Int32} (e3 : x3 = nI (8 * k)) (go : ∀ (S T : St) (a b2 : Nat → Nat) (H : Heap) (locs : List Loc) (ls : Array Slot), Rel S T → a 45 = G.2.2.1 → Wd G (fun q : Nat => s.heap.size ≤ q) s H locs (xw G.2.1 a (mw G.2.1 b2 [] T) S) → lv_has ls 4 [(3, .int x3), (0, .ref b), (1, .ref (a 0)), (2, .ref (b2 0))] → W p l e room_1 s m #[Value.ref b] below meth c H locs (200 + (k + 1)) (100000 + 15 * (k + 1)) (lw_Z below #[Value.ref b] s) (F0 m 1133 ls [])) {S T : St} (hR : Rel S T) {a b2 : Nat → Nat} (ha : a 45 = G.2.2.1) {H : Heap} {locs : List Loc} (hw : Wd G (fun q : Nat => s.heap.size ≤ q) s H locs (xw G.2.1 a (mw G.2.1 b2 [] T) S)) {ls : Array Slot} (hl : lv_has ls 4 [(3, .int x3), (0, .ref b), (1, .ref (a 0)), (2, .ref (b2 0))]) : W p l e room_1 s m #[Value.ref b] below meth c H locs (200 + k) (100000 + 15 * k) (lw_Z below #[Value.ref b] s) (F0 m 641 ls []) := by
  obtain ⟨hx, hb, hr, hml, hown, hts0, hX, hbl, hlocks, hgv⟩ := C0
  have hts : ∀ w ∈ wsL_law, w.before #[Value.ref b] s = true := fun w h => hts0 w (wsL_law_in w h)
  have hA : ∀ q : Nat, s.heap.size ≤ q → (fun q : Nat => s.heap.size ≤ q) q := fun _ h => h
  have hbA : ¬ (fun q : Nat => s.heap.size ≤ q) b := Nat.not_le.mpr hbl
  have h1 : vp_in (x3 + 1) L := by rw [e3, show (1 : Int32) = nI 1 from rfl, nI_add]; exact vp_in_nI (by omega) (by omega)
  obtain ⟨u1, ev1⟩ : ∃ z, xs (x3 + 1).toNatClampNeg = z := ⟨_, rfl⟩
  have h2 : vp_in (x3 + 2) L := by rw [e3, show (2 : Int32) = nI 2 from rfl, nI_add]; exact vp_in_nI (by omega) (by omega)
  obtain ⟨u2, ev2⟩ : ∃ z, xs (x3 + 2).toNatClampNeg = z := ⟨_, rfl⟩
  have h3 : vp_in (x3 + 3) L := by rw [e3, show (3 : Int32) = nI 3 from rfl, nI_add]; exact vp_in_nI (by omega) (by omega)
  obtain ⟨u3, ev3⟩ : ∃ z, xs (x3 + 3).toNatClampNeg = z := ⟨_, rfl⟩
  obtain ⟨r, S2, T2, hfx, hfm, hR2⟩ := op_plan hR u1 u2 u3
  refine lv_aload_n hx hb dL_law_641 rfl (lv_at hl 2 rfl) ?_
  refine lv_aload_n hx hb dL_law_642 rfl (lv_at hl 1 rfl) ?_
  refine lv_iload_n hx hb dL_law_643 rfl (lv_at hl 0 rfl) ?_
  refine lv_iconst (v := 1) hx hb dL_law_644 (by decide) ?_
  refine lv_iadd hx hb dL_law_645 ?_
  refine l_sld hx hb hX hbl hbA hw.2.2 h1 ev1 dL_law_646 ?_
  refine lv_aload_n hx hb dL_law_647 rfl (lv_at hl 1 rfl) ?_
  refine lv_iload_n hx hb dL_law_648 rfl (lv_at hl 0 rfl) ?_
  refine lv_iconst (v := 2) hx hb dL_law_649 (by decide) ?_
  refine lv_iadd hx hb dL_law_650 ?_
  refine l_sld hx hb hX hbl hbA hw.2.2 h2 ev2 dL_law_651 ?_
  refine lv_aload_n hx hb dL_law_652 rfl (lv_at hl 1 rfl) ?_
  refine lv_iload_n hx hb dL_law_653 rfl (lv_at hl 0 rfl) ?_
  refine lv_iconst (v := 3) hx hb dL_law_654 (by decide) ?_
  refine lv_iadd hx hb dL_law_655 ?_
  refine l_sld hx hb hX hbl hbA hw.2.2 h3 ev3 dL_law_656 ?_
  refine cV (As := [.int u1, .int u2, .int u3]) (rest := []) ⟨hx, hb, hml, hown, hts⟩ hG hA hw (c_X7_plan G l a ha _ S u1 u2 u3 r S2 hfx) (cwV 3 hts gL_law_X7_plan rfl rfl rfl (by decide +kernel) ⟨Nat.le_of_ble_eq_true rfl, Nat.le_of_ble_eq_true rfl⟩) (va_recv hG.1 hw.1 (ci := 7) (q0 := 0) rfl rfl) rfl hl.1 rfl (Nat.le_of_ble_eq_true rfl) dL_law_657 ⟨by show _ ≤ 600000; omega, by show _ ≤ 7302249; omega⟩ (fun H locs hw => ?_)
  replace hw := wd_toM hw
  refine lv_aload_n hx hb dL_law_660 rfl (lv_at hl 3 rfl) ?_
  refine lv_aload_n hx hb dL_law_661 rfl (lv_at hl 1 rfl) ?_
  refine lv_iload_n hx hb dL_law_662 rfl (lv_at hl 0 rfl) ?_
  refine lv_iconst (v := 1) hx hb dL_law_663 (by decide) ?_
  refine lv_iadd hx hb dL_law_664 ?_
  refine l_sld hx hb hX hbl hbA hw.2.2 h1 ev1 dL_law_665 ?_
  refine lv_aload_n hx hb dL_law_666 rfl (lv_at hl 1 rfl) ?_
  refine lv_iload_n hx hb dL_law_667 rfl (lv_at hl 0 rfl) ?_
  refine lv_iconst (v := 2) hx hb dL_law_668 (by decide) ?_
  refine lv_iadd hx hb dL_law_669 ?_
  refine l_sld hx hb hX hbl hbA hw.2.2 h2 ev2 dL_law_670 ?_
  refine lv_aload_n hx hb dL_law_671 rfl (lv_at hl 1 rfl) ?_
  refine lv_iload_n hx hb dL_law_672 rfl (lv_at hl 0 rfl) ?_
  refine lv_iconst (v := 3) hx hb dL_law_673 (by decide) ?_
  refine lv_iadd hx hb dL_law_674 ?_
  refine l_sld hx hb hX hbl hbA hw.2.2 h3 ev3 dL_law_675 ?_
  refine cV (As := [.int u1, .int u2, .int u3]) (rest := [.int r]) ⟨hx, hb, hml, hown, hts⟩ hG hA hw (c_X8_plan G l b2 _ T u1 u2 u3 r T2 hfm) (cwV 3 hts gL_law_X8_plan rfl rfl rfl (by decide +kernel) ⟨Nat.le_of_ble_eq_true rfl, Nat.le_of_ble_eq_true rfl⟩) (va_recv hG.1 hw.1 (ci := 8) (q0 := 0) rfl rfl) rfl hl.1 rfl (Nat.le_of_ble_eq_true rfl) dL_law_676 ⟨by show _ ≤ 600000; omega, by show _ ≤ 7302249; omega⟩ (fun H locs hw => ?_)
  replace hw := wd_toX hw
  refine lv_icmp_eq (tgt := 1133) hx hb dL_law_679 (by decide) (fun _ => ?_) (fun c0 => absurd rfl c0)
  refine W.widen (k := 200 + (k + 1)) (n := 100000 + 15 * (k + 1)) (by omega) (by omega) ?_
  exact go _ _ _ _ _ _ _ hR2 ha hw hl
set_option maxHeartbeats 4000000 in
set_option maxRecDepth 100000 in
theorem law_uneven {p : Program} {l : Launch} {e : Env} {s : State} {m : MethodId} {below : List Frame} {meth : Method} {c : Code} {G : GP} {b L : Nat} {xs : Nat → Int32} (hL : L ≤ 4096) (C0 : lw_At p s m meth c b L xs) (hG : Gb G (fun q : Nat => s.heap.size ≤ q) s s.heap) (hO : Ao s) {k : Nat} (hk : 8 * k + 8 ≤ L) {x3 : Int32} (e3 : x3 = nI (8 * k)) (go : ∀ (S T : St) (a b2 : Nat → Nat) (H : Heap) (locs : List Loc) (ls : Array Slot), Rel S T → a 45 = G.2.2.1 → Wd G (fun q : Nat => s.heap.size ≤ q) s H locs (xw G.2.1 a (mw G.2.1 b2 [] T) S) → lv_has ls 4 [(3, .int x3), (0, .ref b), (1, .ref (a 0)), (2, .ref (b2 0))] → W p l e room_1 s m #[Value.ref b] below meth c H locs (200 + (k + 1)) (100000 + 15 * (k + 1)) (lw_Z below #[Value.ref b] s) (F0 m 1133 ls [])) {S T : St} (hR : Rel S T) {a b2 : Nat → Nat} (ha : a 45 = G.2.2.1) {H : Heap} {locs : List Loc} (hw : Wd G (fun q : Nat => s.heap.size ≤ q) s H locs (xw G.2.1 a (mw G.2.1 b2 [] T) S)) {ls : Array Slot} (hl : lv_has ls 4 [(3, .int x3), (0, .ref b), (1, .ref (a 0)), (2, .ref (b2 0))]) : W p l e room_1 s m #[Value.ref b] below meth c H locs (200 + k) (100000 + 15 * k) (lw_Z below #[Value.ref b] s) (F0 m 684 ls []) := by
  obtain ⟨hx, hb, hr, hml, hown, hts0, hX, hbl, hlocks, hgv⟩ := C0
  have hts : ∀ w ∈ wsL_law, w.before #[Value.ref b] s = true := fun w h => hts0 w (wsL_law_in w h)
  have hA : ∀ q : Nat, s.heap.size ≤ q → (fun q : Nat => s.heap.size ≤ q) q := fun _ h => h
  have hbA : ¬ (fun q : Nat => s.heap.size ≤ q) b := Nat.not_le.mpr hbl
  obtain ⟨r, S2, T2, hfx, hfm, hR2⟩ := op_uneven hR
  obtain ⟨hfx, rfl⟩ := hfx
  obtain ⟨hfm, rfl⟩ := hfm
  refine lv_aload_n hx hb dL_law_684 rfl (lv_at hl 2 rfl) ?_
  refine cV (As := []) (rest := []) ⟨hx, hb, hml, hown, hts⟩ hG hA hw (c_X7_uneven G l a ha _ S r hfx) (cwV 0 hts gL_law_X7_uneven rfl rfl rfl (by decide +kernel) ⟨Nat.le_of_ble_eq_true rfl, Nat.le_of_ble_eq_true rfl⟩) (va_recv hG.1 hw.1 (ci := 7) (q0 := 0) rfl rfl) rfl hl.1 rfl (Nat.le_of_ble_eq_true rfl) dL_law_685 ⟨by show _ ≤ 600000; omega, by show _ ≤ 7302249; omega⟩ (fun H locs hw => ?_)
  replace hw := wd_toM hw
  refine lv_aload_n hx hb dL_law_688 rfl (lv_at hl 3 rfl) ?_
  refine cV (As := []) (rest := [.int r]) ⟨hx, hb, hml, hown, hts⟩ hG hA hw (c_X8_uneven G l b2 _ T r hfm) (cwV 0 hts gL_law_X8_uneven rfl rfl rfl (by decide +kernel) ⟨Nat.le_of_ble_eq_true rfl, Nat.le_of_ble_eq_true rfl⟩) (va_recv hG.1 hw.1 (ci := 8) (q0 := 0) rfl rfl) rfl hl.1 rfl (Nat.le_of_ble_eq_true rfl) dL_law_689 ⟨by show _ ≤ 600000; omega, by show _ ≤ 7302249; omega⟩ (fun H locs hw => ?_)
  replace hw := wd_toX hw
  refine lv_icmp_eq (tgt := 1133) hx hb dL_law_692 (by decide) (fun _ => ?_) (fun c0 => absurd rfl c0)
  refine W.widen (k := 200 + (k + 1)) (n := 100000 + 15 * (k + 1)) (by omega) (by omega) ?_
  exact go _ _ _ _ _ _ _ hR2 ha hw hl
set_option maxHeartbeats 4000000 in
set_option maxRecDepth 100000 in
theorem law_against {p : Program} {l : Launch} {e : Env} {s : State} {m : MethodId} {below : List Frame} {meth : Method} {c : Code} {G : GP} {b L : Nat} {xs : Nat → Int32} (hL : L ≤ 4096) (C0 : lw_At p s m meth c b L xs) (hG : Gb G (fun q : Nat => s.heap.size ≤ q) s s.heap) (hO : Ao s) {k : Nat} (hk : 8 * k + 8 ≤ L) {x3 : Int32} (e3 : x3 = nI (8 * k)) (go : ∀ (S T : St) (a b2 : Nat → Nat) (H : Heap) (locs : List Loc) (ls : Array Slot), Rel S T → a 45 = G.2.2.1 → Wd G (fun q : Nat => s.heap.size ≤ q) s H locs (xw G.2.1 a (mw G.2.1 b2 [] T) S) → lv_has ls 4 [(3, .int x3), (0, .ref b), (1, .ref (a 0)), (2, .ref (b2 0))] → W p l e room_1 s m #[Value.ref b] below meth c H locs (200 + (k + 1)) (100000 + 15 * (k + 1)) (lw_Z below #[Value.ref b] s) (F0 m 1133 ls [])) {S T : St} (hR : Rel S T) {a b2 : Nat → Nat} (ha : a 45 = G.2.2.1) {H : Heap} {locs : List Loc} (hw : Wd G (fun q : Nat => s.heap.size ≤ q) s H locs (xw G.2.1 a (mw G.2.1 b2 [] T) S)) {ls : Array Slot} (hl : lv_has ls 4 [(3, .int x3), (0, .ref b), (1, .ref (a 0)), (2, .ref (b2 0))]) : W p l e room_1 s m #[Value.ref b] below meth c H locs (200 + k) (100000 + 15 * k) (lw_Z below #[Value.ref b] s) (F0 m 697 ls []) := by
  obtain ⟨hx, hb, hr, hml, hown, hts0, hX, hbl, hlocks, hgv⟩ := C0
  have hts : ∀ w ∈ wsL_law, w.before #[Value.ref b] s = true := fun w h => hts0 w (wsL_law_in w h)
  have hA : ∀ q : Nat, s.heap.size ≤ q → (fun q : Nat => s.heap.size ≤ q) q := fun _ h => h
  have hbA : ¬ (fun q : Nat => s.heap.size ≤ q) b := Nat.not_le.mpr hbl
  have h1 : vp_in (x3 + 1) L := by rw [e3, show (1 : Int32) = nI 1 from rfl, nI_add]; exact vp_in_nI (by omega) (by omega)
  obtain ⟨u1, ev1⟩ : ∃ z, xs (x3 + 1).toNatClampNeg = z := ⟨_, rfl⟩
  have h2 : vp_in (x3 + 2) L := by rw [e3, show (2 : Int32) = nI 2 from rfl, nI_add]; exact vp_in_nI (by omega) (by omega)
  obtain ⟨u2, ev2⟩ : ∃ z, xs (x3 + 2).toNatClampNeg = z := ⟨_, rfl⟩
  obtain ⟨r, S2, T2, hfx, hfm, hR2⟩ := op_against hR u1 u2
  refine lv_aload_n hx hb dL_law_697 rfl (lv_at hl 2 rfl) ?_
  refine lv_aload_n hx hb dL_law_698 rfl (lv_at hl 1 rfl) ?_
  refine lv_iload_n hx hb dL_law_699 rfl (lv_at hl 0 rfl) ?_
  refine lv_iconst (v := 1) hx hb dL_law_700 (by decide) ?_
  refine lv_iadd hx hb dL_law_701 ?_
  refine l_sld hx hb hX hbl hbA hw.2.2 h1 ev1 dL_law_702 ?_
  refine lv_aload_n hx hb dL_law_703 rfl (lv_at hl 1 rfl) ?_
  refine lv_iload_n hx hb dL_law_704 rfl (lv_at hl 0 rfl) ?_
  refine lv_iconst (v := 2) hx hb dL_law_705 (by decide) ?_
  refine lv_iadd hx hb dL_law_706 ?_
  refine l_sld hx hb hX hbl hbA hw.2.2 h2 ev2 dL_law_707 ?_
  refine cV (As := [.int u1, .int u2]) (rest := []) ⟨hx, hb, hml, hown, hts⟩ hG hA hw (c_X7_against G l a ha _ S u1 u2 r S2 hfx) (cwV 2 hts gL_law_X7_against rfl rfl rfl (by decide +kernel) ⟨Nat.le_of_ble_eq_true rfl, Nat.le_of_ble_eq_true rfl⟩) (va_recv hG.1 hw.1 (ci := 7) (q0 := 0) rfl rfl) rfl hl.1 rfl (Nat.le_of_ble_eq_true rfl) dL_law_708 ⟨by show _ ≤ 600000; omega, by show _ ≤ 7302249; omega⟩ (fun H locs hw => ?_)
  replace hw := wd_toM hw
  refine lv_aload_n hx hb dL_law_711 rfl (lv_at hl 3 rfl) ?_
  refine lv_aload_n hx hb dL_law_712 rfl (lv_at hl 1 rfl) ?_
  refine lv_iload_n hx hb dL_law_713 rfl (lv_at hl 0 rfl) ?_
  refine lv_iconst (v := 1) hx hb dL_law_714 (by decide) ?_
  refine lv_iadd hx hb dL_law_715 ?_
  refine l_sld hx hb hX hbl hbA hw.2.2 h1 ev1 dL_law_716 ?_
  refine lv_aload_n hx hb dL_law_717 rfl (lv_at hl 1 rfl) ?_
  refine lv_iload_n hx hb dL_law_718 rfl (lv_at hl 0 rfl) ?_
  refine lv_iconst (v := 2) hx hb dL_law_719 (by decide) ?_
  refine lv_iadd hx hb dL_law_720 ?_
  refine l_sld hx hb hX hbl hbA hw.2.2 h2 ev2 dL_law_721 ?_
  refine cV (As := [.int u1, .int u2]) (rest := [.int r]) ⟨hx, hb, hml, hown, hts⟩ hG hA hw (c_X8_against G l b2 _ T u1 u2 r T2 hfm) (cwV 2 hts gL_law_X8_against rfl rfl rfl (by decide +kernel) ⟨Nat.le_of_ble_eq_true rfl, Nat.le_of_ble_eq_true rfl⟩) (va_recv hG.1 hw.1 (ci := 8) (q0 := 0) rfl rfl) rfl hl.1 rfl (Nat.le_of_ble_eq_true rfl) dL_law_722 ⟨by show _ ≤ 600000; omega, by show _ ≤ 7302249; omega⟩ (fun H locs hw => ?_)
  replace hw := wd_toX hw
  refine lv_icmp_eq (tgt := 1133) hx hb dL_law_725 (by decide) (fun _ => ?_) (fun c0 => absurd rfl c0)
  refine W.widen (k := 200 + (k + 1)) (n := 100000 + 15 * (k + 1)) (by omega) (by omega) ?_
  exact go _ _ _ _ _ _ _ hR2 ha hw hl
set_option maxHeartbeats 4000000 in
set_option maxRecDepth 100000 in
theorem law_waive {p : Program} {l : Launch} {e : Env} {s : State} {m : MethodId} {below : List Frame} {meth : Method} {c : Code} {G : GP} {b L : Nat} {xs : Nat → Int32} (hL : L ≤ 4096) (C0 : lw_At p s m meth c b L xs) (hG : Gb G (fun q : Nat => s.heap.size ≤ q) s s.heap) (hO : Ao s) {k : Nat} (hk : 8 * k + 8 ≤ L) {x3 : Int32} (e3 : x3 = nI (8 * k)) (go : ∀ (S T : St) (a b2 : Nat → Nat) (H : Heap) (locs : List Loc) (ls : Array Slot), Rel S T → a 45 = G.2.2.1 → Wd G (fun q : Nat => s.heap.size ≤ q) s H locs (xw G.2.1 a (mw G.2.1 b2 [] T) S) → lv_has ls 4 [(3, .int x3), (0, .ref b), (1, .ref (a 0)), (2, .ref (b2 0))] → W p l e room_1 s m #[Value.ref b] below meth c H locs (200 + (k + 1)) (100000 + 15 * (k + 1)) (lw_Z below #[Value.ref b] s) (F0 m 1133 ls [])) {S T : St} (hR : Rel S T) {a b2 : Nat → Nat} (ha : a 45 = G.2.2.1) {H : Heap} {locs : List Loc} (hw : Wd G (fun q : Nat => s.heap.size ≤ q) s H locs (xw G.2.1 a (mw G.2.1 b2 [] T) S)) {ls : Array Slot} (hl : lv_has ls 4 [(3, .int x3), (0, .ref b), (1, .ref (a 0)), (2, .ref (b2 0))]) : W p l e room_1 s m #[Value.ref b] below meth c H locs (200 + k) (100000 + 15 * k) (lw_Z below #[Value.ref b] s) (F0 m 730 ls []) := by
  obtain ⟨hx, hb, hr, hml, hown, hts0, hX, hbl, hlocks, hgv⟩ := C0
  have hts : ∀ w ∈ wsL_law, w.before #[Value.ref b] s = true := fun w h => hts0 w (wsL_law_in w h)
  have hA : ∀ q : Nat, s.heap.size ≤ q → (fun q : Nat => s.heap.size ≤ q) q := fun _ h => h
  have hbA : ¬ (fun q : Nat => s.heap.size ≤ q) b := Nat.not_le.mpr hbl
  have h1 : vp_in (x3 + 1) L := by rw [e3, show (1 : Int32) = nI 1 from rfl, nI_add]; exact vp_in_nI (by omega) (by omega)
  obtain ⟨u1, ev1⟩ : ∃ z, xs (x3 + 1).toNatClampNeg = z := ⟨_, rfl⟩
  have h2 : vp_in (x3 + 2) L := by rw [e3, show (2 : Int32) = nI 2 from rfl, nI_add]; exact vp_in_nI (by omega) (by omega)
  obtain ⟨u2, ev2⟩ : ∃ z, xs (x3 + 2).toNatClampNeg = z := ⟨_, rfl⟩
  obtain ⟨r, S2, T2, hfx, hfm, hR2⟩ := op_waive hR u1 u2
  refine lv_aload_n hx hb dL_law_730 rfl (lv_at hl 2 rfl) ?_
  refine lv_aload_n hx hb dL_law_731 rfl (lv_at hl 1 rfl) ?_
  refine lv_iload_n hx hb dL_law_732 rfl (lv_at hl 0 rfl) ?_
  refine lv_iconst (v := 1) hx hb dL_law_733 (by decide) ?_
  refine lv_iadd hx hb dL_law_734 ?_
  refine l_sld hx hb hX hbl hbA hw.2.2 h1 ev1 dL_law_735 ?_
  refine lv_aload_n hx hb dL_law_736 rfl (lv_at hl 1 rfl) ?_
  refine lv_iload_n hx hb dL_law_737 rfl (lv_at hl 0 rfl) ?_
  refine lv_iconst (v := 2) hx hb dL_law_738 (by decide) ?_
  refine lv_iadd hx hb dL_law_739 ?_
  refine l_sld hx hb hX hbl hbA hw.2.2 h2 ev2 dL_law_740 ?_
  refine cV (As := [.int u1, .int u2]) (rest := []) ⟨hx, hb, hml, hown, hts⟩ hG hA hw (c_X7_waive G l a ha _ S u1 u2 r S2 hfx) (cwV 2 hts gL_law_X7_waive rfl rfl rfl (by decide +kernel) ⟨Nat.le_of_ble_eq_true rfl, Nat.le_of_ble_eq_true rfl⟩) (va_recv hG.1 hw.1 (ci := 7) (q0 := 0) rfl rfl) rfl hl.1 rfl (Nat.le_of_ble_eq_true rfl) dL_law_741 ⟨by show _ ≤ 600000; omega, by show _ ≤ 7302249; omega⟩ (fun H locs hw => ?_)
  replace hw := wd_toM hw
  refine lv_aload_n hx hb dL_law_744 rfl (lv_at hl 3 rfl) ?_
  refine lv_aload_n hx hb dL_law_745 rfl (lv_at hl 1 rfl) ?_
  refine lv_iload_n hx hb dL_law_746 rfl (lv_at hl 0 rfl) ?_
  refine lv_iconst (v := 1) hx hb dL_law_747 (by decide) ?_
  refine lv_iadd hx hb dL_law_748 ?_
  refine l_sld hx hb hX hbl hbA hw.2.2 h1 ev1 dL_law_749 ?_
  refine lv_aload_n hx hb dL_law_750 rfl (lv_at hl 1 rfl) ?_
  refine lv_iload_n hx hb dL_law_751 rfl (lv_at hl 0 rfl) ?_
  refine lv_iconst (v := 2) hx hb dL_law_752 (by decide) ?_
  refine lv_iadd hx hb dL_law_753 ?_
  refine l_sld hx hb hX hbl hbA hw.2.2 h2 ev2 dL_law_754 ?_
  refine cV (As := [.int u1, .int u2]) (rest := [.int r]) ⟨hx, hb, hml, hown, hts⟩ hG hA hw (c_X8_waive G l b2 _ T u1 u2 r T2 hfm) (cwV 2 hts gL_law_X8_waive rfl rfl rfl (by decide +kernel) ⟨Nat.le_of_ble_eq_true rfl, Nat.le_of_ble_eq_true rfl⟩) (va_recv hG.1 hw.1 (ci := 8) (q0 := 0) rfl rfl) rfl hl.1 rfl (Nat.le_of_ble_eq_true rfl) dL_law_755 ⟨by show _ ≤ 600000; omega, by show _ ≤ 7302249; omega⟩ (fun H locs hw => ?_)
  replace hw := wd_toX hw
  refine lv_icmp_eq (tgt := 1133) hx hb dL_law_758 (by decide) (fun _ => ?_) (fun c0 => absurd rfl c0)
  refine W.widen (k := 200 + (k + 1)) (n := 100000 + 15 * (k + 1)) (by omega) (by omega) ?_
  exact go _ _ _ _ _ _ _ hR2 ha hw hl
set_option maxHeartbeats 4000000 in
set_option maxRecDepth 100000 in
theorem law_call {p : Program} {l : Launch} {e : Env} {s : State} {m : MethodId} {below : List Frame} {meth : Method} {c : Code} {G : GP} {b L : Nat} {xs : Nat → Int32} (hL : L ≤ 4096) (C0 : lw_At p s m meth c b L xs) (hG : Gb G (fun q : Nat => s.heap.size ≤ q) s s.heap) (hO : Ao s) {k : Nat} (hk : 8 * k + 8 ≤ L) {x3 : Int32} (e3 : x3 = nI (8 * k)) (go : ∀ (S T : St) (a b2 : Nat → Nat) (H : Heap) (locs : List Loc) (ls : Array Slot), Rel S T → a 45 = G.2.2.1 → Wd G (fun q : Nat => s.heap.size ≤ q) s H locs (xw G.2.1 a (mw G.2.1 b2 [] T) S) → lv_has ls 4 [(3, .int x3), (0, .ref b), (1, .ref (a 0)), (2, .ref (b2 0))] → W p l e room_1 s m #[Value.ref b] below meth c H locs (200 + (k + 1)) (100000 + 15 * (k + 1)) (lw_Z below #[Value.ref b] s) (F0 m 1133 ls [])) {S T : St} (hR : Rel S T) {a b2 : Nat → Nat} (ha : a 45 = G.2.2.1) {H : Heap} {locs : List Loc} (hw : Wd G (fun q : Nat => s.heap.size ≤ q) s H locs (xw G.2.1 a (mw G.2.1 b2 [] T) S)) {ls : Array Slot} (hl : lv_has ls 4 [(3, .int x3), (0, .ref b), (1, .ref (a 0)), (2, .ref (b2 0))]) : W p l e room_1 s m #[Value.ref b] below meth c H locs (200 + k) (100000 + 15 * k) (lw_Z below #[Value.ref b] s) (F0 m 763 ls []) := by
  obtain ⟨hx, hb, hr, hml, hown, hts0, hX, hbl, hlocks, hgv⟩ := C0
  have hts : ∀ w ∈ wsL_law, w.before #[Value.ref b] s = true := fun w h => hts0 w (wsL_law_in w h)
  have hA : ∀ q : Nat, s.heap.size ≤ q → (fun q : Nat => s.heap.size ≤ q) q := fun _ h => h
  have hbA : ¬ (fun q : Nat => s.heap.size ≤ q) b := Nat.not_le.mpr hbl
  have h1 : vp_in (x3 + 1) L := by rw [e3, show (1 : Int32) = nI 1 from rfl, nI_add]; exact vp_in_nI (by omega) (by omega)
  obtain ⟨u1, ev1⟩ : ∃ z, xs (x3 + 1).toNatClampNeg = z := ⟨_, rfl⟩
  have h2 : vp_in (x3 + 2) L := by rw [e3, show (2 : Int32) = nI 2 from rfl, nI_add]; exact vp_in_nI (by omega) (by omega)
  obtain ⟨u2, ev2⟩ : ∃ z, xs (x3 + 2).toNatClampNeg = z := ⟨_, rfl⟩
  have h3 : vp_in (x3 + 3) L := by rw [e3, show (3 : Int32) = nI 3 from rfl, nI_add]; exact vp_in_nI (by omega) (by omega)
  obtain ⟨u3, ev3⟩ : ∃ z, xs (x3 + 3).toNatClampNeg = z := ⟨_, rfl⟩
  have h4 : vp_in (x3 + 4) L := by rw [e3, show (4 : Int32) = nI 4 from rfl, nI_add]; exact vp_in_nI (by omega) (by omega)
  obtain ⟨u4, ev4⟩ : ∃ z, xs (x3 + 4).toNatClampNeg = z := ⟨_, rfl⟩
  have h5 : vp_in (x3 + 5) L := by rw [e3, show (5 : Int32) = nI 5 from rfl, nI_add]; exact vp_in_nI (by omega) (by omega)
  obtain ⟨u5, ev5⟩ : ∃ z, xs (x3 + 5).toNatClampNeg = z := ⟨_, rfl⟩
  have h6 : vp_in (x3 + 6) L := by rw [e3, show (6 : Int32) = nI 6 from rfl, nI_add]; exact vp_in_nI (by omega) (by omega)
  obtain ⟨u6, ev6⟩ : ∃ z, xs (x3 + 6).toNatClampNeg = z := ⟨_, rfl⟩
  have h7 : vp_in (x3 + 7) L := by rw [e3, show (7 : Int32) = nI 7 from rfl, nI_add]; exact vp_in_nI (by omega) (by omega)
  obtain ⟨u7, ev7⟩ : ∃ z, xs (x3 + 7).toNatClampNeg = z := ⟨_, rfl⟩
  obtain ⟨r, S2, T2, hfx, hfm, hR2⟩ := op_call hR u1 u2 u3 u4 u5 u6 u7
  refine lv_aload_n hx hb dL_law_763 rfl (lv_at hl 2 rfl) ?_
  refine lv_aload_n hx hb dL_law_764 rfl (lv_at hl 1 rfl) ?_
  refine lv_iload_n hx hb dL_law_765 rfl (lv_at hl 0 rfl) ?_
  refine lv_iconst (v := 1) hx hb dL_law_766 (by decide) ?_
  refine lv_iadd hx hb dL_law_767 ?_
  refine l_sld hx hb hX hbl hbA hw.2.2 h1 ev1 dL_law_768 ?_
  refine lv_aload_n hx hb dL_law_769 rfl (lv_at hl 1 rfl) ?_
  refine lv_iload_n hx hb dL_law_770 rfl (lv_at hl 0 rfl) ?_
  refine lv_iconst (v := 2) hx hb dL_law_771 (by decide) ?_
  refine lv_iadd hx hb dL_law_772 ?_
  refine l_sld hx hb hX hbl hbA hw.2.2 h2 ev2 dL_law_773 ?_
  refine lv_aload_n hx hb dL_law_774 rfl (lv_at hl 1 rfl) ?_
  refine lv_iload_n hx hb dL_law_775 rfl (lv_at hl 0 rfl) ?_
  refine lv_iconst (v := 3) hx hb dL_law_776 (by decide) ?_
  refine lv_iadd hx hb dL_law_777 ?_
  refine l_sld hx hb hX hbl hbA hw.2.2 h3 ev3 dL_law_778 ?_
  refine lv_aload_n hx hb dL_law_779 rfl (lv_at hl 1 rfl) ?_
  refine lv_iload_n hx hb dL_law_780 rfl (lv_at hl 0 rfl) ?_
  refine lv_iconst (v := 4) hx hb dL_law_781 (by decide) ?_
  refine lv_iadd hx hb dL_law_782 ?_
  refine l_sld hx hb hX hbl hbA hw.2.2 h4 ev4 dL_law_783 ?_
  refine lv_aload_n hx hb dL_law_784 rfl (lv_at hl 1 rfl) ?_
  refine lv_iload_n hx hb dL_law_785 rfl (lv_at hl 0 rfl) ?_
  refine lv_iconst (v := 5) hx hb dL_law_786 (by decide) ?_
  refine lv_iadd hx hb dL_law_787 ?_
  refine l_sld hx hb hX hbl hbA hw.2.2 h5 ev5 dL_law_788 ?_
  refine lv_aload_n hx hb dL_law_789 rfl (lv_at hl 1 rfl) ?_
  refine lv_iload_n hx hb dL_law_790 rfl (lv_at hl 0 rfl) ?_
  refine lv_bipush (v := 6) hx hb dL_law_791 (by decide) ?_
  refine lv_iadd hx hb dL_law_793 ?_
  refine l_sld hx hb hX hbl hbA hw.2.2 h6 ev6 dL_law_794 ?_
  refine lv_aload_n hx hb dL_law_795 rfl (lv_at hl 1 rfl) ?_
  refine lv_iload_n hx hb dL_law_796 rfl (lv_at hl 0 rfl) ?_
  refine lv_bipush (v := 7) hx hb dL_law_797 (by decide) ?_
  refine lv_iadd hx hb dL_law_799 ?_
  refine l_sld hx hb hX hbl hbA hw.2.2 h7 ev7 dL_law_800 ?_
  refine cVE (As := [.int u1, .int u2, .int u3, .int u4, .int u5, .int u6, .int u7]) (rest := []) ⟨hx, hb, hml, hown, hts⟩ hG hO hA hw (c_X7_call G l a ha _ S u1 u2 u3 u4 u5 u6 u7 r S2 hfx) (cwV 7 hts gL_law_X7_call rfl rfl rfl (by decide +kernel) ⟨Nat.le_of_ble_eq_true rfl, Nat.le_of_ble_eq_true rfl⟩) (va_recv hG.1 hw.1 (ci := 7) (q0 := 0) rfl rfl) rfl hl.1 rfl (Nat.le_of_ble_eq_true rfl) dL_law_801 ⟨by show _ ≤ 600000; omega, by show _ ≤ 7302249; omega⟩ (fun W1 H locs hp hw => ?_)
  obtain ⟨a3, hk3, rfl⟩ := hp
  replace ha : a3 45 = G.2.2.1 := (hk3 45 (by decide)).trans ha
  replace hl : lv_has ls 4 [(3, .int x3), (0, .ref b), (1, .ref (a3 0)), (2, .ref (b2 0))] := by rw [hk3 0 (by decide)]; exact hl
  replace hw := wd_toM hw
  refine lv_aload_n hx hb dL_law_804 rfl (lv_at hl 3 rfl) ?_
  refine lv_aload_n hx hb dL_law_805 rfl (lv_at hl 1 rfl) ?_
  refine lv_iload_n hx hb dL_law_806 rfl (lv_at hl 0 rfl) ?_
  refine lv_iconst (v := 1) hx hb dL_law_807 (by decide) ?_
  refine lv_iadd hx hb dL_law_808 ?_
  refine l_sld hx hb hX hbl hbA hw.2.2 h1 ev1 dL_law_809 ?_
  refine lv_aload_n hx hb dL_law_810 rfl (lv_at hl 1 rfl) ?_
  refine lv_iload_n hx hb dL_law_811 rfl (lv_at hl 0 rfl) ?_
  refine lv_iconst (v := 2) hx hb dL_law_812 (by decide) ?_
  refine lv_iadd hx hb dL_law_813 ?_
  refine l_sld hx hb hX hbl hbA hw.2.2 h2 ev2 dL_law_814 ?_
  refine lv_aload_n hx hb dL_law_815 rfl (lv_at hl 1 rfl) ?_
  refine lv_iload_n hx hb dL_law_816 rfl (lv_at hl 0 rfl) ?_
  refine lv_iconst (v := 3) hx hb dL_law_817 (by decide) ?_
  refine lv_iadd hx hb dL_law_818 ?_
  refine l_sld hx hb hX hbl hbA hw.2.2 h3 ev3 dL_law_819 ?_
  refine lv_aload_n hx hb dL_law_820 rfl (lv_at hl 1 rfl) ?_
  refine lv_iload_n hx hb dL_law_821 rfl (lv_at hl 0 rfl) ?_
  refine lv_iconst (v := 4) hx hb dL_law_822 (by decide) ?_
  refine lv_iadd hx hb dL_law_823 ?_
  refine l_sld hx hb hX hbl hbA hw.2.2 h4 ev4 dL_law_824 ?_
  refine lv_aload_n hx hb dL_law_825 rfl (lv_at hl 1 rfl) ?_
  refine lv_iload_n hx hb dL_law_826 rfl (lv_at hl 0 rfl) ?_
  refine lv_iconst (v := 5) hx hb dL_law_827 (by decide) ?_
  refine lv_iadd hx hb dL_law_828 ?_
  refine l_sld hx hb hX hbl hbA hw.2.2 h5 ev5 dL_law_829 ?_
  refine lv_aload_n hx hb dL_law_830 rfl (lv_at hl 1 rfl) ?_
  refine lv_iload_n hx hb dL_law_831 rfl (lv_at hl 0 rfl) ?_
  refine lv_bipush (v := 6) hx hb dL_law_832 (by decide) ?_
  refine lv_iadd hx hb dL_law_834 ?_
  refine l_sld hx hb hX hbl hbA hw.2.2 h6 ev6 dL_law_835 ?_
  refine lv_aload_n hx hb dL_law_836 rfl (lv_at hl 1 rfl) ?_
  refine lv_iload_n hx hb dL_law_837 rfl (lv_at hl 0 rfl) ?_
  refine lv_bipush (v := 7) hx hb dL_law_838 (by decide) ?_
  refine lv_iadd hx hb dL_law_840 ?_
  refine l_sld hx hb hX hbl hbA hw.2.2 h7 ev7 dL_law_841 ?_
  refine cV (As := [.int u1, .int u2, .int u3, .int u4, .int u5, .int u6, .int u7]) (rest := [.int r]) ⟨hx, hb, hml, hown, hts⟩ hG hA hw (c_X8_call G l b2 _ T u1 u2 u3 u4 u5 u6 u7 r T2 hfm) (cwV 7 hts gL_law_X8_call rfl rfl rfl (by decide +kernel) ⟨Nat.le_of_ble_eq_true rfl, Nat.le_of_ble_eq_true rfl⟩) (va_recv hG.1 hw.1 (ci := 8) (q0 := 0) rfl rfl) rfl hl.1 rfl (Nat.le_of_ble_eq_true rfl) dL_law_842 ⟨by show _ ≤ 600000; omega, by show _ ≤ 7302249; omega⟩ (fun H locs hw => ?_)
  replace hw := wd_toX hw
  refine lv_icmp_eq (tgt := 1133) hx hb dL_law_845 (by decide) (fun _ => ?_) (fun c0 => absurd rfl c0)
  refine W.widen (k := 200 + (k + 1)) (n := 100000 + 15 * (k + 1)) (by omega) (by omega) ?_
  exact go _ _ _ _ _ _ _ hR2 ha hw hl
set_option maxHeartbeats 4000000 in
set_option maxRecDepth 100000 in
theorem law_asked {p : Program} {l : Launch} {e : Env} {s : State} {m : MethodId} {below : List Frame} {meth : Method} {c : Code} {G : GP} {b L : Nat} {xs : Nat → Int32} (hL : L ≤ 4096) (C0 : lw_At p s m meth c b L xs) (hG : Gb G (fun q : Nat => s.heap.size ≤ q) s s.heap) (hO : Ao s) {k : Nat} (hk : 8 * k + 8 ≤ L) {x3 : Int32} (e3 : x3 = nI (8 * k)) (go : ∀ (S T : St) (a b2 : Nat → Nat) (H : Heap) (locs : List Loc) (ls : Array Slot), Rel S T → a 45 = G.2.2.1 → Wd G (fun q : Nat => s.heap.size ≤ q) s H locs (xw G.2.1 a (mw G.2.1 b2 [] T) S) → lv_has ls 4 [(3, .int x3), (0, .ref b), (1, .ref (a 0)), (2, .ref (b2 0))] → W p l e room_1 s m #[Value.ref b] below meth c H locs (200 + (k + 1)) (100000 + 15 * (k + 1)) (lw_Z below #[Value.ref b] s) (F0 m 1133 ls [])) {S T : St} (hR : Rel S T) {a b2 : Nat → Nat} (ha : a 45 = G.2.2.1) {H : Heap} {locs : List Loc} (hw : Wd G (fun q : Nat => s.heap.size ≤ q) s H locs (xw G.2.1 a (mw G.2.1 b2 [] T) S)) {ls : Array Slot} (hl : lv_has ls 4 [(3, .int x3), (0, .ref b), (1, .ref (a 0)), (2, .ref (b2 0))]) : W p l e room_1 s m #[Value.ref b] below meth c H locs (200 + k) (100000 + 15 * k) (lw_Z below #[Value.ref b] s) (F0 m 850 ls []) := by
  obtain ⟨hx, hb, hr, hml, hown, hts0, hX, hbl, hlocks, hgv⟩ := C0
  have hts : ∀ w ∈ wsL_law, w.before #[Value.ref b] s = true := fun w h => hts0 w (wsL_law_in w h)
  have hA : ∀ q : Nat, s.heap.size ≤ q → (fun q : Nat => s.heap.size ≤ q) q := fun _ h => h
  have hbA : ¬ (fun q : Nat => s.heap.size ≤ q) b := Nat.not_le.mpr hbl
  have h1 : vp_in (x3 + 1) L := by rw [e3, show (1 : Int32) = nI 1 from rfl, nI_add]; exact vp_in_nI (by omega) (by omega)
  obtain ⟨u1, ev1⟩ : ∃ z, xs (x3 + 1).toNatClampNeg = z := ⟨_, rfl⟩
  obtain ⟨r, S2, T2, hfx, hfm, hR2⟩ := op_asked hR u1
  obtain ⟨hfx, rfl⟩ := hfx
  obtain ⟨hfm, rfl⟩ := hfm
  refine lv_aload_n hx hb dL_law_850 rfl (lv_at hl 2 rfl) ?_
  refine lv_aload_n hx hb dL_law_851 rfl (lv_at hl 1 rfl) ?_
  refine lv_iload_n hx hb dL_law_852 rfl (lv_at hl 0 rfl) ?_
  refine lv_iconst (v := 1) hx hb dL_law_853 (by decide) ?_
  refine lv_iadd hx hb dL_law_854 ?_
  refine l_sld hx hb hX hbl hbA hw.2.2 h1 ev1 dL_law_855 ?_
  refine cV (As := [.int u1]) (rest := []) ⟨hx, hb, hml, hown, hts⟩ hG hA hw (c_X7_asked G l a ha _ S u1 r hfx) (cwV 1 hts gL_law_X7_asked rfl rfl rfl (by decide +kernel) ⟨Nat.le_of_ble_eq_true rfl, Nat.le_of_ble_eq_true rfl⟩) (va_recv hG.1 hw.1 (ci := 7) (q0 := 0) rfl rfl) rfl hl.1 rfl (Nat.le_of_ble_eq_true rfl) dL_law_856 ⟨by show _ ≤ 600000; omega, by show _ ≤ 7302249; omega⟩ (fun H locs hw => ?_)
  replace hw := wd_toM hw
  refine lv_aload_n hx hb dL_law_859 rfl (lv_at hl 3 rfl) ?_
  refine lv_aload_n hx hb dL_law_860 rfl (lv_at hl 1 rfl) ?_
  refine lv_iload_n hx hb dL_law_861 rfl (lv_at hl 0 rfl) ?_
  refine lv_iconst (v := 1) hx hb dL_law_862 (by decide) ?_
  refine lv_iadd hx hb dL_law_863 ?_
  refine l_sld hx hb hX hbl hbA hw.2.2 h1 ev1 dL_law_864 ?_
  refine cV (As := [.int u1]) (rest := [.int r]) ⟨hx, hb, hml, hown, hts⟩ hG hA hw (c_X8_asked G l b2 _ T u1 r hfm) (cwV 1 hts gL_law_X8_asked rfl rfl rfl (by decide +kernel) ⟨Nat.le_of_ble_eq_true rfl, Nat.le_of_ble_eq_true rfl⟩) (va_recv hG.1 hw.1 (ci := 8) (q0 := 0) rfl rfl) rfl hl.1 rfl (Nat.le_of_ble_eq_true rfl) dL_law_865 ⟨by show _ ≤ 600000; omega, by show _ ≤ 7302249; omega⟩ (fun H locs hw => ?_)
  replace hw := wd_toX hw
  refine lv_icmp_eq (tgt := 1133) hx hb dL_law_868 (by decide) (fun _ => ?_) (fun c0 => absurd rfl c0)
  refine W.widen (k := 200 + (k + 1)) (n := 100000 + 15 * (k + 1)) (by omega) (by omega) ?_
  exact go _ _ _ _ _ _ _ hR2 ha hw hl
set_option maxHeartbeats 4000000 in
set_option maxRecDepth 100000 in
theorem law_answer {p : Program} {l : Launch} {e : Env} {s : State} {m : MethodId} {below : List Frame} {meth : Method} {c : Code} {G : GP} {b L : Nat} {xs : Nat → Int32} (hL : L ≤ 4096) (C0 : lw_At p s m meth c b L xs) (hG : Gb G (fun q : Nat => s.heap.size ≤ q) s s.heap) (hO : Ao s) {k : Nat} (hk : 8 * k + 8 ≤ L) {x3 : Int32} (e3 : x3 = nI (8 * k)) (go : ∀ (S T : St) (a b2 : Nat → Nat) (H : Heap) (locs : List Loc) (ls : Array Slot), Rel S T → a 45 = G.2.2.1 → Wd G (fun q : Nat => s.heap.size ≤ q) s H locs (xw G.2.1 a (mw G.2.1 b2 [] T) S) → lv_has ls 4 [(3, .int x3), (0, .ref b), (1, .ref (a 0)), (2, .ref (b2 0))] → W p l e room_1 s m #[Value.ref b] below meth c H locs (200 + (k + 1)) (100000 + 15 * (k + 1)) (lw_Z below #[Value.ref b] s) (F0 m 1133 ls [])) {S T : St} (hR : Rel S T) {a b2 : Nat → Nat} (ha : a 45 = G.2.2.1) {H : Heap} {locs : List Loc} (hw : Wd G (fun q : Nat => s.heap.size ≤ q) s H locs (xw G.2.1 a (mw G.2.1 b2 [] T) S)) {ls : Array Slot} (hl : lv_has ls 4 [(3, .int x3), (0, .ref b), (1, .ref (a 0)), (2, .ref (b2 0))]) : W p l e room_1 s m #[Value.ref b] below meth c H locs (200 + k) (100000 + 15 * k) (lw_Z below #[Value.ref b] s) (F0 m 873 ls []) := by
  obtain ⟨hx, hb, hr, hml, hown, hts0, hX, hbl, hlocks, hgv⟩ := C0
  have hts : ∀ w ∈ wsL_law, w.before #[Value.ref b] s = true := fun w h => hts0 w (wsL_law_in w h)
  have hA : ∀ q : Nat, s.heap.size ≤ q → (fun q : Nat => s.heap.size ≤ q) q := fun _ h => h
  have hbA : ¬ (fun q : Nat => s.heap.size ≤ q) b := Nat.not_le.mpr hbl
  have h1 : vp_in (x3 + 1) L := by rw [e3, show (1 : Int32) = nI 1 from rfl, nI_add]; exact vp_in_nI (by omega) (by omega)
  obtain ⟨u1, ev1⟩ : ∃ z, xs (x3 + 1).toNatClampNeg = z := ⟨_, rfl⟩
  have h2 : vp_in (x3 + 2) L := by rw [e3, show (2 : Int32) = nI 2 from rfl, nI_add]; exact vp_in_nI (by omega) (by omega)
  obtain ⟨u2, ev2⟩ : ∃ z, xs (x3 + 2).toNatClampNeg = z := ⟨_, rfl⟩
  by_cases cz2 : u2 = 0
  · obtain ⟨r, S2, T2, hfx, hfm, hR2⟩ := op_answer hR u1 0 (Or.inl rfl)
    refine lv_aload_n hx hb dL_law_873 rfl (lv_at hl 2 rfl) ?_
    refine lv_aload_n hx hb dL_law_874 rfl (lv_at hl 1 rfl) ?_
    refine lv_iload_n hx hb dL_law_875 rfl (lv_at hl 0 rfl) ?_
    refine lv_iconst (v := 1) hx hb dL_law_876 (by decide) ?_
    refine lv_iadd hx hb dL_law_877 ?_
    refine l_sld hx hb hX hbl hbA hw.2.2 h1 ev1 dL_law_878 ?_
    refine lv_aload_n hx hb dL_law_879 rfl (lv_at hl 1 rfl) ?_
    refine lv_iload_n hx hb dL_law_880 rfl (lv_at hl 0 rfl) ?_
    refine lv_iconst (v := 2) hx hb dL_law_881 (by decide) ?_
    refine lv_iadd hx hb dL_law_882 ?_
    refine l_sld hx hb hX hbl hbA hw.2.2 h2 ev2 dL_law_883 ?_
    refine lv_if_eq (tgt := 891) hx hb dL_law_884 (by decide) (fun _ => ?_) (fun c0 => absurd cz2 c0)
    refine lv_iconst (v := 0) hx hb dL_law_891 (by decide) ?_
    refine cV (As := [.int u1, .int 0]) (rest := []) ⟨hx, hb, hml, hown, hts⟩ hG hA hw (c_X7_answer G l a ha _ S u1 0 r S2 hfx) (cwV 2 hts gL_law_X7_answer rfl rfl rfl (by decide +kernel) ⟨Nat.le_of_ble_eq_true rfl, Nat.le_of_ble_eq_true rfl⟩) (va_recv hG.1 hw.1 (ci := 7) (q0 := 0) rfl rfl) rfl hl.1 rfl (Nat.le_of_ble_eq_true rfl) dL_law_892 ⟨by show _ ≤ 600000; omega, by show _ ≤ 7302249; omega⟩ (fun H locs hw => ?_)
    replace hw := wd_toM hw
    refine lv_aload_n hx hb dL_law_895 rfl (lv_at hl 3 rfl) ?_
    refine lv_aload_n hx hb dL_law_896 rfl (lv_at hl 1 rfl) ?_
    refine lv_iload_n hx hb dL_law_897 rfl (lv_at hl 0 rfl) ?_
    refine lv_iconst (v := 1) hx hb dL_law_898 (by decide) ?_
    refine lv_iadd hx hb dL_law_899 ?_
    refine l_sld hx hb hX hbl hbA hw.2.2 h1 ev1 dL_law_900 ?_
    refine lv_aload_n hx hb dL_law_901 rfl (lv_at hl 1 rfl) ?_
    refine lv_iload_n hx hb dL_law_902 rfl (lv_at hl 0 rfl) ?_
    refine lv_iconst (v := 2) hx hb dL_law_903 (by decide) ?_
    refine lv_iadd hx hb dL_law_904 ?_
    refine l_sld hx hb hX hbl hbA hw.2.2 h2 ev2 dL_law_905 ?_
    refine lv_if_eq (tgt := 913) hx hb dL_law_906 (by decide) (fun _ => ?_) (fun c0 => absurd cz2 c0)
    refine lv_iconst (v := 0) hx hb dL_law_913 (by decide) ?_
    refine cV (As := [.int u1, .int 0]) (rest := [.int r]) ⟨hx, hb, hml, hown, hts⟩ hG hA hw (c_X8_answer G l b2 _ T u1 0 r T2 hfm) (cwV 2 hts gL_law_X8_answer rfl rfl rfl (by decide +kernel) ⟨Nat.le_of_ble_eq_true rfl, Nat.le_of_ble_eq_true rfl⟩) (va_recv hG.1 hw.1 (ci := 8) (q0 := 0) rfl rfl) rfl hl.1 rfl (Nat.le_of_ble_eq_true rfl) dL_law_914 ⟨by show _ ≤ 600000; omega, by show _ ≤ 7302249; omega⟩ (fun H locs hw => ?_)
    replace hw := wd_toX hw
    refine lv_icmp_eq (tgt := 1133) hx hb dL_law_917 (by decide) (fun _ => ?_) (fun c0 => absurd rfl c0)
    refine W.widen (k := 200 + (k + 1)) (n := 100000 + 15 * (k + 1)) (by omega) (by omega) ?_
    exact go _ _ _ _ _ _ _ hR2 ha hw hl
  · obtain ⟨r, S2, T2, hfx, hfm, hR2⟩ := op_answer hR u1 1 (Or.inr rfl)
    refine lv_aload_n hx hb dL_law_873 rfl (lv_at hl 2 rfl) ?_
    refine lv_aload_n hx hb dL_law_874 rfl (lv_at hl 1 rfl) ?_
    refine lv_iload_n hx hb dL_law_875 rfl (lv_at hl 0 rfl) ?_
    refine lv_iconst (v := 1) hx hb dL_law_876 (by decide) ?_
    refine lv_iadd hx hb dL_law_877 ?_
    refine l_sld hx hb hX hbl hbA hw.2.2 h1 ev1 dL_law_878 ?_
    refine lv_aload_n hx hb dL_law_879 rfl (lv_at hl 1 rfl) ?_
    refine lv_iload_n hx hb dL_law_880 rfl (lv_at hl 0 rfl) ?_
    refine lv_iconst (v := 2) hx hb dL_law_881 (by decide) ?_
    refine lv_iadd hx hb dL_law_882 ?_
    refine l_sld hx hb hX hbl hbA hw.2.2 h2 ev2 dL_law_883 ?_
    refine lv_if_eq (tgt := 891) hx hb dL_law_884 (by decide) (fun c0 => absurd c0 cz2) (fun _ => ?_)
    refine lv_iconst (v := 1) hx hb dL_law_887 (by decide) ?_
    refine lv_goto (tgt := 892) hx hb dL_law_888 (by decide) ?_
    refine cV (As := [.int u1, .int 1]) (rest := []) ⟨hx, hb, hml, hown, hts⟩ hG hA hw (c_X7_answer G l a ha _ S u1 1 r S2 hfx) (cwV 2 hts gL_law_X7_answer rfl rfl rfl (by decide +kernel) ⟨Nat.le_of_ble_eq_true rfl, Nat.le_of_ble_eq_true rfl⟩) (va_recv hG.1 hw.1 (ci := 7) (q0 := 0) rfl rfl) rfl hl.1 rfl (Nat.le_of_ble_eq_true rfl) dL_law_892 ⟨by show _ ≤ 600000; omega, by show _ ≤ 7302249; omega⟩ (fun H locs hw => ?_)
    replace hw := wd_toM hw
    refine lv_aload_n hx hb dL_law_895 rfl (lv_at hl 3 rfl) ?_
    refine lv_aload_n hx hb dL_law_896 rfl (lv_at hl 1 rfl) ?_
    refine lv_iload_n hx hb dL_law_897 rfl (lv_at hl 0 rfl) ?_
    refine lv_iconst (v := 1) hx hb dL_law_898 (by decide) ?_
    refine lv_iadd hx hb dL_law_899 ?_
    refine l_sld hx hb hX hbl hbA hw.2.2 h1 ev1 dL_law_900 ?_
    refine lv_aload_n hx hb dL_law_901 rfl (lv_at hl 1 rfl) ?_
    refine lv_iload_n hx hb dL_law_902 rfl (lv_at hl 0 rfl) ?_
    refine lv_iconst (v := 2) hx hb dL_law_903 (by decide) ?_
    refine lv_iadd hx hb dL_law_904 ?_
    refine l_sld hx hb hX hbl hbA hw.2.2 h2 ev2 dL_law_905 ?_
    refine lv_if_eq (tgt := 913) hx hb dL_law_906 (by decide) (fun c0 => absurd c0 cz2) (fun _ => ?_)
    refine lv_iconst (v := 1) hx hb dL_law_909 (by decide) ?_
    refine lv_goto (tgt := 914) hx hb dL_law_910 (by decide) ?_
    refine cV (As := [.int u1, .int 1]) (rest := [.int r]) ⟨hx, hb, hml, hown, hts⟩ hG hA hw (c_X8_answer G l b2 _ T u1 1 r T2 hfm) (cwV 2 hts gL_law_X8_answer rfl rfl rfl (by decide +kernel) ⟨Nat.le_of_ble_eq_true rfl, Nat.le_of_ble_eq_true rfl⟩) (va_recv hG.1 hw.1 (ci := 8) (q0 := 0) rfl rfl) rfl hl.1 rfl (Nat.le_of_ble_eq_true rfl) dL_law_914 ⟨by show _ ≤ 600000; omega, by show _ ≤ 7302249; omega⟩ (fun H locs hw => ?_)
    replace hw := wd_toX hw
    refine lv_icmp_eq (tgt := 1133) hx hb dL_law_917 (by decide) (fun _ => ?_) (fun c0 => absurd rfl c0)
    refine W.widen (k := 200 + (k + 1)) (n := 100000 + 15 * (k + 1)) (by omega) (by omega) ?_
    exact go _ _ _ _ _ _ _ hR2 ha hw hl
set_option maxHeartbeats 4000000 in
set_option maxRecDepth 100000 in
theorem law_told {p : Program} {l : Launch} {e : Env} {s : State} {m : MethodId} {below : List Frame} {meth : Method} {c : Code} {G : GP} {b L : Nat} {xs : Nat → Int32} (hL : L ≤ 4096) (C0 : lw_At p s m meth c b L xs) (hG : Gb G (fun q : Nat => s.heap.size ≤ q) s s.heap) (hO : Ao s) {k : Nat} (hk : 8 * k + 8 ≤ L) {x3 : Int32} (e3 : x3 = nI (8 * k)) (go : ∀ (S T : St) (a b2 : Nat → Nat) (H : Heap) (locs : List Loc) (ls : Array Slot), Rel S T → a 45 = G.2.2.1 → Wd G (fun q : Nat => s.heap.size ≤ q) s H locs (xw G.2.1 a (mw G.2.1 b2 [] T) S) → lv_has ls 4 [(3, .int x3), (0, .ref b), (1, .ref (a 0)), (2, .ref (b2 0))] → W p l e room_1 s m #[Value.ref b] below meth c H locs (200 + (k + 1)) (100000 + 15 * (k + 1)) (lw_Z below #[Value.ref b] s) (F0 m 1133 ls [])) {S T : St} (hR : Rel S T) {a b2 : Nat → Nat} (ha : a 45 = G.2.2.1) {H : Heap} {locs : List Loc} (hw : Wd G (fun q : Nat => s.heap.size ≤ q) s H locs (xw G.2.1 a (mw G.2.1 b2 [] T) S)) {ls : Array Slot} (hl : lv_has ls 4 [(3, .int x3), (0, .ref b), (1, .ref (a 0)), (2, .ref (b2 0))]) : W p l e room_1 s m #[Value.ref b] below meth c H locs (200 + k) (100000 + 15 * k) (lw_Z below #[Value.ref b] s) (F0 m 922 ls []) := by
  obtain ⟨hx, hb, hr, hml, hown, hts0, hX, hbl, hlocks, hgv⟩ := C0
  have hts : ∀ w ∈ wsL_law, w.before #[Value.ref b] s = true := fun w h => hts0 w (wsL_law_in w h)
  have hA : ∀ q : Nat, s.heap.size ≤ q → (fun q : Nat => s.heap.size ≤ q) q := fun _ h => h
  have hbA : ¬ (fun q : Nat => s.heap.size ≤ q) b := Nat.not_le.mpr hbl
  have h1 : vp_in (x3 + 1) L := by rw [e3, show (1 : Int32) = nI 1 from rfl, nI_add]; exact vp_in_nI (by omega) (by omega)
  obtain ⟨u1, ev1⟩ : ∃ z, xs (x3 + 1).toNatClampNeg = z := ⟨_, rfl⟩
  have h2 : vp_in (x3 + 2) L := by rw [e3, show (2 : Int32) = nI 2 from rfl, nI_add]; exact vp_in_nI (by omega) (by omega)
  obtain ⟨u2, ev2⟩ : ∃ z, xs (x3 + 2).toNatClampNeg = z := ⟨_, rfl⟩
  obtain ⟨r, S2, T2, hfx, hfm, hR2⟩ := op_told hR u1 u2
  obtain ⟨hfx, rfl⟩ := hfx
  obtain ⟨hfm, rfl⟩ := hfm
  refine lv_aload_n hx hb dL_law_922 rfl (lv_at hl 2 rfl) ?_
  refine lv_aload_n hx hb dL_law_923 rfl (lv_at hl 1 rfl) ?_
  refine lv_iload_n hx hb dL_law_924 rfl (lv_at hl 0 rfl) ?_
  refine lv_iconst (v := 1) hx hb dL_law_925 (by decide) ?_
  refine lv_iadd hx hb dL_law_926 ?_
  refine l_sld hx hb hX hbl hbA hw.2.2 h1 ev1 dL_law_927 ?_
  refine lv_aload_n hx hb dL_law_928 rfl (lv_at hl 1 rfl) ?_
  refine lv_iload_n hx hb dL_law_929 rfl (lv_at hl 0 rfl) ?_
  refine lv_iconst (v := 2) hx hb dL_law_930 (by decide) ?_
  refine lv_iadd hx hb dL_law_931 ?_
  refine l_sld hx hb hX hbl hbA hw.2.2 h2 ev2 dL_law_932 ?_
  refine cV (As := [.int u1, .int u2]) (rest := []) ⟨hx, hb, hml, hown, hts⟩ hG hA hw (c_X7_told G l a ha _ S u1 u2 r hfx) (cwV 2 hts gL_law_X7_told rfl rfl rfl (by decide +kernel) ⟨Nat.le_of_ble_eq_true rfl, Nat.le_of_ble_eq_true rfl⟩) (va_recv hG.1 hw.1 (ci := 7) (q0 := 0) rfl rfl) rfl hl.1 rfl (Nat.le_of_ble_eq_true rfl) dL_law_933 ⟨by show _ ≤ 600000; omega, by show _ ≤ 7302249; omega⟩ (fun H locs hw => ?_)
  replace hw := wd_toM hw
  refine lv_aload_n hx hb dL_law_936 rfl (lv_at hl 3 rfl) ?_
  refine lv_aload_n hx hb dL_law_937 rfl (lv_at hl 1 rfl) ?_
  refine lv_iload_n hx hb dL_law_938 rfl (lv_at hl 0 rfl) ?_
  refine lv_iconst (v := 1) hx hb dL_law_939 (by decide) ?_
  refine lv_iadd hx hb dL_law_940 ?_
  refine l_sld hx hb hX hbl hbA hw.2.2 h1 ev1 dL_law_941 ?_
  refine lv_aload_n hx hb dL_law_942 rfl (lv_at hl 1 rfl) ?_
  refine lv_iload_n hx hb dL_law_943 rfl (lv_at hl 0 rfl) ?_
  refine lv_iconst (v := 2) hx hb dL_law_944 (by decide) ?_
  refine lv_iadd hx hb dL_law_945 ?_
  refine l_sld hx hb hX hbl hbA hw.2.2 h2 ev2 dL_law_946 ?_
  refine cV (As := [.int u1, .int u2]) (rest := [.int r]) ⟨hx, hb, hml, hown, hts⟩ hG hA hw (c_X8_told G l b2 _ T u1 u2 r hfm) (cwV 2 hts gL_law_X8_told rfl rfl rfl (by decide +kernel) ⟨Nat.le_of_ble_eq_true rfl, Nat.le_of_ble_eq_true rfl⟩) (va_recv hG.1 hw.1 (ci := 8) (q0 := 0) rfl rfl) rfl hl.1 rfl (Nat.le_of_ble_eq_true rfl) dL_law_947 ⟨by show _ ≤ 600000; omega, by show _ ≤ 7302249; omega⟩ (fun H locs hw => ?_)
  replace hw := wd_toX hw
  refine lv_icmp_eq (tgt := 1133) hx hb dL_law_950 (by decide) (fun _ => ?_) (fun c0 => absurd rfl c0)
  refine W.widen (k := 200 + (k + 1)) (n := 100000 + 15 * (k + 1)) (by omega) (by omega) ?_
  exact go _ _ _ _ _ _ _ hR2 ha hw hl
set_option maxHeartbeats 4000000 in
set_option maxRecDepth 100000 in
theorem law_barred {p : Program} {l : Launch} {e : Env} {s : State} {m : MethodId} {below : List Frame} {meth : Method} {c : Code} {G : GP} {b L : Nat} {xs : Nat → Int32} (hL : L ≤ 4096) (C0 : lw_At p s m meth c b L xs) (hG : Gb G (fun q : Nat => s.heap.size ≤ q) s s.heap) (hO : Ao s) {k : Nat} (hk : 8 * k + 8 ≤ L) {x3 : Int32} (e3 : x3 = nI (8 * k)) (go : ∀ (S T : St) (a b2 : Nat → Nat) (H : Heap) (locs : List Loc) (ls : Array Slot), Rel S T → a 45 = G.2.2.1 → Wd G (fun q : Nat => s.heap.size ≤ q) s H locs (xw G.2.1 a (mw G.2.1 b2 [] T) S) → lv_has ls 4 [(3, .int x3), (0, .ref b), (1, .ref (a 0)), (2, .ref (b2 0))] → W p l e room_1 s m #[Value.ref b] below meth c H locs (200 + (k + 1)) (100000 + 15 * (k + 1)) (lw_Z below #[Value.ref b] s) (F0 m 1133 ls [])) {S T : St} (hR : Rel S T) {a b2 : Nat → Nat} (ha : a 45 = G.2.2.1) {H : Heap} {locs : List Loc} (hw : Wd G (fun q : Nat => s.heap.size ≤ q) s H locs (xw G.2.1 a (mw G.2.1 b2 [] T) S)) {ls : Array Slot} (hl : lv_has ls 4 [(3, .int x3), (0, .ref b), (1, .ref (a 0)), (2, .ref (b2 0))]) : W p l e room_1 s m #[Value.ref b] below meth c H locs (200 + k) (100000 + 15 * k) (lw_Z below #[Value.ref b] s) (F0 m 955 ls []) := by
  obtain ⟨hx, hb, hr, hml, hown, hts0, hX, hbl, hlocks, hgv⟩ := C0
  have hts : ∀ w ∈ wsL_law, w.before #[Value.ref b] s = true := fun w h => hts0 w (wsL_law_in w h)
  have hA : ∀ q : Nat, s.heap.size ≤ q → (fun q : Nat => s.heap.size ≤ q) q := fun _ h => h
  have hbA : ¬ (fun q : Nat => s.heap.size ≤ q) b := Nat.not_le.mpr hbl
  have h1 : vp_in (x3 + 1) L := by rw [e3, show (1 : Int32) = nI 1 from rfl, nI_add]; exact vp_in_nI (by omega) (by omega)
  obtain ⟨u1, ev1⟩ : ∃ z, xs (x3 + 1).toNatClampNeg = z := ⟨_, rfl⟩
  have h2 : vp_in (x3 + 2) L := by rw [e3, show (2 : Int32) = nI 2 from rfl, nI_add]; exact vp_in_nI (by omega) (by omega)
  obtain ⟨u2, ev2⟩ : ∃ z, xs (x3 + 2).toNatClampNeg = z := ⟨_, rfl⟩
  obtain ⟨r, S2, T2, hfx, hfm, hR2⟩ := op_barred hR u1 u2
  obtain ⟨hfx, rfl⟩ := hfx
  obtain ⟨hfm, rfl⟩ := hfm
  refine lv_aload_n hx hb dL_law_955 rfl (lv_at hl 2 rfl) ?_
  refine lv_aload_n hx hb dL_law_956 rfl (lv_at hl 1 rfl) ?_
  refine lv_iload_n hx hb dL_law_957 rfl (lv_at hl 0 rfl) ?_
  refine lv_iconst (v := 1) hx hb dL_law_958 (by decide) ?_
  refine lv_iadd hx hb dL_law_959 ?_
  refine l_sld hx hb hX hbl hbA hw.2.2 h1 ev1 dL_law_960 ?_
  refine lv_aload_n hx hb dL_law_961 rfl (lv_at hl 1 rfl) ?_
  refine lv_iload_n hx hb dL_law_962 rfl (lv_at hl 0 rfl) ?_
  refine lv_iconst (v := 2) hx hb dL_law_963 (by decide) ?_
  refine lv_iadd hx hb dL_law_964 ?_
  refine l_sld hx hb hX hbl hbA hw.2.2 h2 ev2 dL_law_965 ?_
  refine cV (As := [.int u1, .int u2]) (rest := []) ⟨hx, hb, hml, hown, hts⟩ hG hA hw (c_X7_barred G l a ha _ S u1 u2 r hfx) (cwV 2 hts gL_law_X7_barred rfl rfl rfl (by decide +kernel) ⟨Nat.le_of_ble_eq_true rfl, Nat.le_of_ble_eq_true rfl⟩) (va_recv hG.1 hw.1 (ci := 7) (q0 := 0) rfl rfl) rfl hl.1 rfl (Nat.le_of_ble_eq_true rfl) dL_law_966 ⟨by show _ ≤ 600000; omega, by show _ ≤ 7302249; omega⟩ (fun H locs hw => ?_)
  replace hw := wd_toM hw
  refine lv_aload_n hx hb dL_law_969 rfl (lv_at hl 3 rfl) ?_
  refine lv_aload_n hx hb dL_law_970 rfl (lv_at hl 1 rfl) ?_
  refine lv_iload_n hx hb dL_law_971 rfl (lv_at hl 0 rfl) ?_
  refine lv_iconst (v := 1) hx hb dL_law_972 (by decide) ?_
  refine lv_iadd hx hb dL_law_973 ?_
  refine l_sld hx hb hX hbl hbA hw.2.2 h1 ev1 dL_law_974 ?_
  refine lv_aload_n hx hb dL_law_975 rfl (lv_at hl 1 rfl) ?_
  refine lv_iload_n hx hb dL_law_976 rfl (lv_at hl 0 rfl) ?_
  refine lv_iconst (v := 2) hx hb dL_law_977 (by decide) ?_
  refine lv_iadd hx hb dL_law_978 ?_
  refine l_sld hx hb hX hbl hbA hw.2.2 h2 ev2 dL_law_979 ?_
  refine cV (As := [.int u1, .int u2]) (rest := [.int r]) ⟨hx, hb, hml, hown, hts⟩ hG hA hw (c_X8_barred G l b2 _ T u1 u2 r hfm) (cwV 2 hts gL_law_X8_barred rfl rfl rfl (by decide +kernel) ⟨Nat.le_of_ble_eq_true rfl, Nat.le_of_ble_eq_true rfl⟩) (va_recv hG.1 hw.1 (ci := 8) (q0 := 0) rfl rfl) rfl hl.1 rfl (Nat.le_of_ble_eq_true rfl) dL_law_980 ⟨by show _ ≤ 600000; omega, by show _ ≤ 7302249; omega⟩ (fun H locs hw => ?_)
  replace hw := wd_toX hw
  refine lv_icmp_eq (tgt := 1133) hx hb dL_law_983 (by decide) (fun _ => ?_) (fun c0 => absurd rfl c0)
  refine W.widen (k := 200 + (k + 1)) (n := 100000 + 15 * (k + 1)) (by omega) (by omega) ?_
  exact go _ _ _ _ _ _ _ hR2 ha hw hl
set_option maxHeartbeats 4000000 in
set_option maxRecDepth 100000 in
theorem law_claim {p : Program} {l : Launch} {e : Env} {s : State} {m : MethodId} {below : List Frame} {meth : Method} {c : Code} {G : GP} {b L : Nat} {xs : Nat → Int32} (hL : L ≤ 4096) (C0 : lw_At p s m meth c b L xs) (hG : Gb G (fun q : Nat => s.heap.size ≤ q) s s.heap) (hO : Ao s) {k : Nat} (hk : 8 * k + 8 ≤ L) {x3 : Int32} (e3 : x3 = nI (8 * k)) (go : ∀ (S T : St) (a b2 : Nat → Nat) (H : Heap) (locs : List Loc) (ls : Array Slot), Rel S T → a 45 = G.2.2.1 → Wd G (fun q : Nat => s.heap.size ≤ q) s H locs (xw G.2.1 a (mw G.2.1 b2 [] T) S) → lv_has ls 4 [(3, .int x3), (0, .ref b), (1, .ref (a 0)), (2, .ref (b2 0))] → W p l e room_1 s m #[Value.ref b] below meth c H locs (200 + (k + 1)) (100000 + 15 * (k + 1)) (lw_Z below #[Value.ref b] s) (F0 m 1133 ls [])) {S T : St} (hR : Rel S T) {a b2 : Nat → Nat} (ha : a 45 = G.2.2.1) {H : Heap} {locs : List Loc} (hw : Wd G (fun q : Nat => s.heap.size ≤ q) s H locs (xw G.2.1 a (mw G.2.1 b2 [] T) S)) {ls : Array Slot} (hl : lv_has ls 4 [(3, .int x3), (0, .ref b), (1, .ref (a 0)), (2, .ref (b2 0))]) : W p l e room_1 s m #[Value.ref b] below meth c H locs (200 + k) (100000 + 15 * k) (lw_Z below #[Value.ref b] s) (F0 m 988 ls []) := by
  obtain ⟨hx, hb, hr, hml, hown, hts0, hX, hbl, hlocks, hgv⟩ := C0
  have hts : ∀ w ∈ wsL_law, w.before #[Value.ref b] s = true := fun w h => hts0 w (wsL_law_in w h)
  have hA : ∀ q : Nat, s.heap.size ≤ q → (fun q : Nat => s.heap.size ≤ q) q := fun _ h => h
  have hbA : ¬ (fun q : Nat => s.heap.size ≤ q) b := Nat.not_le.mpr hbl
  have h1 : vp_in (x3 + 1) L := by rw [e3, show (1 : Int32) = nI 1 from rfl, nI_add]; exact vp_in_nI (by omega) (by omega)
  obtain ⟨u1, ev1⟩ : ∃ z, xs (x3 + 1).toNatClampNeg = z := ⟨_, rfl⟩
  have h2 : vp_in (x3 + 2) L := by rw [e3, show (2 : Int32) = nI 2 from rfl, nI_add]; exact vp_in_nI (by omega) (by omega)
  obtain ⟨u2, ev2⟩ : ∃ z, xs (x3 + 2).toNatClampNeg = z := ⟨_, rfl⟩
  obtain ⟨r, S2, T2, hfx, hfm, hR2⟩ := op_claim hR u1 u2
  obtain ⟨hfx, rfl⟩ := hfx
  obtain ⟨hfm, rfl⟩ := hfm
  refine lv_aload_n hx hb dL_law_988 rfl (lv_at hl 2 rfl) ?_
  refine lv_aload_n hx hb dL_law_989 rfl (lv_at hl 1 rfl) ?_
  refine lv_iload_n hx hb dL_law_990 rfl (lv_at hl 0 rfl) ?_
  refine lv_iconst (v := 1) hx hb dL_law_991 (by decide) ?_
  refine lv_iadd hx hb dL_law_992 ?_
  refine l_sld hx hb hX hbl hbA hw.2.2 h1 ev1 dL_law_993 ?_
  refine lv_aload_n hx hb dL_law_994 rfl (lv_at hl 1 rfl) ?_
  refine lv_iload_n hx hb dL_law_995 rfl (lv_at hl 0 rfl) ?_
  refine lv_iconst (v := 2) hx hb dL_law_996 (by decide) ?_
  refine lv_iadd hx hb dL_law_997 ?_
  refine l_sld hx hb hX hbl hbA hw.2.2 h2 ev2 dL_law_998 ?_
  refine cV (As := [.int u1, .int u2]) (rest := []) ⟨hx, hb, hml, hown, hts⟩ hG hA hw (c_X7_claim G l a ha _ S u1 u2 r hfx) (cwV 2 hts gL_law_X7_claim rfl rfl rfl (by decide +kernel) ⟨Nat.le_of_ble_eq_true rfl, Nat.le_of_ble_eq_true rfl⟩) (va_recv hG.1 hw.1 (ci := 7) (q0 := 0) rfl rfl) rfl hl.1 rfl (Nat.le_of_ble_eq_true rfl) dL_law_999 ⟨by show _ ≤ 600000; omega, by show _ ≤ 7302249; omega⟩ (fun H locs hw => ?_)
  replace hw := wd_toM hw
  refine lv_aload_n hx hb dL_law_1002 rfl (lv_at hl 3 rfl) ?_
  refine lv_aload_n hx hb dL_law_1003 rfl (lv_at hl 1 rfl) ?_
  refine lv_iload_n hx hb dL_law_1004 rfl (lv_at hl 0 rfl) ?_
  refine lv_iconst (v := 1) hx hb dL_law_1005 (by decide) ?_
  refine lv_iadd hx hb dL_law_1006 ?_
  refine l_sld hx hb hX hbl hbA hw.2.2 h1 ev1 dL_law_1007 ?_
  refine lv_aload_n hx hb dL_law_1008 rfl (lv_at hl 1 rfl) ?_
  refine lv_iload_n hx hb dL_law_1009 rfl (lv_at hl 0 rfl) ?_
  refine lv_iconst (v := 2) hx hb dL_law_1010 (by decide) ?_
  refine lv_iadd hx hb dL_law_1011 ?_
  refine l_sld hx hb hX hbl hbA hw.2.2 h2 ev2 dL_law_1012 ?_
  refine cV (As := [.int u1, .int u2]) (rest := [.int r]) ⟨hx, hb, hml, hown, hts⟩ hG hA hw (c_X8_claim G l b2 _ T u1 u2 r hfm) (cwV 2 hts gL_law_X8_claim rfl rfl rfl (by decide +kernel) ⟨Nat.le_of_ble_eq_true rfl, Nat.le_of_ble_eq_true rfl⟩) (va_recv hG.1 hw.1 (ci := 8) (q0 := 0) rfl rfl) rfl hl.1 rfl (Nat.le_of_ble_eq_true rfl) dL_law_1013 ⟨by show _ ≤ 600000; omega, by show _ ≤ 7302249; omega⟩ (fun H locs hw => ?_)
  replace hw := wd_toX hw
  refine lv_icmp_eq (tgt := 1133) hx hb dL_law_1016 (by decide) (fun _ => ?_) (fun c0 => absurd rfl c0)
  refine W.widen (k := 200 + (k + 1)) (n := 100000 + 15 * (k + 1)) (by omega) (by omega) ?_
  exact go _ _ _ _ _ _ _ hR2 ha hw hl
set_option maxHeartbeats 4000000 in
set_option maxRecDepth 100000 in
theorem law_line {p : Program} {l : Launch} {e : Env} {s : State} {m : MethodId} {below : List Frame} {meth : Method} {c : Code} {G : GP} {b L : Nat} {xs : Nat → Int32} (hL : L ≤ 4096) (C0 : lw_At p s m meth c b L xs) (hG : Gb G (fun q : Nat => s.heap.size ≤ q) s s.heap) (hO : Ao s) {k : Nat} (hk : 8 * k + 8 ≤ L) {x3 : Int32} (e3 : x3 = nI (8 * k)) (go : ∀ (S T : St) (a b2 : Nat → Nat) (H : Heap) (locs : List Loc) (ls : Array Slot), Rel S T → a 45 = G.2.2.1 → Wd G (fun q : Nat => s.heap.size ≤ q) s H locs (xw G.2.1 a (mw G.2.1 b2 [] T) S) → lv_has ls 4 [(3, .int x3), (0, .ref b), (1, .ref (a 0)), (2, .ref (b2 0))] → W p l e room_1 s m #[Value.ref b] below meth c H locs (200 + (k + 1)) (100000 + 15 * (k + 1)) (lw_Z below #[Value.ref b] s) (F0 m 1133 ls [])) {S T : St} (hR : Rel S T) {a b2 : Nat → Nat} (ha : a 45 = G.2.2.1) {H : Heap} {locs : List Loc} (hw : Wd G (fun q : Nat => s.heap.size ≤ q) s H locs (xw G.2.1 a (mw G.2.1 b2 [] T) S)) {ls : Array Slot} (hl : lv_has ls 4 [(3, .int x3), (0, .ref b), (1, .ref (a 0)), (2, .ref (b2 0))]) : W p l e room_1 s m #[Value.ref b] below meth c H locs (200 + k) (100000 + 15 * k) (lw_Z below #[Value.ref b] s) (F0 m 1021 ls []) := by
  obtain ⟨hx, hb, hr, hml, hown, hts0, hX, hbl, hlocks, hgv⟩ := C0
  have hts : ∀ w ∈ wsL_law, w.before #[Value.ref b] s = true := fun w h => hts0 w (wsL_law_in w h)
  have hA : ∀ q : Nat, s.heap.size ≤ q → (fun q : Nat => s.heap.size ≤ q) q := fun _ h => h
  have hbA : ¬ (fun q : Nat => s.heap.size ≤ q) b := Nat.not_le.mpr hbl
  have h1 : vp_in (x3 + 1) L := by rw [e3, show (1 : Int32) = nI 1 from rfl, nI_add]; exact vp_in_nI (by omega) (by omega)
  obtain ⟨u1, ev1⟩ : ∃ z, xs (x3 + 1).toNatClampNeg = z := ⟨_, rfl⟩
  have h2 : vp_in (x3 + 2) L := by rw [e3, show (2 : Int32) = nI 2 from rfl, nI_add]; exact vp_in_nI (by omega) (by omega)
  obtain ⟨u2, ev2⟩ : ∃ z, xs (x3 + 2).toNatClampNeg = z := ⟨_, rfl⟩
  have h3 : vp_in (x3 + 3) L := by rw [e3, show (3 : Int32) = nI 3 from rfl, nI_add]; exact vp_in_nI (by omega) (by omega)
  obtain ⟨u3, ev3⟩ : ∃ z, xs (x3 + 3).toNatClampNeg = z := ⟨_, rfl⟩
  obtain ⟨r, S2, T2, hfx, hfm, hR2⟩ := op_line hR u1 u2 u3
  obtain ⟨hfx, rfl⟩ := hfx
  obtain ⟨hfm, rfl⟩ := hfm
  refine lv_aload_n hx hb dL_law_1021 rfl (lv_at hl 2 rfl) ?_
  refine lv_aload_n hx hb dL_law_1022 rfl (lv_at hl 1 rfl) ?_
  refine lv_iload_n hx hb dL_law_1023 rfl (lv_at hl 0 rfl) ?_
  refine lv_iconst (v := 1) hx hb dL_law_1024 (by decide) ?_
  refine lv_iadd hx hb dL_law_1025 ?_
  refine l_sld hx hb hX hbl hbA hw.2.2 h1 ev1 dL_law_1026 ?_
  refine lv_aload_n hx hb dL_law_1027 rfl (lv_at hl 1 rfl) ?_
  refine lv_iload_n hx hb dL_law_1028 rfl (lv_at hl 0 rfl) ?_
  refine lv_iconst (v := 2) hx hb dL_law_1029 (by decide) ?_
  refine lv_iadd hx hb dL_law_1030 ?_
  refine l_sld hx hb hX hbl hbA hw.2.2 h2 ev2 dL_law_1031 ?_
  refine lv_aload_n hx hb dL_law_1032 rfl (lv_at hl 1 rfl) ?_
  refine lv_iload_n hx hb dL_law_1033 rfl (lv_at hl 0 rfl) ?_
  refine lv_iconst (v := 3) hx hb dL_law_1034 (by decide) ?_
  refine lv_iadd hx hb dL_law_1035 ?_
  refine l_sld hx hb hX hbl hbA hw.2.2 h3 ev3 dL_law_1036 ?_
  refine cV (As := [.int u1, .int u2, .int u3]) (rest := []) ⟨hx, hb, hml, hown, hts⟩ hG hA hw (c_X7_line G l a ha _ S u1 u2 u3 r hfx) (cwV 3 hts gL_law_X7_line rfl rfl rfl (by decide +kernel) ⟨Nat.le_of_ble_eq_true rfl, Nat.le_of_ble_eq_true rfl⟩) (va_recv hG.1 hw.1 (ci := 7) (q0 := 0) rfl rfl) rfl hl.1 rfl (Nat.le_of_ble_eq_true rfl) dL_law_1037 ⟨by show _ ≤ 600000; omega, by show _ ≤ 7302249; omega⟩ (fun H locs hw => ?_)
  replace hw := wd_toM hw
  refine lv_aload_n hx hb dL_law_1040 rfl (lv_at hl 3 rfl) ?_
  refine lv_aload_n hx hb dL_law_1041 rfl (lv_at hl 1 rfl) ?_
  refine lv_iload_n hx hb dL_law_1042 rfl (lv_at hl 0 rfl) ?_
  refine lv_iconst (v := 1) hx hb dL_law_1043 (by decide) ?_
  refine lv_iadd hx hb dL_law_1044 ?_
  refine l_sld hx hb hX hbl hbA hw.2.2 h1 ev1 dL_law_1045 ?_
  refine lv_aload_n hx hb dL_law_1046 rfl (lv_at hl 1 rfl) ?_
  refine lv_iload_n hx hb dL_law_1047 rfl (lv_at hl 0 rfl) ?_
  refine lv_iconst (v := 2) hx hb dL_law_1048 (by decide) ?_
  refine lv_iadd hx hb dL_law_1049 ?_
  refine l_sld hx hb hX hbl hbA hw.2.2 h2 ev2 dL_law_1050 ?_
  refine lv_aload_n hx hb dL_law_1051 rfl (lv_at hl 1 rfl) ?_
  refine lv_iload_n hx hb dL_law_1052 rfl (lv_at hl 0 rfl) ?_
  refine lv_iconst (v := 3) hx hb dL_law_1053 (by decide) ?_
  refine lv_iadd hx hb dL_law_1054 ?_
  refine l_sld hx hb hX hbl hbA hw.2.2 h3 ev3 dL_law_1055 ?_
  refine cV (As := [.int u1, .int u2, .int u3]) (rest := [.int r]) ⟨hx, hb, hml, hown, hts⟩ hG hA hw (c_X8_line G l b2 _ T u1 u2 u3 r hfm) (cwV 3 hts gL_law_X8_line rfl rfl rfl (by decide +kernel) ⟨Nat.le_of_ble_eq_true rfl, Nat.le_of_ble_eq_true rfl⟩) (va_recv hG.1 hw.1 (ci := 8) (q0 := 0) rfl rfl) rfl hl.1 rfl (Nat.le_of_ble_eq_true rfl) dL_law_1056 ⟨by show _ ≤ 600000; omega, by show _ ≤ 7302249; omega⟩ (fun H locs hw => ?_)
  replace hw := wd_toX hw
  refine lv_icmp_eq (tgt := 1133) hx hb dL_law_1059 (by decide) (fun _ => ?_) (fun c0 => absurd rfl c0)
  refine W.widen (k := 200 + (k + 1)) (n := 100000 + 15 * (k + 1)) (by omega) (by omega) ?_
  exact go _ _ _ _ _ _ _ hR2 ha hw hl
set_option maxHeartbeats 4000000 in
set_option maxRecDepth 100000 in
theorem law_pay {p : Program} {l : Launch} {e : Env} {s : State} {m : MethodId} {below : List Frame} {meth : Method} {c : Code} {G : GP} {b L : Nat} {xs : Nat → Int32} (hL : L ≤ 4096) (C0 : lw_At p s m meth c b L xs) (hG : Gb G (fun q : Nat => s.heap.size ≤ q) s s.heap) (hO : Ao s) {k : Nat} (hk : 8 * k + 8 ≤ L) {x3 : Int32} (e3 : x3 = nI (8 * k)) (go : ∀ (S T : St) (a b2 : Nat → Nat) (H : Heap) (locs : List Loc) (ls : Array Slot), Rel S T → a 45 = G.2.2.1 → Wd G (fun q : Nat => s.heap.size ≤ q) s H locs (xw G.2.1 a (mw G.2.1 b2 [] T) S) → lv_has ls 4 [(3, .int x3), (0, .ref b), (1, .ref (a 0)), (2, .ref (b2 0))] → W p l e room_1 s m #[Value.ref b] below meth c H locs (200 + (k + 1)) (100000 + 15 * (k + 1)) (lw_Z below #[Value.ref b] s) (F0 m 1133 ls [])) {S T : St} (hR : Rel S T) {a b2 : Nat → Nat} (ha : a 45 = G.2.2.1) {H : Heap} {locs : List Loc} (hw : Wd G (fun q : Nat => s.heap.size ≤ q) s H locs (xw G.2.1 a (mw G.2.1 b2 [] T) S)) {ls : Array Slot} (hl : lv_has ls 4 [(3, .int x3), (0, .ref b), (1, .ref (a 0)), (2, .ref (b2 0))]) : W p l e room_1 s m #[Value.ref b] below meth c H locs (200 + k) (100000 + 15 * k) (lw_Z below #[Value.ref b] s) (F0 m 1064 ls []) := by
  obtain ⟨hx, hb, hr, hml, hown, hts0, hX, hbl, hlocks, hgv⟩ := C0
  have hts : ∀ w ∈ wsL_law, w.before #[Value.ref b] s = true := fun w h => hts0 w (wsL_law_in w h)
  have hA : ∀ q : Nat, s.heap.size ≤ q → (fun q : Nat => s.heap.size ≤ q) q := fun _ h => h
  have hbA : ¬ (fun q : Nat => s.heap.size ≤ q) b := Nat.not_le.mpr hbl
  have h1 : vp_in (x3 + 1) L := by rw [e3, show (1 : Int32) = nI 1 from rfl, nI_add]; exact vp_in_nI (by omega) (by omega)
  obtain ⟨u1, ev1⟩ : ∃ z, xs (x3 + 1).toNatClampNeg = z := ⟨_, rfl⟩
  obtain ⟨r, S2, T2, hfx, hfm, hR2⟩ := op_pay hR u1
  refine lv_aload_n hx hb dL_law_1064 rfl (lv_at hl 2 rfl) ?_
  refine lv_aload_n hx hb dL_law_1065 rfl (lv_at hl 1 rfl) ?_
  refine lv_iload_n hx hb dL_law_1066 rfl (lv_at hl 0 rfl) ?_
  refine lv_iconst (v := 1) hx hb dL_law_1067 (by decide) ?_
  refine lv_iadd hx hb dL_law_1068 ?_
  refine l_sld hx hb hX hbl hbA hw.2.2 h1 ev1 dL_law_1069 ?_
  refine cV (As := [.int u1]) (rest := []) ⟨hx, hb, hml, hown, hts⟩ hG hA hw (c_X7_pay G l a ha _ S u1 r S2 hfx) (cwV 1 hts gL_law_X7_pay rfl rfl rfl (by decide +kernel) ⟨Nat.le_of_ble_eq_true rfl, Nat.le_of_ble_eq_true rfl⟩) (va_recv hG.1 hw.1 (ci := 7) (q0 := 0) rfl rfl) rfl hl.1 rfl (Nat.le_of_ble_eq_true rfl) dL_law_1070 ⟨by show _ ≤ 600000; omega, by show _ ≤ 7302249; omega⟩ (fun H locs hw => ?_)
  replace hw := wd_toM hw
  refine lv_aload_n hx hb dL_law_1073 rfl (lv_at hl 3 rfl) ?_
  refine lv_aload_n hx hb dL_law_1074 rfl (lv_at hl 1 rfl) ?_
  refine lv_iload_n hx hb dL_law_1075 rfl (lv_at hl 0 rfl) ?_
  refine lv_iconst (v := 1) hx hb dL_law_1076 (by decide) ?_
  refine lv_iadd hx hb dL_law_1077 ?_
  refine l_sld hx hb hX hbl hbA hw.2.2 h1 ev1 dL_law_1078 ?_
  refine cV (As := [.int u1]) (rest := [.int r]) ⟨hx, hb, hml, hown, hts⟩ hG hA hw (c_X8_pay G l b2 _ T u1 r T2 hfm) (cwV 1 hts gL_law_X8_pay rfl rfl rfl (by decide +kernel) ⟨Nat.le_of_ble_eq_true rfl, Nat.le_of_ble_eq_true rfl⟩) (va_recv hG.1 hw.1 (ci := 8) (q0 := 0) rfl rfl) rfl hl.1 rfl (Nat.le_of_ble_eq_true rfl) dL_law_1079 ⟨by show _ ≤ 600000; omega, by show _ ≤ 7302249; omega⟩ (fun H locs hw => ?_)
  replace hw := wd_toX hw
  refine lv_icmp_eq (tgt := 1133) hx hb dL_law_1082 (by decide) (fun _ => ?_) (fun c0 => absurd rfl c0)
  refine W.widen (k := 200 + (k + 1)) (n := 100000 + 15 * (k + 1)) (by omega) (by omega) ?_
  exact go _ _ _ _ _ _ _ hR2 ha hw hl
set_option maxHeartbeats 4000000 in
set_option maxRecDepth 100000 in
theorem law_paid {p : Program} {l : Launch} {e : Env} {s : State} {m : MethodId} {below : List Frame} {meth : Method} {c : Code} {G : GP} {b L : Nat} {xs : Nat → Int32} (hL : L ≤ 4096) (C0 : lw_At p s m meth c b L xs) (hG : Gb G (fun q : Nat => s.heap.size ≤ q) s s.heap) (hO : Ao s) {k : Nat} (hk : 8 * k + 8 ≤ L) {x3 : Int32} (e3 : x3 = nI (8 * k)) (go : ∀ (S T : St) (a b2 : Nat → Nat) (H : Heap) (locs : List Loc) (ls : Array Slot), Rel S T → a 45 = G.2.2.1 → Wd G (fun q : Nat => s.heap.size ≤ q) s H locs (xw G.2.1 a (mw G.2.1 b2 [] T) S) → lv_has ls 4 [(3, .int x3), (0, .ref b), (1, .ref (a 0)), (2, .ref (b2 0))] → W p l e room_1 s m #[Value.ref b] below meth c H locs (200 + (k + 1)) (100000 + 15 * (k + 1)) (lw_Z below #[Value.ref b] s) (F0 m 1133 ls [])) {S T : St} (hR : Rel S T) {a b2 : Nat → Nat} (ha : a 45 = G.2.2.1) {H : Heap} {locs : List Loc} (hw : Wd G (fun q : Nat => s.heap.size ≤ q) s H locs (xw G.2.1 a (mw G.2.1 b2 [] T) S)) {ls : Array Slot} (hl : lv_has ls 4 [(3, .int x3), (0, .ref b), (1, .ref (a 0)), (2, .ref (b2 0))]) : W p l e room_1 s m #[Value.ref b] below meth c H locs (200 + k) (100000 + 15 * k) (lw_Z below #[Value.ref b] s) (F0 m 1087 ls []) := by
  obtain ⟨hx, hb, hr, hml, hown, hts0, hX, hbl, hlocks, hgv⟩ := C0
  have hts : ∀ w ∈ wsL_law, w.before #[Value.ref b] s = true := fun w h => hts0 w (wsL_law_in w h)
  have hA : ∀ q : Nat, s.heap.size ≤ q → (fun q : Nat => s.heap.size ≤ q) q := fun _ h => h
  have hbA : ¬ (fun q : Nat => s.heap.size ≤ q) b := Nat.not_le.mpr hbl
  have h1 : vp_in (x3 + 1) L := by rw [e3, show (1 : Int32) = nI 1 from rfl, nI_add]; exact vp_in_nI (by omega) (by omega)
  obtain ⟨u1, ev1⟩ : ∃ z, xs (x3 + 1).toNatClampNeg = z := ⟨_, rfl⟩
  obtain ⟨r, S2, T2, hfx, hfm, hR2⟩ := op_paid hR u1
  obtain ⟨hfx, rfl⟩ := hfx
  obtain ⟨hfm, rfl⟩ := hfm
  refine lv_aload_n hx hb dL_law_1087 rfl (lv_at hl 2 rfl) ?_
  refine lv_aload_n hx hb dL_law_1088 rfl (lv_at hl 1 rfl) ?_
  refine lv_iload_n hx hb dL_law_1089 rfl (lv_at hl 0 rfl) ?_
  refine lv_iconst (v := 1) hx hb dL_law_1090 (by decide) ?_
  refine lv_iadd hx hb dL_law_1091 ?_
  refine l_sld hx hb hX hbl hbA hw.2.2 h1 ev1 dL_law_1092 ?_
  refine cV (As := [.int u1]) (rest := []) ⟨hx, hb, hml, hown, hts⟩ hG hA hw (c_X7_paid G l a ha _ S u1 r hfx) (cwV 1 hts gL_law_X7_paid rfl rfl rfl (by decide +kernel) ⟨Nat.le_of_ble_eq_true rfl, Nat.le_of_ble_eq_true rfl⟩) (va_recv hG.1 hw.1 (ci := 7) (q0 := 0) rfl rfl) rfl hl.1 rfl (Nat.le_of_ble_eq_true rfl) dL_law_1093 ⟨by show _ ≤ 600000; omega, by show _ ≤ 7302249; omega⟩ (fun H locs hw => ?_)
  replace hw := wd_toM hw
  refine lv_aload_n hx hb dL_law_1096 rfl (lv_at hl 3 rfl) ?_
  refine lv_aload_n hx hb dL_law_1097 rfl (lv_at hl 1 rfl) ?_
  refine lv_iload_n hx hb dL_law_1098 rfl (lv_at hl 0 rfl) ?_
  refine lv_iconst (v := 1) hx hb dL_law_1099 (by decide) ?_
  refine lv_iadd hx hb dL_law_1100 ?_
  refine l_sld hx hb hX hbl hbA hw.2.2 h1 ev1 dL_law_1101 ?_
  refine cV (As := [.int u1]) (rest := [.int r]) ⟨hx, hb, hml, hown, hts⟩ hG hA hw (c_X8_paid G l b2 _ T u1 r hfm) (cwV 1 hts gL_law_X8_paid rfl rfl rfl (by decide +kernel) ⟨Nat.le_of_ble_eq_true rfl, Nat.le_of_ble_eq_true rfl⟩) (va_recv hG.1 hw.1 (ci := 8) (q0 := 0) rfl rfl) rfl hl.1 rfl (Nat.le_of_ble_eq_true rfl) dL_law_1102 ⟨by show _ ≤ 600000; omega, by show _ ≤ 7302249; omega⟩ (fun H locs hw => ?_)
  replace hw := wd_toX hw
  refine lv_icmp_eq (tgt := 1133) hx hb dL_law_1105 (by decide) (fun _ => ?_) (fun c0 => absurd rfl c0)
  refine W.widen (k := 200 + (k + 1)) (n := 100000 + 15 * (k + 1)) (by omega) (by omega) ?_
  exact go _ _ _ _ _ _ _ hR2 ha hw hl
set_option maxHeartbeats 4000000 in
set_option maxRecDepth 100000 in
theorem law_count {p : Program} {l : Launch} {e : Env} {s : State} {m : MethodId} {below : List Frame} {meth : Method} {c : Code} {G : GP} {b L : Nat} {xs : Nat → Int32} (hL : L ≤ 4096) (C0 : lw_At p s m meth c b L xs) (hG : Gb G (fun q : Nat => s.heap.size ≤ q) s s.heap) (hO : Ao s) {k : Nat} (hk : 8 * k + 8 ≤ L) {x3 : Int32} (e3 : x3 = nI (8 * k)) (go : ∀ (S T : St) (a b2 : Nat → Nat) (H : Heap) (locs : List Loc) (ls : Array Slot), Rel S T → a 45 = G.2.2.1 → Wd G (fun q : Nat => s.heap.size ≤ q) s H locs (xw G.2.1 a (mw G.2.1 b2 [] T) S) → lv_has ls 4 [(3, .int x3), (0, .ref b), (1, .ref (a 0)), (2, .ref (b2 0))] → W p l e room_1 s m #[Value.ref b] below meth c H locs (200 + (k + 1)) (100000 + 15 * (k + 1)) (lw_Z below #[Value.ref b] s) (F0 m 1133 ls [])) {S T : St} (hR : Rel S T) {a b2 : Nat → Nat} (ha : a 45 = G.2.2.1) {H : Heap} {locs : List Loc} (hw : Wd G (fun q : Nat => s.heap.size ≤ q) s H locs (xw G.2.1 a (mw G.2.1 b2 [] T) S)) {ls : Array Slot} (hl : lv_has ls 4 [(3, .int x3), (0, .ref b), (1, .ref (a 0)), (2, .ref (b2 0))]) : W p l e room_1 s m #[Value.ref b] below meth c H locs (200 + k) (100000 + 15 * k) (lw_Z below #[Value.ref b] s) (F0 m 1110 ls []) := by
  obtain ⟨hx, hb, hr, hml, hown, hts0, hX, hbl, hlocks, hgv⟩ := C0
  have hts : ∀ w ∈ wsL_law, w.before #[Value.ref b] s = true := fun w h => hts0 w (wsL_law_in w h)
  have hA : ∀ q : Nat, s.heap.size ≤ q → (fun q : Nat => s.heap.size ≤ q) q := fun _ h => h
  have hbA : ¬ (fun q : Nat => s.heap.size ≤ q) b := Nat.not_le.mpr hbl
  have h1 : vp_in (x3 + 1) L := by rw [e3, show (1 : Int32) = nI 1 from rfl, nI_add]; exact vp_in_nI (by omega) (by omega)
  obtain ⟨u1, ev1⟩ : ∃ z, xs (x3 + 1).toNatClampNeg = z := ⟨_, rfl⟩
  obtain ⟨r, S2, T2, hfx, hfm, hR2⟩ := op_count hR u1
  obtain ⟨hfx, rfl⟩ := hfx
  obtain ⟨hfm, rfl⟩ := hfm
  refine lv_aload_n hx hb dL_law_1110 rfl (lv_at hl 2 rfl) ?_
  refine lv_aload_n hx hb dL_law_1111 rfl (lv_at hl 1 rfl) ?_
  refine lv_iload_n hx hb dL_law_1112 rfl (lv_at hl 0 rfl) ?_
  refine lv_iconst (v := 1) hx hb dL_law_1113 (by decide) ?_
  refine lv_iadd hx hb dL_law_1114 ?_
  refine l_sld hx hb hX hbl hbA hw.2.2 h1 ev1 dL_law_1115 ?_
  refine cV (As := [.int u1]) (rest := []) ⟨hx, hb, hml, hown, hts⟩ hG hA hw (c_X7_count G l a ha _ S u1 r hfx) (cwV 1 hts gL_law_X7_count rfl rfl rfl (by decide +kernel) ⟨Nat.le_of_ble_eq_true rfl, Nat.le_of_ble_eq_true rfl⟩) (va_recv hG.1 hw.1 (ci := 7) (q0 := 0) rfl rfl) rfl hl.1 rfl (Nat.le_of_ble_eq_true rfl) dL_law_1116 ⟨by show _ ≤ 600000; omega, by show _ ≤ 7302249; omega⟩ (fun H locs hw => ?_)
  replace hw := wd_toM hw
  refine lv_aload_n hx hb dL_law_1119 rfl (lv_at hl 3 rfl) ?_
  refine lv_aload_n hx hb dL_law_1120 rfl (lv_at hl 1 rfl) ?_
  refine lv_iload_n hx hb dL_law_1121 rfl (lv_at hl 0 rfl) ?_
  refine lv_iconst (v := 1) hx hb dL_law_1122 (by decide) ?_
  refine lv_iadd hx hb dL_law_1123 ?_
  refine l_sld hx hb hX hbl hbA hw.2.2 h1 ev1 dL_law_1124 ?_
  refine cV (As := [.int u1]) (rest := [.int r]) ⟨hx, hb, hml, hown, hts⟩ hG hA hw (c_X8_count G l b2 _ T u1 r hfm) (cwV 1 hts gL_law_X8_count rfl rfl rfl (by decide +kernel) ⟨Nat.le_of_ble_eq_true rfl, Nat.le_of_ble_eq_true rfl⟩) (va_recv hG.1 hw.1 (ci := 8) (q0 := 0) rfl rfl) rfl hl.1 rfl (Nat.le_of_ble_eq_true rfl) dL_law_1125 ⟨by show _ ≤ 600000; omega, by show _ ≤ 7302249; omega⟩ (fun H locs hw => ?_)
  replace hw := wd_toX hw
  refine lv_icmp_eq (tgt := 1133) hx hb dL_law_1128 (by decide) (fun _ => ?_) (fun c0 => absurd rfl c0)
  refine W.widen (k := 200 + (k + 1)) (n := 100000 + 15 * (k + 1)) (by omega) (by omega) ?_
  exact go _ _ _ _ _ _ _ hR2 ha hw hl
