def R_law : String := "DutyDeskLaw"
def lw_Q (_ : Array Value) (s : State) (o : Outcome) (t : State) : Prop := o = .returned (some (.int 1)) ∧ Framed s o t [] 600000 7302249
def lw_Z (below : List Frame) (a : Array Value) (s : State) : State → Prop := fun t => ∃ o, t.status = .running ∧ Ended t below o ∧ lw_Q a s o t
/-- the law's own end, with 1 on the stack, nothing written that was there before, its room as the claim has it -/
theorem lw_ret {p : Program} {l : Launch} {e : Env} {s : State} {m : MethodId} {below : List Frame} {meth : Method} {c : Code} {b : Nat} (hx : p.tables.exec = Jvm.exec) (hb : c.code = code) (hr : meth.sig.returnType = ret) (hlocks : meth.locks = false) {pc : Nat} {H : Heap} {ls : Array Slot} (hdg : decode code pc = .ok (.ireturn, 1)) : W p l e room_1 s m #[Value.ref b] below meth c H [] 600000 7302249 (lw_Z below #[Value.ref b] s) (F0 m pc ls [.int 1]) := by
  intro T hT X
  obtain ⟨fs, hret, hrun, hended, hW, hframe⟩ := X.leave (v := some (.int 1)) (hlocks := hlocks) (fun h => by rw [hr] at h; cases h)
  have hmeth' : T.vm.method? m = some meth := X.method'
  refine ⟨T.setFrames fs, ?_, .returned (some (.int 1)), hrun, hended, rfl, ⟨_, rfl⟩, hW, hframe⟩
  jvm_step X.here [X.here.top, hx, hb, hdg, hmeth', hr, ret, narrow_b1]
  (try refine ⟨rfl, ?_⟩); (try refine ⟨rfl, ?_⟩)
  first | (intro acts; rw [hret _ acts rfl rfl rfl]) | rw [hret _ _ rfl rfl rfl]
  exact Steps.refl _
/-- what holds at the law's entry: the machine, the code, the tables' words (any of lw_tbl by 'hts w (by decide +kernel)'), the script of L ints xs at the cell b, what the Statement gives of the start (any of its parts by flat_of_before) -/
def lw_At (p : Program) (s : State) (m : MethodId) (meth : Method) (c : Code) (b L : Nat) (xs : Nat → Int32) : Prop :=
  p.tables.exec = Jvm.exec ∧ c.code = code ∧ meth.sig.returnType = ret ∧ c.maxLocals = 4 ∧ s.vm.findClass R_law = some m.cls ∧ (∀ w ∈ lw_tbl, w.before #[Value.ref b] s = true) ∧ va_X b L xs s s.heap ∧ b < s.heap.size ∧ meth.locks = false ∧ (Jvm.Cond.and given_1 narrow_1).before #[Value.ref b] s = true
section LROWS
variable {p : Program} {l : Launch} {e : Env} {R : Room} {s : State} {m : MethodId} {args : Array Value} {below : List Frame} {meth : Method} {c : Code} {H : Heap} {locs : List Loc} {cells slots : Nat} {Q : State → Prop} {cc : ByteArray} {pc : Nat} {ls : Array Slot} {rest st0 : List Value} {G : GP} {A : Nat → Prop} {W0 : va_W} {Po : va_W → Prop} {rv : Option Value} {mc ms : Nat}
theorem l_sld (hx : p.tables.exec = Jvm.exec) (hb : c.code = cc) {b L : Nat} {xs : Nat → Int32} (hX : va_X b L xs s s.heap) (hbl : b < s.heap.size) (hbA : ¬ A b) (hS : va_S A s.heap H locs) {i v : Int32} (hin : vp_in i L) (ev : xs i.toNatClampNeg = v) (hdg : decode cc pc = .ok (.iaload, 1))
    (kk : W p l e R s m args below meth c H locs cells slots Q (F0 m (pc + 1) ls (.int v :: rest))) : W p l e R s m args below meth c H locs cells slots Q (F0 m pc ls (.int i :: .ref b :: rest)) := by
  refine va_sld hx hb hX hbl hbA hS hin hdg ?_
  rw [ev]
  exact kk
variable {y : MethodName} {bytes : ByteArray} {maxL nL n index : Nat} {ret : Option FieldType} {ws : List Cond} {rm : Room} {Ts : List Cond} {own C : String} {b : Addr} {As : List Value}
theorem cVE (F : CallFix p m c cc nL s args Ts own) (hG : Gb G A s s.heap) (hO : Ao s) (hA : ∀ q : Nat, s.heap.size ≤ q → A q) (hw : Wd G A s H locs W0) (ct : ME G l y ws rm (.ref b :: As) W0 Po rv mc ms) (cw : CallW R s args own C index y bytes maxL ret ws rm mc ms n)
    (hrecv : ∃ cell : Cell, H[b]? = some cell ∧ cell.vm.isStatics = false ∧ s.vm.findClass C = some cell.cls) (hn : As.length = n) (hsize : ls.size = nL) (hst : st0 = As.reverse ++ .ref b :: rest) (hW : (rest.map fun v => v.category).sum ≤ 8) (hdg : decode cc pc = .ok (.invokevirtual index, 3)) (hf : cells + mc ≤ R.cells ∧ slots + ms ≤ R.slots)
    (kk : ∀ (W1 : va_W) (H1 : Heap) (locs1 : List Loc), Po W1 → Wd G A s H1 locs1 W1 → W p l e R s m args below meth c H1 locs1 (cells + mc) (slots + ms) Q (F0 m (pc + 3) ls (rv.toList ++ rest))) : W p l e R s m args below meth c H locs cells slots Q (F0 m pc ls st0) :=
  wd_callE hA hw (va_runV F (ct H.size) cw ⟨pe_blind, hrecv, fun U hU hW => ⟨rfl, (pw_at (av := []) hA hw hG U hU hW).2, hO.moved hW.alike⟩⟩ rfl hn hsize hst (lv_room hW) hdg hf) kk
theorem wd_toM {a b2 : Nat → Nat} {S T : St} (hw : Wd G A s H locs (xw G.2.1 a (mw G.2.1 b2 [] T) S)) : Wd G A s H locs (mw G.2.1 b2 (xw G.2.1 a [] S) T) := by
  obtain ⟨hP, hD, hS⟩ := hw
  have e1 : xw G.2.1 a (mw G.2.1 b2 [] T) S = (([] : va_W) ++ xw G.2.1 a [] S) ++ mf G.2.1 b2 T := by simp [xw, mw]
  rw [e1] at hP hD
  exact wd_eq (by simp [mw]) (va_P.swap hP) (va_D.swap hD) hS
theorem wd_toX {a b2 : Nat → Nat} {S T : St} (hw : Wd G A s H locs (mw G.2.1 b2 (xw G.2.1 a [] S) T)) : Wd G A s H locs (xw G.2.1 a (mw G.2.1 b2 [] T) S) := by
  obtain ⟨hP, hD, hS⟩ := hw
  have e1 : mw G.2.1 b2 (xw G.2.1 a [] S) T = (([] : va_W) ++ mf G.2.1 b2 T) ++ xw G.2.1 a [] S := by simp [mw]
  rw [e1] at hP hD
  exact wd_eq (by simp [xw, mw]) (va_P.swap hP) (va_D.swap hD) hS
end LROWS
