/-! ===== own rows: branches, guards, refs, texts, calls ===== -/
theorem if_t {C : Prop} {hd : Decidable C} {α : Type} {x y t : α} (c : C) (h : (@ite α C hd x y) = t) : x = t := by rw [if_pos c] at h; exact h
theorem if_f {C : Prop} {hd : Decidable C} {α : Type} {x y t : α} (c : ¬ C) (h : (@ite α C hd x y) = t) : y = t := by rw [if_neg c] at h; exact h
def gn {β : Type} (i n : Nat) (f : Option β) : Option β := if i < n then f else none
theorem gn_of {β : Type} {i n : Nat} {f : Option β} {t : β} (h : gn i n f = some t) : i < n ∧ f = some t := by
  unfold gn at h
  split at h
  · rename_i q
    exact ⟨q, h⟩
  · cases h
def gk {β : Type} (k : Nat) (f : Option β) : Option β := if 25 ≤ k ∧ k ≤ 45 then f else none
theorem gk_of {β : Type} {k : Nat} {f : Option β} {t : β} (h : gk k f = some t) : (25 ≤ k ∧ k ≤ 45) ∧ f = some t := by
  unfold gk at h
  split at h
  · rename_i q
    exact ⟨q, h⟩
  · cases h
def ga {β : Type} (k : Nat) (f : Option β) : Option β := if k = 14 ∨ k = 20 then f else none
theorem ga_of {β : Type} {k : Nat} {f : Option β} {t : β} (h : ga k f = some t) : (k = 14 ∨ k = 20) ∧ f = some t := by
  unfold ga at h
  split at h
  · rename_i q
    exact ⟨q, h⟩
  · cases h
theorem xw_at24 {cs : Nat → ClassId} {a : Nat → Nat} {R : va_W} {S : St} {k : Nat} (h : k = 14 ∨ k = 20) : (xw cs a R S)[k]? = some (a k, .inl (cs 1, 24, .inl (gM S k))) := by
  rcases h with rfl | rfl <;> rfl
theorem and1 (v : Int32) (h : v &&& 1 = v) : v = 0 ∨ v = 1 := by
  obtain ⟨j, hj, e⟩ := pk_andE v (m := 1) 1 (by decide)
  rw [h] at e
  rcases (show j = 0 ∨ j = 1 by omega) with rfl | rfl
  · exact Or.inl e
  · exact Or.inr e
theorem fits_z {v : Int32} (h : narrow .boolean (.int v) = .int v) : fits .boolean (.int v) = true := by
  have h2 : v &&& 1 = v := Value.int.inj h
  rcases and1 v h2 with rfl | rfl <;> rfl
theorem x_lt {i : Int32} {n : Nat} (h : vp_in i n) : i.toNatClampNeg < n := Nat.not_le.mp fun q => h (Or.inr q)
theorem x_in9 {i : Int32} (h : vp_in i 20) : 25 ≤ 25 + i.toNatClampNeg ∧ 25 + i.toNatClampNeg ≤ 45 := by
  have := x_lt h
  omega
/-- a row filled with a value, as far as it goes -/
def fill0 {α : Type} (f : Nat → α) (n : Nat) (v : α) : Nat → α := fun j => if j < n then v else f j
def sJf (S : St) (f : Nat → Int64) : St := (S.1, S.2.1, f, S.2.2.2)
section XROWS
variable {p : Program} {l : Launch} {e : Env} {Rm : Room} {s : State} {m : MethodId} {args : Array Value} {below : List Frame} {meth : Method} {c : Code} {H : Heap} {locs : List Loc} {cells slots : Nat} {Q : State → Prop} {cc : ByteArray} {pc : Nat} {ls : Array Slot} {rest : List Value} {G : GP} {A : Nat → Prop} {a : Nat → Nat} {R : va_W} {S : St}
theorem xw_upJf (f : Nat → Int64) : xw G.2.1 a R (sJf S f) = (xw G.2.1 a R S).set 21 (a 21, .inl (G.2.1 2, 16, .inr (.inl f))) := rfl
/-- an int of a text -/
theorem x_tald (hx : p.tables.exec = Jvm.exec) (hb : c.code = cc) (ha : a 45 = G.2.2.1) (hG : Gb G A s s.heap) (hw : Wd G A s H locs (xw G.2.1 a R S)) {k : Nat} (hk : 25 ≤ k ∧ k ≤ 45) {i : Int32} (hin : vp_in i 12) (hdg : decode cc pc = .ok (.iaload, 1))
    (kk : W p l e Rm s m args below meth c H locs cells slots Q (F0 m (pc + 1) ls (.int (gT S k i.toNatClampNeg) :: rest))) : W p l e Rm s m args below meth c H locs cells slots Q (F0 m pc ls (.int i :: .ref (a k) :: rest)) := by
  by_cases h : k = 45
  · subst h
    rw [ha]
    refine va_ti hx hb hG.2.2.2.1 hw.2.2 hin rfl hdg ?_
    exact kk
  · obtain ⟨e, rfl⟩ := Nat.exists_eq_add_of_le hk.1
    have hgT : gT S (25 + e) = gM S (25 + e) := if_neg h
    rw [hgT] at kk
    exact va_iald hx hb hG.1 hw.1 (25 + e) 1 (xw_atT (by omega)) rfl hin hdg kk
/-- a row out of an array of rows -/
theorem x_aldA {D : va_G} {cl : List vw_C} {tys : List (ClassId × FieldType)} {ws : va_W} {b : Nat} (hexec : p.tables.exec = Jvm.exec) (hb : c.code = cc) (hK : va_K D cl tys s) (hP : va_P D cl ws H) (q0 t0 : Nat) {cA : ClassId} {ty : FieldType} {n : Nat} {f : Nat → Option Nat} (ha : ws[q0]? = some (b, .inl (cA, n, .inr (.inr (.inr (.inr f)))))) (ht : tys[t0]? = some (cA, .array ty)) {i : Int32} (hin : vp_in i n) (hdg : decode cc pc = .ok (.aaload, 1))
    (kk : W p l e Rm s m args below meth c H locs cells slots Q (F0 m (pc + 1) ls (va_rf (f i.toNatClampNeg) :: rest))) : W p l e Rm s m args below meth c H locs cells slots Q (F0 m pc ls (.int i :: .ref b :: rest)) := by
  have hlt : i.toNatClampNeg < n := Nat.not_le.mp fun q => hin (Or.inr q)
  exact W.aald (v := va_rf (f i.toNatClampNeg)) (ty := .array ty) hexec hb (hP q0 _ ha) ((hK.2 t0 _ ht).1 n (fun j => va_rf (f j))) rfl (fun q => by cases q) (by show ¬ (i < 0 ∨ (arrV _ _ _).slots.size ≤ _); rw [arrV_size]; exact hin) (by show (arrV _ _ _).slots[_]? = _; rw [arrV_read _ _ hlt]) rfl rfl hdg kk
/-- a row of the texts -/
theorem x_ald9 (hx : p.tables.exec = Jvm.exec) (hb : c.code = cc) (hG : Gb G A s s.heap) (hw : Wd G A s H locs (xw G.2.1 a R S)) {i : Int32} (hin : vp_in i 20) (hdg : decode cc pc = .ok (.aaload, 1))
    (kk : W p l e Rm s m args below meth c H locs cells slots Q (F0 m (pc + 1) ls (.ref (a (25 + i.toNatClampNeg)) :: rest))) : W p l e Rm s m args below meth c H locs cells slots Q (F0 m pc ls (.int i :: .ref (a 9) :: rest)) := by
  refine x_aldA (ty := .int) hx hb hG.1 hw.1 9 5 rfl rfl hin hdg ?_
  rw [if_pos (x_lt hin)]
  exact kk
theorem isIA_t {k : Nat} (h : 25 ≤ k) (h2 : k < 45) : isIA k = true := by
  simp only [isIA, Bool.or_eq_true, Bool.and_eq_true, decide_eq_true_eq]
  omega
theorem lenX_tt {k : Nat} (h : 25 ≤ k) : lenX k = 12 := by
  obtain ⟨e, rfl⟩ := Nat.exists_eq_add_of_le h
  exact lenX_t e
theorem xw_atT2 {k : Nat} (h : 25 ≤ k) (h2 : k < 45) : (xw G.2.1 a R S)[k]? = some (a k, .inl (G.2.1 1, 12, .inl (gM S k))) := by
  rw [xw_atM (isIA_t h h2), lenX_tt h]
theorem xw_upT2 {k : Nat} (h : 25 ≤ k) (h2 : k < 45) (f : Nat → Int32) : xw G.2.1 a R (sF S k f) = (xw G.2.1 a R S).set k (a k, .inl (G.2.1 1, 12, .inl f)) := by
  rw [xw_upM (isIA_t h h2), lenX_tt h]
/-- a call of the list -/
theorem x_ald22 (hx : p.tables.exec = Jvm.exec) (hb : c.code = cc) (hG : Gb G A s s.heap) (hw : Wd G A s H locs (xw G.2.1 a R S)) {i : Int32} (hin : vp_in i 150) (hin2 : vp_in i (nC S)) (hdg : decode cc pc = .ok (.aaload, 1))
    (kk : W p l e Rm s m args below meth c H locs cells slots Q (F0 m (pc + 1) ls (.ref (a (50 + i.toNatClampNeg)) :: rest))) : W p l e Rm s m args below meth c H locs cells slots Q (F0 m pc ls (.int i :: .ref (a 22) :: rest)) := by
  refine va_aldq (C := "DutyDesk$Call") hx hb hG.1 hw.1 22 4 rfl rfl hin hdg ?_
  rw [if_pos (x_lt hin2)]
  exact kk
end XROWS
section XCOPY
variable {p : Program} {l : Launch} {e : Env} {Rm : Room} {s : State} {m : MethodId} {args : Array Value} {below : List Frame} {meth : Method} {c : Code} {H : Heap} {locs : List Loc} {cells slots : Nat} {Q : State → Prop} {cc : ByteArray} {pc : Nat} {ls : Array Slot} {rest : List Value} {G : GP} {A : Nat → Prop} {a : Nat → Nat} {R : va_W} {S : St}
/-- twelve ints of the text without lines into the row k -/
theorem x_copyP (hx : p.tables.exec = Jvm.exec) (hb : c.code = cc) (hml : c.maxLocals = ls.size) {own : String} {index : Nat} (hown : s.vm.findClass own = some m.cls) (hlink : (Cond.methodLink own index arraycopyName).before args s = true) (hnat : (Cond.native arraycopyName).before args s = true) (hstat : (Cond.static arraycopyName).before args s = true) (hini : (Cond.initialized "java/lang/System").before args s = true)
    (ha : a 45 = G.2.2.1) (hG : Gb G A s s.heap) (hw : Wd G A s H locs (xw G.2.1 a R S)) (k : Nat) (hk : isIA k = true) (hkl : 12 ≤ lenX k)
    (hframes : 1 ≤ Rm.frames) (hlocals : (rest.map fun v => v.category).sum + (nativeFrameWords "java/lang/System" "arraycopy" 5 + 11) ≤ Rm.locals) (hdg : decode cc pc = .ok (.invokestatic index, 3))
    (kk : ∀ (H1 : Heap) (locs1 : List Loc), Wd G A s H1 locs1 (xw G.2.1 a R (sF S k (fun j => if j < 12 then plF j else gM S k j))) → W p l e Rm s m args below meth c H1 locs1 cells slots Q (F0 m (pc + 3) ls rest)) : W p l e Rm s m args below meth c H locs cells slots Q (F0 m pc ls (.int 12 :: .int 0 :: .ref (a k) :: .int 0 :: .ref (a 45) :: rest)) := by
  rw [ha]
  obtain ⟨hP, hD, hS⟩ := hw
  have ha1 := xw_atM (cs := G.2.1) (a := a) (R := R) (S := S) hk
  generalize hws : xw G.2.1 a R S = ws at hP hD ha1
  intro T hT X
  obtain ⟨scr, hs1, hs2, hs3, hs4, -, hs5, hs7⟩ := hG.2.2.2.1
  have hc0 : H[G.2.2.1]? = some scr := by rw [hS.2.1 _ (Array.getElem?_eq_some_iff.mp hs1).1 hs7]; exact hs1
  have hc1 : H[a k]? = some (vp_cell (G.2.1 1) (lenX k, .inl (gM S k))) := hP k _ ha1
  obtain ⟨hs6, k0, hk0, cm0, hkk0⟩ := hs2
  obtain ⟨-, k1, hk1, cm1, hkk1⟩ := (hG.1.2 1 _ rfl).1 (lenX k) (fun j => .int (gM S k j))
  obtain ⟨vm', X', step⟩ := X.arraycopy hx hown hlink hnat hstat hini (src := G.2.2.1) (dst := a k) (cs := scr) (cd := vp_cell (G.2.1 1) (lenX k, .inl (gM S k))) (srcPos := 0) (destPos := 0) (n := 12) (by rw [hT]; exact hc0) (by rw [hT]; exact hc1)
    hs6 (fun _ h => by cases h) hs3 (fun h => by cases h) hk0 hk1 hkk0 hkk1 (by simp [refKind]) (by decide) (by decide) (by decide)
    (by show ¬ ((0 : Int32).toInt + (12 : Int32).toInt > (scr.slots.size : Int)); have h1 : (0 : Int32).toInt = 0 := rfl; have h2 : (12 : Int32).toInt = 12 := rfl; rw [h1, h2]; omega)
    (by show ¬ ((0 : Int32).toInt + (12 : Int32).toInt > ((arrV (G.2.1 1) (lenX k) (fun j => .int (gM S k j))).slots.size : Int)); rw [arrV_size]; have h1 : (0 : Int32).toInt = 0 := rfl; have h2 : (12 : Int32).toInt = 12 := rfl; rw [h1, h2]; omega)
    (fun vm₁ _ i hi => by
      have hi : i < 12 := hi
      have e : scr.slots.getD ((0 : Int32).toNatClampNeg + i) .null = .int (plF ((0 : Int32).toNatClampNeg + i)) := by
        rw [Array.getD_eq_getD_getElem?, hs5 _ (show (0 : Int32).toNatClampNeg + i < 12 by show 0 + i < 12; omega)]
        rfl
      refine ⟨?_, ?_⟩
      · rw [e]; rfl
      · rw [e]; exact trivial)
    (g := F0 m pc ls (.int 12 :: .int 0 :: .ref (a k) :: .int 0 :: .ref G.2.2.1 :: rest)) rfl (by rw [hml]) (rest := rest) rfl (by rw [hb]; exact hdg) hframes (by show 2 * 0 + _ + _ ≤ _; omega)
  have e1 : copied scr (vp_cell (G.2.1 1) (lenX k, .inl (gM S k))) 0 0 12 = vp_cell (G.2.1 1) (lenX k, .inl (va_cpy plF (gM S k) (0 : Int32).toNatClampNeg (0 : Int32).toNatClampNeg (12 : Int32).toNatClampNeg)) := va_copiedX (fun z => .int z) scr (G.2.1 1) plF (gM S k) hs5 (by decide)
  have e2 : va_cpy plF (gM S k) (0 : Int32).toNatClampNeg (0 : Int32).toNatClampNeg (12 : Int32).toNatClampNeg = (fun j => if j < 12 then plF j else gM S k j) := by
    funext j
    show (if 0 ≤ j ∧ j < 0 + 12 then plF (0 + (j - 0)) else gM S k j) = _
    by_cases hj : j < 12
    · rw [if_pos ⟨Nat.zero_le _, by omega⟩, if_pos hj, Nat.zero_add, Nat.sub_zero]
    · rw [if_neg (by omega), if_neg hj]
  rw [e1, e2] at X' step
  generalize (fun j => if j < 12 then plF j else gM S k j) = fn at X' step kk
  have hl : a k < H.size := (Array.getElem?_eq_some_iff.mp hc1).1
  have hheap : ((T.setVm vm').setCell (a k) (vp_cell (G.2.1 1) (lenX k, .inl fn))).heap = H.setIfInBounds (a k) (vp_cell (G.2.1 1) (lenX k, .inl fn)) := by rw [← hT]; rfl
  have oq : ∀ q : Nat, q ≠ a k → (H.setIfInBounds (a k) (vp_cell (G.2.1 1) (lenX k, .inl fn)))[q]? = H[q]? := fun q hq => by simp [Array.getElem?_setIfInBounds, Ne.symm hq]
  have hcell : va_at G.1 vwCl (a k, .inl (G.2.1 1, lenX k, .inl fn)) (H.setIfInBounds (a k) (vp_cell (G.2.1 1) (lenX k, .inl fn))) := by
    show (H.setIfInBounds (a k) (vp_cell (G.2.1 1) (lenX k, .inl fn)))[a k]? = some _
    simp [Array.getElem?_setIfInBounds, hl]
  have hP1 := hP.set hD ha1 hcell oq
  have hD1 : va_D A (ws.set k (a k, .inl (G.2.1 1, lenX k, .inl fn))) := hD.set ha1
  obtain ⟨t, a1, b1⟩ := kk _ _ (wd_eq (by rw [xw_upM hk, hws]) hP1 hD1 ⟨by simp; exact hS.1, fun q g1 g2 => by
      rw [oq q (fun e => g2 (by rw [e]; exact hD.2 k _ ha1))]
      exact hS.2.1 q g1 g2, fun q hq => by
      rcases List.mem_append.mp hq with h | h
      · exact hS.2.2 q h
      · obtain ⟨z, -, hz⟩ := List.mem_map.mp h
        rw [← hz]
        exact hD.2 k _ ha1⟩) _ hheap X'
  exact ⟨t, step t a1, b1⟩
/-- twelve ints of the row k0 into the text k -/
theorem x_copyT (hx : p.tables.exec = Jvm.exec) (hb : c.code = cc) (hml : c.maxLocals = ls.size) {own : String} {index : Nat} (hown : s.vm.findClass own = some m.cls) (hlink : (Cond.methodLink own index arraycopyName).before args s = true) (hnat : (Cond.native arraycopyName).before args s = true) (hstat : (Cond.static arraycopyName).before args s = true) (hini : (Cond.initialized "java/lang/System").before args s = true)
    (hG : Gb G A s s.heap) (hw : Wd G A s H locs (xw G.2.1 a R S)) (k0 : Nat) (hk0 : isIA k0 = true) {k : Nat} (hk : 25 ≤ k ∧ k ≤ 45) (hk2 : k < 45) (hkl : 12 ≤ lenX k0)
    (hframes : 1 ≤ Rm.frames) (hlocals : (rest.map fun v => v.category).sum + (nativeFrameWords "java/lang/System" "arraycopy" 5 + 11) ≤ Rm.locals) (hdg : decode cc pc = .ok (.invokestatic index, 3))
    (kk : ∀ (H1 : Heap) (locs1 : List Loc), Wd G A s H1 locs1 (xw G.2.1 a R (sF S k (fun j => if j < 12 then gM S k0 j else gM S k j))) → W p l e Rm s m args below meth c H1 locs1 cells slots Q (F0 m (pc + 3) ls rest)) : W p l e Rm s m args below meth c H locs cells slots Q (F0 m pc ls (.int 12 :: .int 0 :: .ref (a k) :: .int 0 :: .ref (a k0) :: rest)) := by
  refine va_copyi hx hb hml hown hlink hnat hstat hini hG.1 hw.1 hw.2.1 hw.2.2 k0 k 1 1 (xw_atM hk0) (xw_atT2 hk.1 hk2) rfl rfl rfl (by decide) (by decide) (by decide) (by show 0 + 12 ≤ _; omega) (by show 0 + 12 ≤ 12; omega) (fun i _ => rfl) hframes hlocals hdg (fun H locs hP hD hS => ?_)
  have e2 : va_cpy (gM S k0) (gM S k) (0 : Int32).toNatClampNeg (0 : Int32).toNatClampNeg (12 : Int32).toNatClampNeg = (fun j => if j < 12 then gM S k0 j else gM S k j) := by
    funext j
    show (if 0 ≤ j ∧ j < 0 + 12 then gM S k0 (0 + (j - 0)) else gM S k j) = _
    by_cases hj : j < 12
    · rw [if_pos ⟨Nat.zero_le _, by omega⟩, if_pos hj, Nat.zero_add, Nat.sub_zero]
    · rw [if_neg (by omega), if_neg hj]
  rw [e2] at hP hD
  exact kk H locs (wd_eq (xw_upT2 hk.1 hk2 _) hP hD hS)
end XCOPY
