/-! ===== own rows: branches, guards, refs, texts, calls ===== -/
theorem if_t {C : Prop} {hd : Decidable C} {α : Type} {x y t : α} (c : C) (h : (@ite α C hd x y) = t) : x = t := by rw [if_pos c] at h; exact h
theorem if_f {C : Prop} {hd : Decidable C} {α : Type} {x y t : α} (c : ¬ C) (h : (@ite α C hd x y) = t) : y = t := by rw [if_neg c] at h; exact h
def gn {β : Type} (i n : Nat) (f : Option β) : Option β := if i < n then f else none
theorem gn_of {β : Type} {i n : Nat} {f : Option β} {t : β} (h : gn i n f = some t) : i < n ∧ f = some t := by
  unfold gn at h
  split at h
  · rename_i q
    exact ⟨q, h⟩
  · cases h
def gk {β : Type} (k : Nat) (f : Option β) : Option β := if 25 ≤ k ∧ k ≤ 45 then f else none
theorem gk_of {β : Type} {k : Nat} {f : Option β} {t : β} (h : gk k f = some t) : (25 ≤ k ∧ k ≤ 45) ∧ f = some t := by
  unfold gk at h
  split at h
  · rename_i q
    exact ⟨q, h⟩
  · cases h
theorem x_lt {i : Int32} {n : Nat} (h : vp_in i n) : i.toNatClampNeg < n := Nat.not_le.mp fun q => h (Or.inr q)
theorem x_in9 {i : Int32} (h : vp_in i 20) : 25 ≤ 25 + i.toNatClampNeg ∧ 25 + i.toNatClampNeg ≤ 45 := by
  have := x_lt h
  omega
/-- a row filled with a value, as far as it goes -/
def fill0 {α : Type} (f : Nat → α) (n : Nat) (v : α) : Nat → α := fun j => if j < n then v else f j
def sJf (S : St) (f : Nat → Int64) : St := (S.1, S.2.1, f, S.2.2.2)
section XROWS
variable {p : Program} {l : Launch} {e : Env} {Rm : Room} {s : State} {m : MethodId} {args : Array Value} {below : List Frame} {meth : Method} {c : Code} {H : Heap} {locs : List Loc} {cells slots : Nat} {Q : State → Prop} {cc : ByteArray} {pc : Nat} {ls : Array Slot} {rest : List Value} {G : GP} {A : Nat → Prop} {a : Nat → Nat} {R : va_W} {S : St}
theorem xw_upJf (f : Nat → Int64) : xw G.2.1 a R (sJf S f) = (xw G.2.1 a R S).set 21 (a 21, .inl (G.2.1 2, 16, .inr (.inl f))) := rfl
/-- an int of a text -/
theorem x_tald (hx : p.tables.exec = Jvm.exec) (hb : c.code = cc) (ha : a 45 = G.2.2.1) (hG : Gb G A s s.heap) (hw : Wd G A s H locs (xw G.2.1 a R S)) {k : Nat} (hk : 25 ≤ k ∧ k ≤ 45) {i : Int32} (hin : vp_in i 12) (hdg : decode cc pc = .ok (.iaload, 1))
    (kk : W p l e Rm s m args below meth c H locs cells slots Q (F0 m (pc + 1) ls (.int (gT S k i.toNatClampNeg) :: rest))) : W p l e Rm s m args below meth c H locs cells slots Q (F0 m pc ls (.int i :: .ref (a k) :: rest)) := by
  by_cases h : k = 45
  · subst h
    rw [ha]
    refine va_ti hx hb hG.2.2.2.1 hw.2.2 hin rfl hdg ?_
    exact kk
  · obtain ⟨e, rfl⟩ := Nat.exists_eq_add_of_le hk.1
    have hgT : gT S (25 + e) = gM S (25 + e) := if_neg h
    rw [hgT] at kk
    exact va_iald hx hb hG.1 hw.1 (25 + e) 1 (xw_atT (by omega)) rfl hin hdg kk
/-- a row out of an array of rows -/
theorem x_aldA {D : va_G} {cl : List vw_C} {tys : List (ClassId × FieldType)} {ws : va_W} {b : Nat} (hexec : p.tables.exec = Jvm.exec) (hb : c.code = cc) (hK : va_K D cl tys s) (hP : va_P D cl ws H) (q0 t0 : Nat) {cA : ClassId} {ty : FieldType} {n : Nat} {f : Nat → Option Nat} (ha : ws[q0]? = some (b, .inl (cA, n, .inr (.inr (.inr (.inr f)))))) (ht : tys[t0]? = some (cA, .array ty)) {i : Int32} (hin : vp_in i n) (hdg : decode cc pc = .ok (.aaload, 1))
    (kk : W p l e Rm s m args below meth c H locs cells slots Q (F0 m (pc + 1) ls (va_rf (f i.toNatClampNeg) :: rest))) : W p l e Rm s m args below meth c H locs cells slots Q (F0 m pc ls (.int i :: .ref b :: rest)) := by
  have hlt : i.toNatClampNeg < n := Nat.not_le.mp fun q => hin (Or.inr q)
  exact W.aald (v := va_rf (f i.toNatClampNeg)) (ty := .array ty) hexec hb (hP q0 _ ha) ((hK.2 t0 _ ht).1 n (fun j => va_rf (f j))) rfl (fun q => by cases q) (by show ¬ (i < 0 ∨ (arrV _ _ _).slots.size ≤ _); rw [arrV_size]; exact hin) (by show (arrV _ _ _).slots[_]? = _; rw [arrV_read _ _ hlt]) rfl rfl hdg kk
/-- a row of the texts -/
theorem x_ald9 (hx : p.tables.exec = Jvm.exec) (hb : c.code = cc) (hG : Gb G A s s.heap) (hw : Wd G A s H locs (xw G.2.1 a R S)) {i : Int32} (hin : vp_in i 20) (hdg : decode cc pc = .ok (.aaload, 1))
    (kk : W p l e Rm s m args below meth c H locs cells slots Q (F0 m (pc + 1) ls (.ref (a (25 + i.toNatClampNeg)) :: rest))) : W p l e Rm s m args below meth c H locs cells slots Q (F0 m pc ls (.int i :: .ref (a 9) :: rest)) := by
  refine x_aldA (ty := .int) hx hb hG.1 hw.1 9 5 rfl rfl hin hdg ?_
  rw [if_pos (x_lt hin)]
  exact kk
theorem isIA_t {k : Nat} (h : 25 ≤ k) (h2 : k < 45) : isIA k = true := by
  simp only [isIA, Bool.or_eq_true, Bool.and_eq_true, decide_eq_true_eq]
  omega
theorem lenX_tt {k : Nat} (h : 25 ≤ k) : lenX k = 12 := by
  obtain ⟨e, rfl⟩ := Nat.exists_eq_add_of_le h
  exact lenX_t e
theorem xw_atT2 {k : Nat} (h : 25 ≤ k) (h2 : k < 45) : (xw G.2.1 a R S)[k]? = some (a k, .inl (G.2.1 1, 12, .inl (gM S k))) := by
  rw [xw_atM (isIA_t h h2), lenX_tt h]
theorem xw_upT2 {k : Nat} (h : 25 ≤ k) (h2 : k < 45) (f : Nat → Int32) : xw G.2.1 a R (sF S k f) = (xw G.2.1 a R S).set k (a k, .inl (G.2.1 1, 12, .inl f)) := by
  rw [xw_upM (isIA_t h h2), lenX_tt h]
/-- a call of the list -/
theorem x_ald22 (hx : p.tables.exec = Jvm.exec) (hb : c.code = cc) (hG : Gb G A s s.heap) (hw : Wd G A s H locs (xw G.2.1 a R S)) {i : Int32} (hin : vp_in i 150) (hin2 : vp_in i (nC S)) (hdg : decode cc pc = .ok (.aaload, 1))
    (kk : W p l e Rm s m args below meth c H locs cells slots Q (F0 m (pc + 1) ls (.ref (a (50 + i.toNatClampNeg)) :: rest))) : W p l e Rm s m args below meth c H locs cells slots Q (F0 m pc ls (.int i :: .ref (a 22) :: rest)) := by
  refine va_aldq (C := "DutyDesk$Call") hx hb hG.1 hw.1 22 4 rfl rfl hin hdg ?_
  rw [if_pos (x_lt hin2)]
  exact kk
end XROWS
