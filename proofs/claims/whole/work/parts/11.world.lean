/-! ===== the world of the class: 7 objects, 18 arrays, 20 texts, the calls; R: what lies beside ===== -/
def cf (S : St) (i : Nat) : List Value := [.int (gC S i 0), .int (gC S i 1), .int (gC S i 2), .int (gC S i 3), .int (gC S i 4), .int (gC S i 5), .int (gC S i 6), .int (gC S i 7), .int (gC S i 8), .int (gC S i 9), .int (gC S i 10), .int (gC S i 11), .int (gC S i 12), .int (gC S i 13), .int (gC S i 14)]
def xf (cs : Nat → ClassId) (a : Nat → Nat) (S : St) : va_W := [
  (a 0, .inr (7, [.ref (a 1), .ref (a 2), .ref (a 3), .ref (a 4), .ref (a 5), .ref (a 6)])),
  (a 1, .inr (5, [.ref (a 7), .int (gI S 0), .ref (a 8), .int (gI S 1), .int (gI S 2), .int (gI S 3), .int (gI S 4), .int (gI S 5), .int (gI S 6), .int (gI S 7), .int (gI S 8), .int (gI S 9)])),
  (a 2, .inr (6, [.ref (a 9), .int (gI S 10)])),
  (a 3, .inr (3, [.ref (a 10), .ref (a 11), .ref (a 12), .ref (a 13), .ref (a 14), .ref (a 15), .ref (a 16), .int (gI S 11)])),
  (a 4, .inr (2, [.ref (a 3), .ref (a 2), .ref (a 17), .ref (a 18), .ref (a 19), .ref (a 20)])),
  (a 5, .inr (4, [.ref (a 3), .ref (a 4), .ref (a 21)])),
  (a 6, .inr (1, [.ref (a 3), .ref (a 2), .ref (a 4), .ref (a 22), .int (gI S 12), .ref (a 23), .ref (a 24)])),
  (a 7, .inl (cs 0, 1000, .inl (gM S 7))),
  (a 8, .inl (cs 1, 12, .inl (gM S 8))),
  (a 9, .inl (cs 5, 20, .inr (.inr (.inr (.inr (fun e => if e < 20 then some (a (25 + e)) else none)))))),
  (a 10, .inl (cs 1, 24, .inl (gM S 10))),
  (a 11, .inl (cs 1, 24, .inl (gM S 11))),
  (a 12, .inl (cs 1, 24, .inl (gM S 12))),
  (a 13, .inl (cs 1, 24, .inl (gM S 13))),
  (a 14, .inl (cs 1, 24, .inl (gM S 14))),
  (a 15, .inl (cs 1, 1000, .inl (gM S 15))),
  (a 16, .inl (cs 1, 100, .inl (gM S 16))),
  (a 17, .inl (cs 1, 1000, .inl (gM S 17))),
  (a 18, .inl (cs 1, 1000, .inl (gM S 18))),
  (a 19, .inl (cs 1, 24, .inl (gM S 19))),
  (a 20, .inl (cs 1, 24, .inl (gM S 20))),
  (a 21, .inl (cs 2, 16, .inr (.inl (gJ S)))),
  (a 22, .inl (cs 4, 150, .inr (.inr (.inr (.inr (fun i => if i < nC S then some (a (50 + i)) else none)))))),
  (a 23, .inl (cs 1, 100, .inl (gM S 23))),
  (a 24, .inl (cs 1, 100, .inl (gM S 24)))]
def xt (cs : Nat → ClassId) (a : Nat → Nat) (S : St) : va_W := (List.range 20).map (fun e => (a (25 + e), .inl (cs 1, 12, .inl (gM S (25 + e)))))
def xc (a : Nat → Nat) (S : St) : va_W := (List.range (nC S)).map (fun i => (a (50 + i), .inr (0, cf S i)))
def xw (cs : Nat → ClassId) (a : Nat → Nat) (R : va_W) (S : St) : va_W := xf cs a S ++ (xt cs a S ++ (xc a S ++ R))
def xlL : List Nat := [0, 0, 0, 0, 0, 0, 0, 1000, 12, 20, 24, 24, 24, 24, 24, 1000, 100, 1000, 1000, 24, 24, 16, 150, 100, 100]
def lenX (k : Nat) : Nat := xlL.getD k 12
def isIA (k : Nat) : Bool := decide (k = 8) || (decide (10 ≤ k) && decide (k ≤ 20)) || decide (k = 23) || decide (k = 24) || (decide (25 ≤ k) && decide (k < 45))
theorem map_set {α : Type} (g g' : Nat → α) (n e : Nat) {v : α} (h : g' e = v) (h2 : ∀ j, j ≠ e → g' j = g j) : ((List.range n).map g).set e v = (List.range n).map g' := by
  apply List.ext_getElem?
  intro j
  by_cases hj : j = e
  · subst hj
    by_cases hn : j < n
    · rw [List.getElem?_set_self (by simpa using hn)]
      simp [hn, h]
    · rw [List.getElem?_eq_none (by simpa using hn), List.getElem?_eq_none (by simpa using hn)]
  · rw [List.getElem?_set_ne (Ne.symm hj)]
    simp only [List.getElem?_map]
    by_cases hn : j < n
    · simp [hn, h2 j hj]
    · simp [hn]
section XW
variable {cs : Nat → ClassId} {a : Nat → Nat} {R : va_W} {S : St}
theorem isIA_or {k : Nat} (h : isIA k = true) : k = 8 ∨ k = 10 ∨ k = 11 ∨ k = 12 ∨ k = 13 ∨ k = 14 ∨ k = 15 ∨ k = 16 ∨ k = 17 ∨ k = 18 ∨ k = 19 ∨ k = 20 ∨ k = 23 ∨ k = 24 ∨ (25 ≤ k ∧ k < 45) := by
  simp only [isIA, Bool.or_eq_true, Bool.and_eq_true, decide_eq_true_eq] at h
  omega
theorem lenX_t (e : Nat) : lenX (25 + e) = 12 := by
  unfold lenX
  rw [List.getD_eq_getElem?_getD, List.getElem?_eq_none (show xlL.length ≤ 25 + e from Nat.le_add_right 25 e)]
  rfl
theorem xw_atT {e : Nat} (h : e < 20) : (xw cs a R S)[25 + e]? = some (a (25 + e), .inl (cs 1, 12, .inl (gM S (25 + e)))) := by
  unfold xw
  rw [List.getElem?_append_right (show (xf cs a S).length ≤ 25 + e from Nat.le_add_right 25 e)]
  show (xt cs a S ++ (xc a S ++ R))[25 + e - 25]? = _
  rw [Nat.add_sub_cancel_left, List.getElem?_append_left (by simpa [xt] using h)]
  simp [xt, h]
theorem xw_atC {i : Nat} (h : i < nC S) : (xw cs a R S)[45 + i]? = some (a (50 + i), .inr (0, cf S i)) := by
  unfold xw
  rw [List.getElem?_append_right (show (xf cs a S).length ≤ 45 + i by show 25 ≤ _; omega)]
  show (xt cs a S ++ (xc a S ++ R))[45 + i - 25]? = _
  have hx : (xt cs a S).length = 20 := by simp [xt]
  rw [List.getElem?_append_right (by rw [hx]; omega), hx, show 45 + i - 25 - 20 = i by omega, List.getElem?_append_left (by simpa [xc] using h)]
  simp [xc, h]
theorem xw_atM {k : Nat} (h : isIA k = true) : (xw cs a R S)[k]? = some (a k, .inl (cs 1, lenX k, .inl (gM S k))) := by
  rcases isIA_or h with rfl | rfl | rfl | rfl | rfl | rfl | rfl | rfl | rfl | rfl | rfl | rfl | rfl | rfl | ⟨h1, h2⟩
  iterate 14 rfl
  obtain ⟨e, rfl⟩ := Nat.exists_eq_add_of_le h1
  rw [xw_atT (by omega), lenX_t e]
theorem xt_sF {k : Nat} (h : k < 25) (f : Nat → Int32) : xt cs a (sF S k f) = xt cs a S := by
  refine List.map_congr_left (fun e _ => ?_)
  show (a (25 + e), _) = _
  rw [show gM (sF S k f) (25 + e) = gM S (25 + e) from if_neg (by omega)]
theorem xf_sF {k : Nat} (h : 25 ≤ k) (f : Nat → Int32) : xf cs a (sF S k f) = xf cs a S := by
  have e : ∀ j, j < 25 → gM (sF S k f) j = gM S j := fun j hj => if_neg (by omega)
  unfold xf
  simp only [e 7 (by omega), e 8 (by omega), e 10 (by omega), e 11 (by omega), e 12 (by omega), e 13 (by omega), e 14 (by omega), e 15 (by omega), e 16 (by omega), e 17 (by omega), e 18 (by omega), e 19 (by omega), e 20 (by omega), e 23 (by omega), e 24 (by omega)]
  rfl
theorem xw_upM {k : Nat} (h : isIA k = true) (f : Nat → Int32) : xw cs a R (sF S k f) = (xw cs a R S).set k (a k, .inl (cs 1, lenX k, .inl f)) := by
  rcases isIA_or h with rfl | rfl | rfl | rfl | rfl | rfl | rfl | rfl | rfl | rfl | rfl | rfl | rfl | rfl | ⟨h1, h2⟩
  iterate 14 (unfold xw; rw [xt_sF (by omega)]; rfl)
  obtain ⟨e, rfl⟩ := Nat.exists_eq_add_of_le h1
  rw [lenX_t e]
  unfold xw
  rw [xf_sF h1, List.set_append_right _ _ (show (xf cs a S).length ≤ 25 + e from h1)]
  congr 1
  show _ = (xt cs a S ++ (xc a S ++ R)).set (25 + e - 25) _
  rw [Nat.add_sub_cancel_left, List.set_append_left _ _ (by simp [xt]; omega)]
  congr 1
  refine (map_set _ _ 20 e ?_ ?_).symm
  · rw [show gM (sF S (25 + e) f) (25 + e) = f from if_pos rfl]
  · intro j hj
    rw [show gM (sF S (25 + e) f) (25 + j) = gM S (25 + j) from if_neg (by omega)]
theorem xw_up7 (f : Nat → Int32) : xw cs a R (sF S 7 f) = (xw cs a R S).set 7 (a 7, .inl (cs 0, 1000, .inl f)) := by
  unfold xw; rw [xt_sF (by omega)]; rfl
theorem xw_upJ (j : Nat) (v : Int64) : xw cs a R (sJ S j v) = (xw cs a R S).set 21 (a 21, .inl (cs 2, 16, .inr (.inl (vp_updL (gJ S) j v)))) := rfl
theorem xw_upC {i : Nat} (h : i < nC S) (t : Nat) (ht : t < 15) (v : Int32) : xw cs a R (sC S i t v) = (xw cs a R S).set (45 + i) (a (50 + i), .inr (0, (cf S i).set t (.int v))) := by
  unfold xw
  rw [List.set_append_right _ _ (show (xf cs a S).length ≤ 45 + i by show 25 ≤ _; omega)]
  show xf cs a S ++ (xt cs a S ++ (xc a (sC S i t v) ++ R)) = _
  congr 1
  show _ = (xt cs a S ++ (xc a S ++ R)).set (45 + i - 25) _
  have hx : (xt cs a S).length = 20 := by simp [xt]
  rw [List.set_append_right _ _ (by rw [hx]; omega), hx, show 45 + i - 25 - 20 = i by omega, List.set_append_left _ _ (by simpa [xc] using h)]
  congr 2
  refine (map_set _ _ (nC S) i ?_ ?_).symm
  · congr 3
    have e : ∀ j, gC (sC S i t v) i j = if j = t then v else gC S i j := fun j => by simp [gC, sC, va_up]
    unfold cf
    simp only [e]
    match t, ht with
    | 0, _ => rfl
    | 1, _ => rfl
    | 2, _ => rfl
    | 3, _ => rfl
    | 4, _ => rfl
    | 5, _ => rfl
    | 6, _ => rfl
    | 7, _ => rfl
    | 8, _ => rfl
    | 9, _ => rfl
    | 10, _ => rfl
    | 11, _ => rfl
    | 12, _ => rfl
    | 13, _ => rfl
    | 14, _ => rfl
    | t + 15, ht => omega
  · intro j hj
    have e : ∀ t', gC (sC S i t v) j t' = gC S j t' := fun t' => by simp [gC, sC, va_up, hj]
    unfold cf
    simp only [e]
theorem xw_upI0 (v : Int32) : xw cs a R (sI S 0 v) = (xw cs a R S).set 1 (a 1, .inr (5, ([.ref (a 7), .int (gI S 0), .ref (a 8), .int (gI S 1), .int (gI S 2), .int (gI S 3), .int (gI S 4), .int (gI S 5), .int (gI S 6), .int (gI S 7), .int (gI S 8), .int (gI S 9)] : List Value).set 1 (.int v))) := rfl
theorem xw_upI1 (v : Int32) : xw cs a R (sI S 1 v) = (xw cs a R S).set 1 (a 1, .inr (5, ([.ref (a 7), .int (gI S 0), .ref (a 8), .int (gI S 1), .int (gI S 2), .int (gI S 3), .int (gI S 4), .int (gI S 5), .int (gI S 6), .int (gI S 7), .int (gI S 8), .int (gI S 9)] : List Value).set 3 (.int v))) := rfl
theorem xw_upI2 (v : Int32) : xw cs a R (sI S 2 v) = (xw cs a R S).set 1 (a 1, .inr (5, ([.ref (a 7), .int (gI S 0), .ref (a 8), .int (gI S 1), .int (gI S 2), .int (gI S 3), .int (gI S 4), .int (gI S 5), .int (gI S 6), .int (gI S 7), .int (gI S 8), .int (gI S 9)] : List Value).set 4 (.int v))) := rfl
theorem xw_upI3 (v : Int32) : xw cs a R (sI S 3 v) = (xw cs a R S).set 1 (a 1, .inr (5, ([.ref (a 7), .int (gI S 0), .ref (a 8), .int (gI S 1), .int (gI S 2), .int (gI S 3), .int (gI S 4), .int (gI S 5), .int (gI S 6), .int (gI S 7), .int (gI S 8), .int (gI S 9)] : List Value).set 5 (.int v))) := rfl
theorem xw_upI4 (v : Int32) : xw cs a R (sI S 4 v) = (xw cs a R S).set 1 (a 1, .inr (5, ([.ref (a 7), .int (gI S 0), .ref (a 8), .int (gI S 1), .int (gI S 2), .int (gI S 3), .int (gI S 4), .int (gI S 5), .int (gI S 6), .int (gI S 7), .int (gI S 8), .int (gI S 9)] : List Value).set 6 (.int v))) := rfl
theorem xw_upI5 (v : Int32) : xw cs a R (sI S 5 v) = (xw cs a R S).set 1 (a 1, .inr (5, ([.ref (a 7), .int (gI S 0), .ref (a 8), .int (gI S 1), .int (gI S 2), .int (gI S 3), .int (gI S 4), .int (gI S 5), .int (gI S 6), .int (gI S 7), .int (gI S 8), .int (gI S 9)] : List Value).set 7 (.int v))) := rfl
theorem xw_upI6 (v : Int32) : xw cs a R (sI S 6 v) = (xw cs a R S).set 1 (a 1, .inr (5, ([.ref (a 7), .int (gI S 0), .ref (a 8), .int (gI S 1), .int (gI S 2), .int (gI S 3), .int (gI S 4), .int (gI S 5), .int (gI S 6), .int (gI S 7), .int (gI S 8), .int (gI S 9)] : List Value).set 8 (.int v))) := rfl
theorem xw_upI7 (v : Int32) : xw cs a R (sI S 7 v) = (xw cs a R S).set 1 (a 1, .inr (5, ([.ref (a 7), .int (gI S 0), .ref (a 8), .int (gI S 1), .int (gI S 2), .int (gI S 3), .int (gI S 4), .int (gI S 5), .int (gI S 6), .int (gI S 7), .int (gI S 8), .int (gI S 9)] : List Value).set 9 (.int v))) := rfl
theorem xw_upI8 (v : Int32) : xw cs a R (sI S 8 v) = (xw cs a R S).set 1 (a 1, .inr (5, ([.ref (a 7), .int (gI S 0), .ref (a 8), .int (gI S 1), .int (gI S 2), .int (gI S 3), .int (gI S 4), .int (gI S 5), .int (gI S 6), .int (gI S 7), .int (gI S 8), .int (gI S 9)] : List Value).set 10 (.int v))) := rfl
theorem xw_upI9 (v : Int32) : xw cs a R (sI S 9 v) = (xw cs a R S).set 1 (a 1, .inr (5, ([.ref (a 7), .int (gI S 0), .ref (a 8), .int (gI S 1), .int (gI S 2), .int (gI S 3), .int (gI S 4), .int (gI S 5), .int (gI S 6), .int (gI S 7), .int (gI S 8), .int (gI S 9)] : List Value).set 11 (.int v))) := rfl
theorem xw_upI10 (v : Int32) : xw cs a R (sI S 10 v) = (xw cs a R S).set 2 (a 2, .inr (6, ([.ref (a 9), .int (gI S 10)] : List Value).set 1 (.int v))) := rfl
theorem xw_upI11 (v : Int32) : xw cs a R (sI S 11 v) = (xw cs a R S).set 3 (a 3, .inr (3, ([.ref (a 10), .ref (a 11), .ref (a 12), .ref (a 13), .ref (a 14), .ref (a 15), .ref (a 16), .int (gI S 11)] : List Value).set 7 (.int v))) := rfl
theorem xw_upI12 (v : Int32) : xw cs a R (sI S 12 v) = (xw cs a R S).set 6 (a 6, .inr (1, ([.ref (a 3), .ref (a 2), .ref (a 4), .ref (a 22), .int (gI S 12), .ref (a 23), .ref (a 24)] : List Value).set 4 (.int v))) := rfl
end XW
/-! ===== the world of the reference: an object, its arrays ===== -/
def mf (cs : Nat → ClassId) (a : Nat → Nat) (S : St) : va_W := [
  (a 0, .inr (8, [.ref (a 1), .int (gI S 0), .int (gI S 1), .int (gI S 2), .int (gI S 3), .int (gI S 4), .int (gI S 5), .int (gI S 6), .int (gI S 7), .int (gI S 8), .ref (a 2), .ref (a 3), .int (gI S 9), .ref (a 4), .int (gI S 10), .ref (a 5), .ref (a 6), .ref (a 7), .ref (a 8), .ref (a 9), .ref (a 10), .ref (a 11), .ref (a 12), .ref (a 13), .ref (a 14), .int (gI S 11), .int (gI S 12), .int (gI S 13), .ref (a 15), .ref (a 16), .ref (a 17), .ref (a 18), .ref (a 19), .ref (a 20), .ref (a 21), .ref (a 22), .ref (a 23), .ref (a 24), .ref (a 25), .ref (a 26), .ref (a 27), .ref (a 28), .ref (a 29), .ref (a 30), .ref (a 31)])),
  (a 1, .inl (cs 0, 1000, .inl (gM S 1))),
  (a 2, .inl (cs 1, 242, .inl (gM S 2))),
  (a 3, .inl (cs 1, 21, .inl (gM S 3))),
  (a 4, .inl (cs 3, 11, .inl (gM S 4))),
  (a 5, .inl (cs 1, 24, .inl (gM S 5))),
  (a 6, .inl (cs 1, 24, .inl (gM S 6))),
  (a 7, .inl (cs 1, 24, .inl (gM S 7))),
  (a 8, .inl (cs 1, 24, .inl (gM S 8))),
  (a 9, .inl (cs 3, 24000, .inl (gM S 9))),
  (a 10, .inl (cs 1, 100, .inl (gM S 10))),
  (a 11, .inl (cs 1, 6000, .inl (gM S 11))),
  (a 12, .inl (cs 1, 6, .inl (gM S 12))),
  (a 13, .inl (cs 1, 6, .inl (gM S 13))),
  (a 14, .inl (cs 1, 24, .inl (gM S 14))),
  (a 15, .inl (cs 1, 150, .inl (gM S 15))),
  (a 16, .inl (cs 1, 150, .inl (gM S 16))),
  (a 17, .inl (cs 1, 150, .inl (gM S 17))),
  (a 18, .inl (cs 1, 150, .inl (gM S 18))),
  (a 19, .inl (cs 1, 150, .inl (gM S 19))),
  (a 20, .inl (cs 1, 150, .inl (gM S 20))),
  (a 21, .inl (cs 1, 150, .inl (gM S 21))),
  (a 22, .inl (cs 1, 150, .inl (gM S 22))),
  (a 23, .inl (cs 1, 150, .inl (gM S 23))),
  (a 24, .inl (cs 1, 150, .inl (gM S 24))),
  (a 25, .inl (cs 1, 150, .inl (gM S 25))),
  (a 26, .inl (cs 1, 150, .inl (gM S 26))),
  (a 27, .inl (cs 3, 150, .inl (gM S 27))),
  (a 28, .inl (cs 1, 150, .inl (gM S 28))),
  (a 29, .inl (cs 3, 3600, .inl (gM S 29))),
  (a 30, .inl (cs 3, 2400, .inl (gM S 30))),
  (a 31, .inl (cs 3, 1000, .inl (gM S 31)))]
def mw (cs : Nat → ClassId) (a : Nat → Nat) (R : va_W) (S : St) : va_W := mf cs a S ++ R
def mlL : List Nat := [0, 1000, 242, 21, 11, 24, 24, 24, 24, 24000, 100, 6000, 6, 6, 24, 150, 150, 150, 150, 150, 150, 150, 150, 150, 150, 150, 150, 150, 150, 3600, 2400, 1000]
def lenM (k : Nat) : Nat := mlL.getD k 0
def isMI (k : Nat) : Bool := decide (k = 2) || decide (k = 3) || decide (k = 5) || decide (k = 6) || decide (k = 7) || decide (k = 8) || decide (k = 10) || decide (k = 11) || decide (k = 12) || decide (k = 13) || decide (k = 14) || decide (k = 15) || decide (k = 16) || decide (k = 17) || decide (k = 18) || decide (k = 19) || decide (k = 20) || decide (k = 21) || decide (k = 22) || decide (k = 23) || decide (k = 24) || decide (k = 25) || decide (k = 26) || decide (k = 28)
def isMZ (k : Nat) : Bool := decide (k = 4) || decide (k = 9) || decide (k = 27) || decide (k = 29) || decide (k = 30) || decide (k = 31)
def isMB (k : Nat) : Bool := decide (k = 1)
section MW
variable {cs : Nat → ClassId} {a : Nat → Nat} {R : va_W} {S : St}
theorem isMI_or {k : Nat} (h : isMI k = true) : k = 2 ∨ k = 3 ∨ k = 5 ∨ k = 6 ∨ k = 7 ∨ k = 8 ∨ k = 10 ∨ k = 11 ∨ k = 12 ∨ k = 13 ∨ k = 14 ∨ k = 15 ∨ k = 16 ∨ k = 17 ∨ k = 18 ∨ k = 19 ∨ k = 20 ∨ k = 21 ∨ k = 22 ∨ k = 23 ∨ k = 24 ∨ k = 25 ∨ k = 26 ∨ k = 28 := by
  simp only [isMI, Bool.or_eq_true, decide_eq_true_eq] at h
  omega
theorem mw_atI {k : Nat} (h : isMI k = true) : (mw cs a R S)[k]? = some (a k, .inl (cs 1, lenM k, .inl (gM S k))) := by
  rcases isMI_or h with rfl | rfl | rfl | rfl | rfl | rfl | rfl | rfl | rfl | rfl | rfl | rfl | rfl | rfl | rfl | rfl | rfl | rfl | rfl | rfl | rfl | rfl | rfl | rfl <;> rfl
theorem mw_upI {k : Nat} (h : isMI k = true) (f : Nat → Int32) : mw cs a R (sF S k f) = (mw cs a R S).set k (a k, .inl (cs 1, lenM k, .inl f)) := by
  rcases isMI_or h with rfl | rfl | rfl | rfl | rfl | rfl | rfl | rfl | rfl | rfl | rfl | rfl | rfl | rfl | rfl | rfl | rfl | rfl | rfl | rfl | rfl | rfl | rfl | rfl <;> rfl
theorem isMZ_or {k : Nat} (h : isMZ k = true) : k = 4 ∨ k = 9 ∨ k = 27 ∨ k = 29 ∨ k = 30 ∨ k = 31 := by
  simp only [isMZ, Bool.or_eq_true, decide_eq_true_eq] at h
  omega
theorem mw_atZ {k : Nat} (h : isMZ k = true) : (mw cs a R S)[k]? = some (a k, .inl (cs 3, lenM k, .inl (gM S k))) := by
  rcases isMZ_or h with rfl | rfl | rfl | rfl | rfl | rfl <;> rfl
theorem mw_upZ {k : Nat} (h : isMZ k = true) (f : Nat → Int32) : mw cs a R (sF S k f) = (mw cs a R S).set k (a k, .inl (cs 3, lenM k, .inl f)) := by
  rcases isMZ_or h with rfl | rfl | rfl | rfl | rfl | rfl <;> rfl
theorem isMB_or {k : Nat} (h : isMB k = true) : k = 1 := by
  simp only [isMB, Bool.or_eq_true, decide_eq_true_eq] at h
  omega
theorem mw_atB {k : Nat} (h : isMB k = true) : (mw cs a R S)[k]? = some (a k, .inl (cs 0, lenM k, .inl (gM S k))) := by
  rcases isMB_or h with rfl <;> rfl
theorem mw_upB {k : Nat} (h : isMB k = true) (f : Nat → Int32) : mw cs a R (sF S k f) = (mw cs a R S).set k (a k, .inl (cs 0, lenM k, .inl f)) := by
  rcases isMB_or h with rfl <;> rfl
theorem mw_upI0 (v : Int32) : mw cs a R (sI S 0 v) = (mw cs a R S).set 0 (a 0, .inr (8, ([.ref (a 1), .int (gI S 0), .int (gI S 1), .int (gI S 2), .int (gI S 3), .int (gI S 4), .int (gI S 5), .int (gI S 6), .int (gI S 7), .int (gI S 8), .ref (a 2), .ref (a 3), .int (gI S 9), .ref (a 4), .int (gI S 10), .ref (a 5), .ref (a 6), .ref (a 7), .ref (a 8), .ref (a 9), .ref (a 10), .ref (a 11), .ref (a 12), .ref (a 13), .ref (a 14), .int (gI S 11), .int (gI S 12), .int (gI S 13), .ref (a 15), .ref (a 16), .ref (a 17), .ref (a 18), .ref (a 19), .ref (a 20), .ref (a 21), .ref (a 22), .ref (a 23), .ref (a 24), .ref (a 25), .ref (a 26), .ref (a 27), .ref (a 28), .ref (a 29), .ref (a 30), .ref (a 31)] : List Value).set 1 (.int v))) := rfl
theorem mw_upI1 (v : Int32) : mw cs a R (sI S 1 v) = (mw cs a R S).set 0 (a 0, .inr (8, ([.ref (a 1), .int (gI S 0), .int (gI S 1), .int (gI S 2), .int (gI S 3), .int (gI S 4), .int (gI S 5), .int (gI S 6), .int (gI S 7), .int (gI S 8), .ref (a 2), .ref (a 3), .int (gI S 9), .ref (a 4), .int (gI S 10), .ref (a 5), .ref (a 6), .ref (a 7), .ref (a 8), .ref (a 9), .ref (a 10), .ref (a 11), .ref (a 12), .ref (a 13), .ref (a 14), .int (gI S 11), .int (gI S 12), .int (gI S 13), .ref (a 15), .ref (a 16), .ref (a 17), .ref (a 18), .ref (a 19), .ref (a 20), .ref (a 21), .ref (a 22), .ref (a 23), .ref (a 24), .ref (a 25), .ref (a 26), .ref (a 27), .ref (a 28), .ref (a 29), .ref (a 30), .ref (a 31)] : List Value).set 2 (.int v))) := rfl
theorem mw_upI2 (v : Int32) : mw cs a R (sI S 2 v) = (mw cs a R S).set 0 (a 0, .inr (8, ([.ref (a 1), .int (gI S 0), .int (gI S 1), .int (gI S 2), .int (gI S 3), .int (gI S 4), .int (gI S 5), .int (gI S 6), .int (gI S 7), .int (gI S 8), .ref (a 2), .ref (a 3), .int (gI S 9), .ref (a 4), .int (gI S 10), .ref (a 5), .ref (a 6), .ref (a 7), .ref (a 8), .ref (a 9), .ref (a 10), .ref (a 11), .ref (a 12), .ref (a 13), .ref (a 14), .int (gI S 11), .int (gI S 12), .int (gI S 13), .ref (a 15), .ref (a 16), .ref (a 17), .ref (a 18), .ref (a 19), .ref (a 20), .ref (a 21), .ref (a 22), .ref (a 23), .ref (a 24), .ref (a 25), .ref (a 26), .ref (a 27), .ref (a 28), .ref (a 29), .ref (a 30), .ref (a 31)] : List Value).set 3 (.int v))) := rfl
theorem mw_upI3 (v : Int32) : mw cs a R (sI S 3 v) = (mw cs a R S).set 0 (a 0, .inr (8, ([.ref (a 1), .int (gI S 0), .int (gI S 1), .int (gI S 2), .int (gI S 3), .int (gI S 4), .int (gI S 5), .int (gI S 6), .int (gI S 7), .int (gI S 8), .ref (a 2), .ref (a 3), .int (gI S 9), .ref (a 4), .int (gI S 10), .ref (a 5), .ref (a 6), .ref (a 7), .ref (a 8), .ref (a 9), .ref (a 10), .ref (a 11), .ref (a 12), .ref (a 13), .ref (a 14), .int (gI S 11), .int (gI S 12), .int (gI S 13), .ref (a 15), .ref (a 16), .ref (a 17), .ref (a 18), .ref (a 19), .ref (a 20), .ref (a 21), .ref (a 22), .ref (a 23), .ref (a 24), .ref (a 25), .ref (a 26), .ref (a 27), .ref (a 28), .ref (a 29), .ref (a 30), .ref (a 31)] : List Value).set 4 (.int v))) := rfl
theorem mw_upI4 (v : Int32) : mw cs a R (sI S 4 v) = (mw cs a R S).set 0 (a 0, .inr (8, ([.ref (a 1), .int (gI S 0), .int (gI S 1), .int (gI S 2), .int (gI S 3), .int (gI S 4), .int (gI S 5), .int (gI S 6), .int (gI S 7), .int (gI S 8), .ref (a 2), .ref (a 3), .int (gI S 9), .ref (a 4), .int (gI S 10), .ref (a 5), .ref (a 6), .ref (a 7), .ref (a 8), .ref (a 9), .ref (a 10), .ref (a 11), .ref (a 12), .ref (a 13), .ref (a 14), .int (gI S 11), .int (gI S 12), .int (gI S 13), .ref (a 15), .ref (a 16), .ref (a 17), .ref (a 18), .ref (a 19), .ref (a 20), .ref (a 21), .ref (a 22), .ref (a 23), .ref (a 24), .ref (a 25), .ref (a 26), .ref (a 27), .ref (a 28), .ref (a 29), .ref (a 30), .ref (a 31)] : List Value).set 5 (.int v))) := rfl
theorem mw_upI5 (v : Int32) : mw cs a R (sI S 5 v) = (mw cs a R S).set 0 (a 0, .inr (8, ([.ref (a 1), .int (gI S 0), .int (gI S 1), .int (gI S 2), .int (gI S 3), .int (gI S 4), .int (gI S 5), .int (gI S 6), .int (gI S 7), .int (gI S 8), .ref (a 2), .ref (a 3), .int (gI S 9), .ref (a 4), .int (gI S 10), .ref (a 5), .ref (a 6), .ref (a 7), .ref (a 8), .ref (a 9), .ref (a 10), .ref (a 11), .ref (a 12), .ref (a 13), .ref (a 14), .int (gI S 11), .int (gI S 12), .int (gI S 13), .ref (a 15), .ref (a 16), .ref (a 17), .ref (a 18), .ref (a 19), .ref (a 20), .ref (a 21), .ref (a 22), .ref (a 23), .ref (a 24), .ref (a 25), .ref (a 26), .ref (a 27), .ref (a 28), .ref (a 29), .ref (a 30), .ref (a 31)] : List Value).set 6 (.int v))) := rfl
theorem mw_upI6 (v : Int32) : mw cs a R (sI S 6 v) = (mw cs a R S).set 0 (a 0, .inr (8, ([.ref (a 1), .int (gI S 0), .int (gI S 1), .int (gI S 2), .int (gI S 3), .int (gI S 4), .int (gI S 5), .int (gI S 6), .int (gI S 7), .int (gI S 8), .ref (a 2), .ref (a 3), .int (gI S 9), .ref (a 4), .int (gI S 10), .ref (a 5), .ref (a 6), .ref (a 7), .ref (a 8), .ref (a 9), .ref (a 10), .ref (a 11), .ref (a 12), .ref (a 13), .ref (a 14), .int (gI S 11), .int (gI S 12), .int (gI S 13), .ref (a 15), .ref (a 16), .ref (a 17), .ref (a 18), .ref (a 19), .ref (a 20), .ref (a 21), .ref (a 22), .ref (a 23), .ref (a 24), .ref (a 25), .ref (a 26), .ref (a 27), .ref (a 28), .ref (a 29), .ref (a 30), .ref (a 31)] : List Value).set 7 (.int v))) := rfl
theorem mw_upI7 (v : Int32) : mw cs a R (sI S 7 v) = (mw cs a R S).set 0 (a 0, .inr (8, ([.ref (a 1), .int (gI S 0), .int (gI S 1), .int (gI S 2), .int (gI S 3), .int (gI S 4), .int (gI S 5), .int (gI S 6), .int (gI S 7), .int (gI S 8), .ref (a 2), .ref (a 3), .int (gI S 9), .ref (a 4), .int (gI S 10), .ref (a 5), .ref (a 6), .ref (a 7), .ref (a 8), .ref (a 9), .ref (a 10), .ref (a 11), .ref (a 12), .ref (a 13), .ref (a 14), .int (gI S 11), .int (gI S 12), .int (gI S 13), .ref (a 15), .ref (a 16), .ref (a 17), .ref (a 18), .ref (a 19), .ref (a 20), .ref (a 21), .ref (a 22), .ref (a 23), .ref (a 24), .ref (a 25), .ref (a 26), .ref (a 27), .ref (a 28), .ref (a 29), .ref (a 30), .ref (a 31)] : List Value).set 8 (.int v))) := rfl
theorem mw_upI8 (v : Int32) : mw cs a R (sI S 8 v) = (mw cs a R S).set 0 (a 0, .inr (8, ([.ref (a 1), .int (gI S 0), .int (gI S 1), .int (gI S 2), .int (gI S 3), .int (gI S 4), .int (gI S 5), .int (gI S 6), .int (gI S 7), .int (gI S 8), .ref (a 2), .ref (a 3), .int (gI S 9), .ref (a 4), .int (gI S 10), .ref (a 5), .ref (a 6), .ref (a 7), .ref (a 8), .ref (a 9), .ref (a 10), .ref (a 11), .ref (a 12), .ref (a 13), .ref (a 14), .int (gI S 11), .int (gI S 12), .int (gI S 13), .ref (a 15), .ref (a 16), .ref (a 17), .ref (a 18), .ref (a 19), .ref (a 20), .ref (a 21), .ref (a 22), .ref (a 23), .ref (a 24), .ref (a 25), .ref (a 26), .ref (a 27), .ref (a 28), .ref (a 29), .ref (a 30), .ref (a 31)] : List Value).set 9 (.int v))) := rfl
theorem mw_upI9 (v : Int32) : mw cs a R (sI S 9 v) = (mw cs a R S).set 0 (a 0, .inr (8, ([.ref (a 1), .int (gI S 0), .int (gI S 1), .int (gI S 2), .int (gI S 3), .int (gI S 4), .int (gI S 5), .int (gI S 6), .int (gI S 7), .int (gI S 8), .ref (a 2), .ref (a 3), .int (gI S 9), .ref (a 4), .int (gI S 10), .ref (a 5), .ref (a 6), .ref (a 7), .ref (a 8), .ref (a 9), .ref (a 10), .ref (a 11), .ref (a 12), .ref (a 13), .ref (a 14), .int (gI S 11), .int (gI S 12), .int (gI S 13), .ref (a 15), .ref (a 16), .ref (a 17), .ref (a 18), .ref (a 19), .ref (a 20), .ref (a 21), .ref (a 22), .ref (a 23), .ref (a 24), .ref (a 25), .ref (a 26), .ref (a 27), .ref (a 28), .ref (a 29), .ref (a 30), .ref (a 31)] : List Value).set 12 (.int v))) := rfl
theorem mw_upI10 (v : Int32) : mw cs a R (sI S 10 v) = (mw cs a R S).set 0 (a 0, .inr (8, ([.ref (a 1), .int (gI S 0), .int (gI S 1), .int (gI S 2), .int (gI S 3), .int (gI S 4), .int (gI S 5), .int (gI S 6), .int (gI S 7), .int (gI S 8), .ref (a 2), .ref (a 3), .int (gI S 9), .ref (a 4), .int (gI S 10), .ref (a 5), .ref (a 6), .ref (a 7), .ref (a 8), .ref (a 9), .ref (a 10), .ref (a 11), .ref (a 12), .ref (a 13), .ref (a 14), .int (gI S 11), .int (gI S 12), .int (gI S 13), .ref (a 15), .ref (a 16), .ref (a 17), .ref (a 18), .ref (a 19), .ref (a 20), .ref (a 21), .ref (a 22), .ref (a 23), .ref (a 24), .ref (a 25), .ref (a 26), .ref (a 27), .ref (a 28), .ref (a 29), .ref (a 30), .ref (a 31)] : List Value).set 14 (.int v))) := rfl
theorem mw_upI11 (v : Int32) : mw cs a R (sI S 11 v) = (mw cs a R S).set 0 (a 0, .inr (8, ([.ref (a 1), .int (gI S 0), .int (gI S 1), .int (gI S 2), .int (gI S 3), .int (gI S 4), .int (gI S 5), .int (gI S 6), .int (gI S 7), .int (gI S 8), .ref (a 2), .ref (a 3), .int (gI S 9), .ref (a 4), .int (gI S 10), .ref (a 5), .ref (a 6), .ref (a 7), .ref (a 8), .ref (a 9), .ref (a 10), .ref (a 11), .ref (a 12), .ref (a 13), .ref (a 14), .int (gI S 11), .int (gI S 12), .int (gI S 13), .ref (a 15), .ref (a 16), .ref (a 17), .ref (a 18), .ref (a 19), .ref (a 20), .ref (a 21), .ref (a 22), .ref (a 23), .ref (a 24), .ref (a 25), .ref (a 26), .ref (a 27), .ref (a 28), .ref (a 29), .ref (a 30), .ref (a 31)] : List Value).set 25 (.int v))) := rfl
theorem mw_upI12 (v : Int32) : mw cs a R (sI S 12 v) = (mw cs a R S).set 0 (a 0, .inr (8, ([.ref (a 1), .int (gI S 0), .int (gI S 1), .int (gI S 2), .int (gI S 3), .int (gI S 4), .int (gI S 5), .int (gI S 6), .int (gI S 7), .int (gI S 8), .ref (a 2), .ref (a 3), .int (gI S 9), .ref (a 4), .int (gI S 10), .ref (a 5), .ref (a 6), .ref (a 7), .ref (a 8), .ref (a 9), .ref (a 10), .ref (a 11), .ref (a 12), .ref (a 13), .ref (a 14), .int (gI S 11), .int (gI S 12), .int (gI S 13), .ref (a 15), .ref (a 16), .ref (a 17), .ref (a 18), .ref (a 19), .ref (a 20), .ref (a 21), .ref (a 22), .ref (a 23), .ref (a 24), .ref (a 25), .ref (a 26), .ref (a 27), .ref (a 28), .ref (a 29), .ref (a 30), .ref (a 31)] : List Value).set 26 (.int v))) := rfl
theorem mw_upI13 (v : Int32) : mw cs a R (sI S 13 v) = (mw cs a R S).set 0 (a 0, .inr (8, ([.ref (a 1), .int (gI S 0), .int (gI S 1), .int (gI S 2), .int (gI S 3), .int (gI S 4), .int (gI S 5), .int (gI S 6), .int (gI S 7), .int (gI S 8), .ref (a 2), .ref (a 3), .int (gI S 9), .ref (a 4), .int (gI S 10), .ref (a 5), .ref (a 6), .ref (a 7), .ref (a 8), .ref (a 9), .ref (a 10), .ref (a 11), .ref (a 12), .ref (a 13), .ref (a 14), .int (gI S 11), .int (gI S 12), .int (gI S 13), .ref (a 15), .ref (a 16), .ref (a 17), .ref (a 18), .ref (a 19), .ref (a 20), .ref (a 21), .ref (a 22), .ref (a 23), .ref (a 24), .ref (a 25), .ref (a 26), .ref (a 27), .ref (a 28), .ref (a 29), .ref (a 30), .ref (a 31)] : List Value).set 27 (.int v))) := rfl
end MW
theorem wd_eq {G : GP} {A : Nat → Prop} {s : State} {H : Heap} {locs : List Loc} {ws ws' : va_W} (e : ws' = ws) (hP : va_P G.1 vwCl ws H) (hD : va_D A ws) (hS : va_S A s.heap H locs) : Wd G A s H locs ws' := by
  subst e
  exact ⟨hP, hD, hS⟩
