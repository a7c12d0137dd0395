/-! ===== pure part: bars of a call ===== -/
theorem loop_any {body : Int32 → Option (Int32 ⊕ Int32)} {n : Nat} (p : Nat → Bool) (hn : n < 20000) (hs : ∀ k, k < n → body (nI k) = if p k then some (.inr 1) else some (.inl (nI (k + 1)))) (h0 : body (nI n) = some (.inr 0)) : loopF body FU 0 = some (bI (decide (0 < fb_ct p n))) := by
  apply Ok.eq
  refine loop_ok (fun i s => s = nI i ∧ fb_ct p i = 0) n _ hn ⟨rfl, rfl⟩ ?_
  rintro i s hi ⟨rfl, hc⟩
  rcases Nat.lt_or_ge i n with h | h
  · cases q : p i
    · refine go (s' := nI (i + 1)) (by rw [hs i h, q]; rfl) h ⟨rfl, ?_⟩
      rw [fb_ct_succ, hc, q]
      rfl
    · refine out (r := 1) (by rw [hs i h, q]; rfl) ?_
      rw [decide_eq_true (fb_ct_pos.mpr ⟨i, h, q⟩)]
      rfl
  · have : i = n := by omega
    subst this
    refine out (r := 0) h0 ?_
    rw [hc]
    rfl
/-- what stays of a call, asked or not -/
def RIs (nl : Nat) (S T : St) (i : Nat) : Prop :=
  (∃ v, v < 1000 ∧ gC S i 0 = nI v ∧ gM T 15 i = nI v) ∧ (∃ v, v < 6 ∧ gC S i 1 = nI v ∧ gM T 16 i = nI v) ∧ (∃ v, v < 10 ∧ gC S i 2 = nI v ∧ gM T 17 i = nI v) ∧
  (gC S i 3 = gM T 18 i ∧ (gM T 18 i = -1 ∨ ∃ v, v < 8 ∧ gM T 18 i = nI v)) ∧ (∃ v, v < 100 ∧ gC S i 4 = nI v ∧ gM T 19 i = nI v) ∧ (∃ v, v < 10 ∧ gC S i 5 = nI v ∧ gM T 20 i = nI v) ∧
  (∀ l, l < 24 → gM T 29 (24 * i + l) = bI (bt (gC S i 8) l)) ∧ gC S i 10 = gM T 24 i ∧ (gM T 24 i = -1 ∨ ∃ l, l < nl ∧ gM T 24 i = nI l) ∧ (gC S i 6 = 1 ↔ ¬ gM T 24 i = -1)
def RCs (nc nl : Nat) (S T : St) : Prop := nc ≤ 150 ∧ nC S = nc ∧ gI S 12 = nI nc ∧ gI T 13 = nI nc ∧ (∀ i, i < nc → RIs nl S T i) ∧ (∀ l, l < 24 → gM S 14 l = nI (tkn T nc l))
theorem RI.s {nl : Nat} {S T : St} {i : Nat} (h24 : nl ≤ 24) (h : RI nl S T i) : RIs nl S T i := by
  obtain ⟨h1, h2, h3, h4, h5, h6, h7, h8, h9, h10, h11, h12⟩ := h
  have h0 : ¬ (0 : Int32) = 1 := by decide
  have h2' : ¬ (2 : Int32) = 1 := by decide
  refine ⟨h1, h2, h3, h4, h5, h6, h8, h10, ?_, ?_⟩
  · rcases h12 with ⟨a, b, _⟩ | ⟨a, b, _⟩ | ⟨a, b, c, _⟩
    · exact Or.inl b
    · exact Or.inl b
    · exact Or.inr c
  · rw [h7]
    rcases h12 with ⟨a, b, _⟩ | ⟨a, b, _⟩ | ⟨a, b, ⟨l, c1, c2⟩, _⟩
    · rw [a, b]
      exact ⟨fun z => absurd z h0, fun z => absurd rfl z⟩
    · rw [a, b]
      exact ⟨fun z => absurd z h2', fun z => absurd rfl z⟩
    · rw [a, c2]
      refine ⟨fun _ => ?_, fun _ => rfl⟩
      simp (disch := omega) only [q_m1, not_false_eq_true]
theorem RC.s {nc nl : Nat} {S T : St} (h24 : nl ≤ 24) (h : RC nc nl S T) : RCs nc nl S T := ⟨h.1, h.2.1, h.2.2.1, h.2.2.2.1, fun i hi => (h.2.2.2.2.1 i hi).s h24, h.2.2.2.2.2⟩
/-- a fellow's call k that bars -/
def felK (T : St) (c a l k : Nat) : Bool := decide (gM T 24 k = nI l) && (decide (gM T 19 k = nI c) && (!decide (gM T 20 k = nI a) && (decide (gM T 31 (10 * c + a) = 0) && decide (gM T 31 (10 * c + (gM T 20 k).toNatClampNeg) = 0))))
def fel (T : St) (nc c a l : Nat) : Bool := decide (0 < fb_ct (felK T c a l) nc)
theorem isFellow_T {nc nl : Nat} {S T : St} (hC : RCs nc nl S T) {i l c a : Nat} (hi : i < nc) (hc : c < 100) (ha : a < 10) (h19 : gM T 19 i = nI c) (h20 : gM T 20 i = nI a) : f_X8_isFellow T (nI i) (nI l) = some (bI (fel T nc c a l)) := by
  have h150 := hC.1
  simp (disch := omega) only [f_X8_isFellow, NL0, NL1, NL2, NL3, NL4, NL5, NL6, NL7, NL8, NL9, q_m1, q_m1', q_m1t, q_m1t', q_m1l, q_m1l', nI_clamp, nI_leI, nI_ltI, nI_eq, nI_add, nI_z, pk_mul, pk_sub, gd_nI, bnd, h19, h20]
  refine loop_any (felK T c a l) (by omega) ?_ ?_
  · intro k hk
    obtain ⟨_, _, _, _, ⟨c', c1, c2, c3⟩, ⟨a', a1, a2, a3⟩, _⟩ := hC.2.2.2.2.1 k hk
    simp (disch := omega) only [f_X8_isFellow_L20, hC.2.2.2.1, NL0, NL1, NL2, NL3, NL4, NL5, NL6, NL7, NL8, NL9, q_m1, q_m1', q_m1t, q_m1t', q_m1l, q_m1l', nI_clamp, nI_leI, nI_ltI, nI_eq, nI_add, nI_z, pk_mul, pk_sub, gd_nI, bnd, h19, h20, c3, a3, felK]
    rw [if_neg (by omega)]
    by_cases q1 : gM T 24 k = nI l
    · simp only [q1, if_true, decide_true, Bool.true_and]
      by_cases q2 : c' = c
      · subst q2
        simp only [if_true, decide_true, Bool.true_and]
        by_cases q3 : a' = a
        · simp only [q3, if_true, decide_true, Bool.not_true, Bool.false_and, Bool.false_eq_true, if_false]
        · simp only [q3, if_false, decide_false, Bool.not_false, Bool.true_and]
          by_cases q4 : gM T 31 (10 * c' + a) = 0
          · simp only [q4, if_true, decide_true, Bool.true_and]
            by_cases q5 : gM T 31 (10 * c' + a') = 0
            · simp only [q5, if_true, decide_true]
            · simp only [q5, if_false, decide_false, Bool.false_eq_true]
          · simp only [q4, if_false, decide_false, Bool.false_and, Bool.false_eq_true]
      · simp only [q2, if_false, decide_false, Bool.false_and, Bool.false_eq_true]
    · simp only [q1, if_false, decide_false, Bool.false_and, Bool.false_eq_true]
  · simp (disch := omega) only [f_X8_isFellow_L20, hC.2.2.2.1, nI_leI]
    rw [if_pos (Nat.le_refl _)]
theorem tookFellow_S {nc nl : Nat} {S T : St} (hC : RCs nc nl S T) (hA : RA S T) {i l c a : Nat} (hi : i < nc) (hc : c < 100) (ha : a < 10) (h4 : gC S i 4 = nI c) (h5 : gC S i 5 = nI a) : f_X1_tookFellow S i (nI l) = some (bI (fel T nc c a l)) := by
  have h150 := hC.1
  have hw := hA.2 c a hc ha
  simp (disch := omega) only [f_X1_tookFellow, hC.2.1, gn_p, NL0, NL1, NL2, NL3, NL4, NL5, NL6, NL7, NL8, NL9, q_m1, q_m1', q_m1t, q_m1t', q_m1l, q_m1l', nI_clamp, nI_leI, nI_ltI, nI_eq, nI_add, nI_z, pk_mul, pk_sub, gd_nI, bnd, h4, h5, hasBit_eq, Option.bind_some, bI_0]
  cases q : bt (gM S 24 c) a
  · rw [if_pos rfl]
    refine loop_any (felK T c a l) (by omega) ?_ ?_
    · intro k hk
      obtain ⟨_, _, _, _, ⟨c', c1, c2, c3⟩, ⟨a', a1, a2, a3⟩, _, t1, _, _⟩ := hC.2.2.2.2.1 k hk
      have hw' := hA.2 c a' hc a1
      simp (disch := omega) only [f_X1_tookFellow_L26, f_X0_isFellowOf, hC.2.1, gn_p, hC.2.2.1, NL0, NL1, NL2, NL3, NL4, NL5, NL6, NL7, NL8, NL9, q_m1, q_m1', q_m1t, q_m1t', q_m1l, q_m1l', nI_clamp, nI_leI, nI_ltI, nI_eq, nI_add, nI_z, pk_mul, pk_sub, gd_nI, bnd, h4, h5, c2, a2, t1, c3, a3, felK, hasBit_eq, hw, hw', q, bI_0, decide_true, Bool.true_and]
      rw [if_neg (by omega)]
      by_cases q1 : gM T 24 k = nI l
      · simp only [q1, if_true, decide_true, Bool.true_and]
        by_cases q2 : c' = c
        · simp only [q2, if_true, decide_true, Bool.true_and]
          by_cases q3 : a' = a
          · simp only [q3, if_true, Option.bind_some, decide_true, Bool.not_true, Bool.false_and, Bool.false_eq_true, if_false]
          · simp only [q3, if_false, Option.bind_some, decide_false, Bool.not_false, Bool.true_and]
            rw [if_neg (by decide)]
            cases bt (gM S 24 c) a' <;> rfl
        · simp only [q2, if_false, Option.bind_some, if_true, decide_false, Bool.false_and, Bool.false_eq_true]
      · simp only [q1, if_false, decide_false, Bool.false_and, Bool.false_eq_true]
    · simp (disch := omega) only [f_X1_tookFellow_L26, hC.2.2.1, nI_leI]
      rw [if_pos (Nat.le_refl _)]
  · rw [if_neg (by decide)]
    have : fel T nc c a l = false := by
      unfold fel
      rw [decide_eq_false_iff_not]
      intro z
      obtain ⟨k, _, z2⟩ := fb_ct_pos.mp z
      unfold felK at z2
      rw [hw, q] at z2
      simp [bI] at z2
    rw [this]
    rfl
/-- the seven reasons as one number, in the order of the reference -/
def o2 (x : Bool) (y : Int32) : Int32 := if x then y ||| 2 else y
def o3 (x : Bool) (y : Int32) : Int32 := if x then y ||| 4 else y
def o4 (x : Bool) (y : Int32) : Int32 := if x then y ||| 8 else y
def o5 (x : Bool) (y : Int32) : Int32 := if x then y ||| 16 else y
def o6 (x : Bool) (y : Int32) : Int32 := if x then y ||| 32 else y
def o7 (x : Bool) (y : Int32) : Int32 := if x then y ||| 64 else y
def p6 (x : Bool) (y : Int32) : Int32 := if x then y ||| 2 else y
def p7 (x : Bool) (y : Int32) : Int32 := if x then y ||| 4 else y
def comb (x1 x2 x3 x4 x5 x6 x7 : Bool) : Int32 := o7 x7 (o6 x6 (o5 x5 (o4 x4 (o3 x3 (o2 x2 (bI x1))))))
def combS (x1 x2 x3 x4 x5 x6 x7 : Bool) : Int32 := o4 x4 (o3 x3 (o2 x2 (bI x1))) ||| ((p7 x7 (p6 x6 (bI x5))) <<< ((4 : Int32) &&& 31))
theorem comb_S : ∀ x1 x2 x3 x4 x5 x6 x7, combS x1 x2 x3 x4 x5 x6 x7 = comb x1 x2 x3 x4 x5 x6 x7 := by decide +kernel
def y1 (T : St) (i l : Nat) : Bool := !bt (gM T 6 l) (gM T 16 i).toNatClampNeg
def y2 (T : St) (i l : Nat) : Bool := !(decide (gM T 9 (1000 * l + (gM T 15 i).toNatClampNeg) = 0) && !sk T l (gM T 15 i).toNatClampNeg)
def y3 (T : St) (i l : Nat) : Bool := !decide (gM T 18 i = -1) && !bt (gM T 7 l) (gM T 18 i).toNatClampNeg
def y4 (T : St) (i l : Nat) : Bool := decide (gM T 10 (10 * (gM T 5 l).toNatClampNeg + (gM T 17 i).toNatClampNeg) = -1)
def y5 (T : St) (nc : Nat) (b : Int32) (i l : Nat) : Bool := !decide (b &&& 1 = 0) && fel T nc (gM T 19 i).toNatClampNeg (gM T 20 i).toNatClampNeg l
def y6 (T : St) (b : Int32) (i l : Nat) : Bool := !decide (b &&& 2 = 0) && !decide (gM T 30 (100 * l + (gM T 19 i).toNatClampNeg) = 0)
def y7 (T : St) (b : Int32) (i l : Nat) : Bool := !decide (b &&& 4 = 0) && decide (gM T 5 l = gM T 17 i)
/-- why a lawyer may not be asked -/
def brs (T : St) (ne nc i l : Nat) : Int32 := comb (y1 T i l) (y2 T i l) (y3 T i l) (y4 T i l) (y5 T nc (nw T (gM T 15 i) ne 10) i l) (y6 T (nw T (gM T 15 i) ne 10) i l) (y7 T (nw T (gM T 15 i) ne 10) i l)
theorem bars_T {ne nc nl : Nat} {S T : St} (hE : RE ne S T) (hP : RP nl S T) (hC : RCs nc nl S T) {i l : Nat} (hi : i < nc) (hl : l < nl) : f_X8_barsOf T (nI i) (nI l) = some (brs T ne nc i l) := by
  have h150 := hC.1
  have h24 := hP.1
  obtain ⟨⟨d, d1, d2, d3⟩, ⟨p, p1, p2, p3⟩, ⟨t, t1, t2, t3⟩, ⟨g1, g2⟩, ⟨c, c1, c2, c3⟩, ⟨a, a1, a2, a3⟩, _⟩ := hC.2.2.2.2.1 i hi
  obtain ⟨⟨tl, tl1, tl2⟩, _⟩ := hP.2.2.2.1 l hl
  generalize hb : nw T (gM T 15 i) ne 10 = b
  have J198 : ∀ y, f_X8_barsOf_J198 T (nI i) (nI l) b y = some (o7 (y7 T b i l) y) := by
    intro y
    simp (disch := omega) only [f_X8_barsOf_J198, NL0, NL1, NL2, NL3, NL4, NL5, NL6, NL7, NL8, NL9, q_m1, q_m1', q_m1t, q_m1t', q_m1l, q_m1l', nI_clamp, nI_leI, nI_ltI, nI_eq, nI_add, nI_z, pk_mul, pk_sub, gd_nI, bnd]
    by_cases q1 : b &&& 4 = 0
    · simp [q1, o7, y7]
    · by_cases q2 : gM T 5 l = gM T 17 i
      · simp [q1, q2, o7, y7]
      · simp [q1, q2, o7, y7]
  have J166 : ∀ y, f_X8_barsOf_J166 T (nI i) (nI l) b y = some (o7 (y7 T b i l) (o6 (y6 T b i l) y)) := by
    intro y
    simp (disch := omega) only [f_X8_barsOf_J166, NL0, NL1, NL2, NL3, NL4, NL5, NL6, NL7, NL8, NL9, q_m1, q_m1', q_m1t, q_m1t', q_m1l, q_m1l', nI_clamp, nI_leI, nI_ltI, nI_eq, nI_add, nI_z, pk_mul, pk_sub, gd_nI, bnd, c3, J198]
    have e : y6 T b i l = (!decide (b &&& 2 = 0) && !decide (gM T 30 (100 * l + c) = 0)) := by
      unfold y6
      rw [c3, nI_clamp (by omega)]
    rw [e]
    by_cases q1 : b &&& 2 = 0
    · simp [q1, o6]
    · by_cases q2 : gM T 30 (100 * l + c) = 0
      · simp [q1, q2, o6]
      · simp [q1, q2, o6]
  have J144 : ∀ y, f_X8_barsOf_J144 T (nI i) (nI l) b y = some (o7 (y7 T b i l) (o6 (y6 T b i l) (o5 (y5 T nc b i l) y))) := by
    intro y
    simp (disch := omega) only [f_X8_barsOf_J144, bnd, J166, isFellow_T hC hi c1 a1 c3 a3, Option.bind_some, bI_0]
    have e : y5 T nc b i l = (!decide (b &&& 1 = 0) && fel T nc c a l) := by
      unfold y5
      rw [c3, a3, nI_clamp (by omega), nI_clamp (by omega)]
    rw [e]
    by_cases q1 : b &&& 1 = 0
    · simp [q1, o5]
    · cases q2 : fel T nc c a l
      · simp [q1, o5]
      · simp [q1, o5]
  have J112 : ∀ y, f_X8_barsOf_J112 T (nI i) (nI l) b y = some (o7 (y7 T b i l) (o6 (y6 T b i l) (o5 (y5 T nc b i l) (o4 (y4 T i l) y)))) := by
    intro y
    simp (disch := omega) only [f_X8_barsOf_J112, NL0, NL1, NL2, NL3, NL4, NL5, NL6, NL7, NL8, NL9, q_m1, q_m1', q_m1t, q_m1t', q_m1l, q_m1l', nI_clamp, nI_leI, nI_ltI, nI_eq, nI_add, nI_z, pk_mul, pk_sub, gd_nI, bnd, t3, tl2, J144]
    have e : y4 T i l = decide (gM T 10 (10 * tl + t) = -1) := by
      unfold y4
      rw [t3, tl2, nI_clamp (by omega), nI_clamp (by omega)]
    rw [e]
    by_cases q1 : gM T 10 (10 * tl + t) = -1
    · simp [q1, o4]
    · simp [q1, o4]
  have J78 : ∀ y, f_X8_barsOf_J78 T (nI i) (nI l) b y = some (o7 (y7 T b i l) (o6 (y6 T b i l) (o5 (y5 T nc b i l) (o4 (y4 T i l) (o3 (y3 T i l) y))))) := by
    intro y
    rcases g2 with g2 | ⟨v, v1, v2⟩
    · have e : y3 T i l = false := by
        unfold y3
        rw [g2]
        rfl
      simp (disch := omega) only [f_X8_barsOf_J78, NL0, NL1, NL2, NL3, NL4, NL5, NL6, NL7, NL8, NL9, q_m1, q_m1', q_m1t, q_m1t', q_m1l, q_m1l', nI_clamp, nI_leI, nI_ltI, nI_eq, nI_add, nI_z, pk_mul, pk_sub, gd_nI, bnd, g2, J112, e]
      simp [o3]
    · have e : y3 T i l = !bt (gM T 7 l) v := by
        unfold y3
        rw [v2, nI_clamp (by omega), decide_eq_false]
        · rfl
        · simp (disch := omega) only [q_m1, not_false_eq_true]
      simp (disch := omega) only [f_X8_barsOf_J78, NL0, NL1, NL2, NL3, NL4, NL5, NL6, NL7, NL8, NL9, q_m1, q_m1', q_m1t, q_m1t', q_m1l, q_m1l', nI_clamp, nI_leI, nI_ltI, nI_eq, nI_add, nI_z, pk_mul, pk_sub, gd_nI, bnd, v2, J112, hb_eq, bI_0, e]
      cases bt (gM T 7 l) v
      · simp [o3]
      · simp [o3]
  have J36 : ∀ z, f_X8_barsOf_J36 T (nI i) (nI l) b z = some (o7 (y7 T b i l) (o6 (y6 T b i l) (o5 (y5 T nc b i l) (o4 (y4 T i l) (o3 (y3 T i l) (o2 (y2 T i l) z)))))) := by
    intro z
    have e : y2 T i l = !(decide (gM T 9 (1000 * l + d) = 0) && !sk T l d) := by
      unfold y2
      rw [d3, nI_clamp (by omega)]
    simp (disch := omega) only [f_X8_barsOf_J36, f_X8_barsOf_J72, NL0, NL1, NL2, NL3, NL4, NL5, NL6, NL7, NL8, NL9, q_m1, q_m1', q_m1t, q_m1t', q_m1l, q_m1l', nI_clamp, nI_leI, nI_ltI, nI_eq, nI_add, nI_z, pk_mul, pk_sub, gd_nI, bnd, d3, struck_T T (l := l) (d := d) (by omega), Option.bind_some, J78, bI_0, e]
    cases sk T l d
    · by_cases q1 : gM T 9 (1000 * l + d) = 0
      · simp [q1, o2]
      · simp [q1, o2]
    · simp [o2]
  simp (disch := omega) only [f_X8_barsOf, NL0, NL1, NL2, NL3, NL4, NL5, NL6, NL7, NL8, NL9, q_m1, q_m1', q_m1t, q_m1t', q_m1l, q_m1l', nI_clamp, nI_leI, nI_ltI, nI_eq, nI_add, nI_z, pk_mul, pk_sub, gd_nI, now_T hE.1 (gM T 15 i) (x := 10) (r := 10) (by omega) rfl, Option.bind_some, p3, hb_eq, bI_0, hb, J36]
  have e : y1 T i l = !bt (gM T 6 l) p := by
    unfold y1
    rw [p3, nI_clamp (by omega)]
  unfold brs comb
  rw [hb, e]
  cases bt (gM T 6 l) p
  · simp [bI]
  · simp [bI]
theorem reasons_S {ne nc nl : Nat} {S T : St} (hE : RE ne S T) (hP : RP nl S T) (hA : RA S T) (hC : RCs nc nl S T) {i l : Nat} (hi : i < nc) (hl : l < nl) : f_X1_reasonsAgainst S i (nI l) (nw T (gM T 15 i) ne 10) = some (brs T ne nc i l) := by
  have h150 := hC.1
  have h24 := hP.1
  obtain ⟨⟨d, d1, d2, d3⟩, ⟨p, p1, p2, p3⟩, ⟨t, t1, t2, t3⟩, ⟨g1, g2⟩, ⟨c, c1, c2, c3⟩, ⟨a, a1, a2, a3⟩, _⟩ := hC.2.2.2.2.1 i hi
  obtain ⟨⟨tl, tl1, tl2⟩, tl3, tp, tt, _⟩ := hP.2.2.2.1 l hl
  unfold brs
  rw [← comb_S]
  generalize hb : nw T (gM T 15 i) ne 10 = b
  have B52 : ∀ y, f_X1_barsThatHold_J52 S i (nI l) b y = some (p7 (y7 T b i l) y) := by
    intro y
    have e : y7 T b i l = (!decide (b &&& 4 = 0) && decide (gM T 5 l = nI t)) := by
      unfold y7
      rw [t3]
    simp (disch := omega) only [f_X1_barsThatHold_J52, hC.2.1, gn_p, NL0, NL1, NL2, NL3, NL4, NL5, NL6, NL7, NL8, NL9, q_m1, q_m1', q_m1t, q_m1t', q_m1l, q_m1l', nI_clamp, nI_leI, nI_ltI, nI_eq, nI_add, nI_z, pk_mul, pk_sub, gd_nI, bnd, tl3, t2, e]
    by_cases q1 : b &&& 4 = 0
    · simp [q1, p7]
    · by_cases q2 : gM T 5 l = nI t
      · simp [q1, q2, p7]
      · simp [q1, q2, p7]
  have B24 : ∀ y, f_X1_barsThatHold_J24 S i (nI l) b y = some (p7 (y7 T b i l) (p6 (y6 T b i l) y)) := by
    intro y
    have hw := hA.1 l c (by omega) c1
    have e : y6 T b i l = (!decide (b &&& 2 = 0) && bt (gM S 23 c) l) := by
      unfold y6
      rw [c3, nI_clamp (by omega), hw]
      cases bt (gM S 23 c) l
      · simp [bI]
      · simp [bI]
    simp (disch := omega) only [f_X1_barsThatHold_J24, hC.2.1, gn_p, NL0, NL1, NL2, NL3, NL4, NL5, NL6, NL7, NL8, NL9, q_m1, q_m1', q_m1t, q_m1t', q_m1l, q_m1l', nI_clamp, nI_leI, nI_ltI, nI_eq, nI_add, nI_z, pk_mul, pk_sub, gd_nI, bnd, c2, hasBit_eq, Option.bind_some, bI_0, B52, e]
    by_cases q1 : b &&& 2 = 0
    · simp [q1, p6]
    · cases q2 : bt (gM S 23 c) l
      · simp [q1, p6]
      · simp [q1, p6]
  have B0 : f_X1_barsThatHold S i (nI l) b = some (p7 (y7 T b i l) (p6 (y6 T b i l) (bI (y5 T nc b i l)))) := by
    have e : y5 T nc b i l = (!decide (b &&& 1 = 0) && fel T nc c a l) := by
      unfold y5
      rw [c3, a3, nI_clamp (by omega), nI_clamp (by omega)]
    simp (disch := omega) only [f_X1_barsThatHold, hC.2.1, gn_p, bnd, B24, tookFellow_S hC hA hi c1 a1 c2 a2, Option.bind_some, bI_0, e]
    by_cases q1 : b &&& 1 = 0
    · simp [q1, bI]
    · cases q2 : fel T nc c a l
      · simp [q1, bI]
      · simp [q1, bI]
  have J81 : ∀ y, f_X1_reasonsAgainst_J81 S i (nI l) b y = some (y ||| ((p7 (y7 T b i l) (p6 (y6 T b i l) (bI (y5 T nc b i l)))) <<< ((4 : Int32) &&& 31))) := by
    intro y
    simp (disch := omega) only [f_X1_reasonsAgainst_J81, hC.2.1, gn_p, B0, Option.bind_some]
  generalize hh : ((p7 (y7 T b i l) (p6 (y6 T b i l) (bI (y5 T nc b i l)))) <<< ((4 : Int32) &&& 31)) = hold at J81
  have hmin : f_X1_minutesTo S i (nI l) = some (gM T 10 (10 * tl + t)) := by
    have e1 : tl * 10 + t = 10 * tl + t := by omega
    simp (disch := omega) only [f_X1_minutesTo, f_X3_minutesBetween, hC.2.1, gn_p, NL0, NL1, NL2, NL3, NL4, NL5, NL6, NL7, NL8, NL9, q_m1, q_m1', q_m1t, q_m1t', q_m1l, q_m1l', nI_clamp, nI_leI, nI_ltI, nI_eq, nI_add, nI_z, pk_mul, pk_sub, gd_nI, tl3, tl2, t2, Option.bind_some, e1, (hP.2.2.2.2.2.2 (10 * tl + t) (by omega)).1]
  have J64 : ∀ y, f_X1_reasonsAgainst_J64 S i (nI l) b y = some (o4 (y4 T i l) y ||| hold) := by
    intro y
    have e : y4 T i l = decide (gM T 10 (10 * tl + t) = -1) := by
      unfold y4
      rw [t3, tl2, nI_clamp (by omega), nI_clamp (by omega)]
    simp (disch := omega) only [f_X1_reasonsAgainst_J64, hC.2.1, gn_p, hmin, bnd, Option.bind_some, J81, e]
    by_cases q1 : gM T 10 (10 * tl + t) = -1
    · simp [q1, o4]
    · simp [q1, o4]
  have J43 : ∀ y, f_X1_reasonsAgainst_J43 S i (nI l) b y = some (o4 (y4 T i l) (o3 (y3 T i l) y) ||| hold) := by
    intro y
    rcases g2 with g2 | ⟨v, v1, v2⟩
    · have e : y3 T i l = false := by
        unfold y3
        rw [g2]
        rfl
      simp (disch := omega) only [f_X1_reasonsAgainst_J43, f_X3_speaks, hC.2.1, gn_p, g1, g2, bnd, if_true, Option.bind_some, J64, e]
      simp [o3]
    · have e : y3 T i l = !bt (gM T 7 l) v := by
        unfold y3
        rw [v2, nI_clamp (by omega), decide_eq_false]
        · rfl
        · simp (disch := omega) only [q_m1, not_false_eq_true]
      simp (disch := omega) only [f_X1_reasonsAgainst_J43, f_X3_speaks, hC.2.1, gn_p, g1, v2, bnd, NL0, NL1, NL2, NL3, NL4, NL5, NL6, NL7, NL8, NL9, q_m1, q_m1', q_m1t, q_m1t', q_m1l, q_m1l', nI_clamp, nI_leI, nI_ltI, nI_eq, nI_add, nI_z, pk_mul, pk_sub, gd_nI, hasBit_eq, tt, if_false, Option.bind_some, J64, bI_0, e]
      cases bt (gM T 7 l) v
      · simp [o3]
      · simp [o3]
  have J20 : ∀ z, f_X1_reasonsAgainst_J20 S i (nI l) b z = some (o4 (y4 T i l) (o3 (y3 T i l) (o2 (y2 T i l) z)) ||| hold) := by
    intro z
    have e : y2 T i l = !(decide (gM T 9 (1000 * l + d) = 0) && !sk T l d) := by
      unfold y2
      rw [d3, nI_clamp (by omega)]
    simp (disch := omega) only [f_X1_reasonsAgainst_J20, hC.2.1, gn_p, d2, isThere_S hP hl d1, bnd, Option.bind_some, J43, bI_0, e]
    cases (decide (gM T 9 (1000 * l + d) = 0) && !sk T l d)
    · simp [o2]
    · simp [o2]
  simp (disch := omega) only [f_X1_reasonsAgainst, hC.2.1, gn_p, p2, isOn_S hP hl (p := p) (by omega), Option.bind_some, bI_0, J20]
  have e : y1 T i l = !bt (gM T 6 l) p := by
    unfold y1
    rw [p3, nI_clamp (by omega)]
  unfold combS
  rw [hh, e]
  cases bt (gM T 6 l) p
  · simp [bI]
  · simp [bI]
