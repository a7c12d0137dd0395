/-! ===== pure part: bars of a call ===== -/
theorem loop_any {body : Int32 → Option (Int32 ⊕ Int32)} {n : Nat} (p : Nat → Bool) (hn : n < 20000) (hs : ∀ k, k < n → body (nI k) = if p k then some (.inr 1) else some (.inl (nI (k + 1)))) (h0 : body (nI n) = some (.inr 0)) : loopF body FU 0 = some (bI (decide (0 < fb_ct p n))) := by
  apply Ok.eq
  refine loop_ok (fun i s => s = nI i ∧ fb_ct p i = 0) n _ hn ⟨rfl, rfl⟩ ?_
  rintro i s hi ⟨rfl, hc⟩
  rcases Nat.lt_or_ge i n with h | h
  · cases q : p i
    · refine go (s' := nI (i + 1)) (by rw [hs i h, q]; rfl) h ⟨rfl, ?_⟩
      rw [fb_ct_succ, hc, q]
      rfl
    · refine out (r := 1) (by rw [hs i h, q]; rfl) ?_
      rw [decide_eq_true (fb_ct_pos.mpr ⟨i, h, q⟩)]
      rfl
  · have : i = n := by omega
    subst this
    refine out (r := 0) h0 ?_
    rw [hc]
    rfl
/-- what stays of a call, asked or not -/
def RIs (nl : Nat) (S T : St) (i : Nat) : Prop :=
  (∃ v, v < 1000 ∧ gC S i 0 = nI v ∧ gM T 15 i = nI v) ∧ (∃ v, v < 6 ∧ gC S i 1 = nI v ∧ gM T 16 i = nI v) ∧ (∃ v, v < 10 ∧ gC S i 2 = nI v ∧ gM T 17 i = nI v) ∧
  (gC S i 3 = gM T 18 i ∧ (gM T 18 i = -1 ∨ ∃ v, v < 8 ∧ gM T 18 i = nI v)) ∧ (∃ v, v < 100 ∧ gC S i 4 = nI v ∧ gM T 19 i = nI v) ∧ (∃ v, v < 10 ∧ gC S i 5 = nI v ∧ gM T 20 i = nI v) ∧
  (∀ l, l < 24 → gM T 29 (24 * i + l) = bI (bt (gC S i 8) l)) ∧ gC S i 10 = gM T 24 i ∧ (gM T 24 i = -1 ∨ ∃ l, l < nl ∧ gM T 24 i = nI l) ∧ (gC S i 6 = 1 ↔ ¬ gM T 24 i = -1)
def RCs (nc nl : Nat) (S T : St) : Prop := nc ≤ 150 ∧ nC S = nc ∧ gI S 12 = nI nc ∧ gI T 13 = nI nc ∧ (∀ i, i < nc → RIs nl S T i) ∧ (∀ l, l < 24 → gM S 14 l = nI (tkn T nc l))
theorem RI.s {nl : Nat} {S T : St} {i : Nat} (h24 : nl ≤ 24) (h : RI nl S T i) : RIs nl S T i := by
  obtain ⟨h1, h2, h3, h4, h5, h6, h7, h8, h9, h10, h11, h12⟩ := h
  have h0 : ¬ (0 : Int32) = 1 := by decide
  have h2' : ¬ (2 : Int32) = 1 := by decide
  refine ⟨h1, h2, h3, h4, h5, h6, h8, h10, ?_, ?_⟩
  · rcases h12 with ⟨a, b, _⟩ | ⟨a, b, _⟩ | ⟨a, b, c, _⟩
    · exact Or.inl b
    · exact Or.inl b
    · exact Or.inr c
  · rw [h7]
    rcases h12 with ⟨a, b, _⟩ | ⟨a, b, _⟩ | ⟨a, b, ⟨l, c1, c2⟩, _⟩
    · rw [a, b]
      exact ⟨fun z => absurd z h0, fun z => absurd rfl z⟩
    · rw [a, b]
      exact ⟨fun z => absurd z h2', fun z => absurd rfl z⟩
    · rw [a, c2]
      refine ⟨fun _ => ?_, fun _ => rfl⟩
      simp (disch := omega) only [q_m1, not_false_eq_true]
theorem RC.s {nc nl : Nat} {S T : St} (h24 : nl ≤ 24) (h : RC nc nl S T) : RCs nc nl S T := ⟨h.1, h.2.1, h.2.2.1, h.2.2.2.1, fun i hi => (h.2.2.2.2.1 i hi).s h24, h.2.2.2.2.2⟩
/-- a fellow's call k that bars -/
def felK (T : St) (c a l k : Nat) : Bool := decide (gM T 24 k = nI l) && (decide (gM T 19 k = nI c) && (!decide (gM T 20 k = nI a) && (decide (gM T 31 (10 * c + a) = 0) && decide (gM T 31 (10 * c + (gM T 20 k).toNatClampNeg) = 0))))
def fel (T : St) (nc c a l : Nat) : Bool := decide (0 < fb_ct (felK T c a l) nc)
theorem isFellow_T {nc nl : Nat} {S T : St} (hC : RCs nc nl S T) {i l c a : Nat} (hi : i < nc) (hc : c < 100) (ha : a < 10) (h19 : gM T 19 i = nI c) (h20 : gM T 20 i = nI a) : f_X8_isFellow T (nI i) (nI l) = some (bI (fel T nc c a l)) := by
  have h150 := hC.1
  simp (disch := omega) only [f_X8_isFellow, q_ll, q_ln, q_tl, q_tn, q_en, q_el, q_mul, q_mul', q_add, q_add', q_sub, q_m1, q_m1', q_m1t, q_m1t', q_m1l, q_m1l', q_cl, nI_clamp, nI_leI, nI_ltI, nI_eq, nI_add, pk_mul, pk_sub, q_z, q_z', gd_nI, gd_l, bnd, h19, h20]
  refine loop_any (felK T c a l) (by omega) ?_ ?_
  · intro k hk
    obtain ⟨_, _, _, _, ⟨c', c1, c2, c3⟩, ⟨a', a1, a2, a3⟩, _⟩ := hC.2.2.2.2.1 k hk
    simp (disch := omega) only [f_X8_isFellow_L20, hC.2.2.2.1, q_ll, q_ln, q_tl, q_tn, q_en, q_el, q_mul, q_mul', q_add, q_add', q_sub, q_m1, q_m1', q_m1t, q_m1t', q_m1l, q_m1l', q_cl, nI_clamp, nI_leI, nI_ltI, nI_eq, nI_add, pk_mul, pk_sub, q_z, q_z', gd_nI, gd_l, bnd, h19, h20, c3, a3, felK]
    rw [if_neg (by omega)]
    by_cases q1 : gM T 24 k = nI l
    · simp only [q1, if_true, decide_true, Bool.true_and]
      by_cases q2 : c' = c
      · subst q2
        simp only [if_true, decide_true, Bool.true_and]
        by_cases q3 : a' = a
        · simp only [q3, if_true, decide_true, Bool.not_true, Bool.false_and, Bool.false_eq_true, if_false]
        · simp only [q3, if_false, decide_false, Bool.not_false, Bool.true_and]
          by_cases q4 : gM T 31 (10 * c' + a) = 0
          · simp only [q4, if_true, decide_true, Bool.true_and]
            by_cases q5 : gM T 31 (10 * c' + a') = 0
            · simp only [q5, if_true, decide_true]
            · simp only [q5, if_false, decide_false, Bool.false_eq_true]
          · simp only [q4, if_false, decide_false, Bool.false_and, Bool.false_eq_true]
      · simp only [q2, if_false, decide_false, Bool.false_and, Bool.false_eq_true]
    · simp only [q1, if_false, decide_false, Bool.false_and, Bool.false_eq_true]
  · simp (disch := omega) only [f_X8_isFellow_L20, hC.2.2.2.1, nI_leI]
    rw [if_pos (Nat.le_refl _)]
theorem tookFellow_S {nc nl : Nat} {S T : St} (hC : RCs nc nl S T) (hA : RA S T) {i l c a : Nat} (hi : i < nc) (hc : c < 100) (ha : a < 10) (h4 : gC S i 4 = nI c) (h5 : gC S i 5 = nI a) : f_X1_tookFellow S i (nI l) = some (bI (fel T nc c a l)) := by
  have h150 := hC.1
  have hw := hA.2 c a hc ha
  simp (disch := omega) only [f_X1_tookFellow, hC.2.1, gn_p, q_ll, q_ln, q_tl, q_tn, q_en, q_el, q_mul, q_mul', q_add, q_add', q_sub, q_m1, q_m1', q_m1t, q_m1t', q_m1l, q_m1l', q_cl, nI_clamp, nI_leI, nI_ltI, nI_eq, nI_add, pk_mul, pk_sub, q_z, q_z', gd_nI, gd_l, bnd, h4, h5, hasBit_eq, Option.bind_some, bI_0]
  cases q : bt (gM S 24 c) a
  · rw [if_pos rfl]
    refine loop_any (felK T c a l) (by omega) ?_ ?_
    · intro k hk
      obtain ⟨_, _, _, _, ⟨c', c1, c2, c3⟩, ⟨a', a1, a2, a3⟩, _, t1, _, _⟩ := hC.2.2.2.2.1 k hk
      have hw' := hA.2 c a' hc a1
      simp (disch := omega) only [f_X1_tookFellow_L26, f_X0_isFellowOf, hC.2.1, gn_p, hC.2.2.1, q_ll, q_ln, q_tl, q_tn, q_en, q_el, q_mul, q_mul', q_add, q_add', q_sub, q_m1, q_m1', q_m1t, q_m1t', q_m1l, q_m1l', q_cl, nI_clamp, nI_leI, nI_ltI, nI_eq, nI_add, pk_mul, pk_sub, q_z, q_z', gd_nI, gd_l, bnd, h4, h5, c2, a2, t1, c3, a3, felK, hasBit_eq, hw, hw', q, bI_0, decide_true, Bool.true_and]
      rw [if_neg (by omega)]
      by_cases q1 : gM T 24 k = nI l
      · simp only [q1, if_true, decide_true, Bool.true_and]
        by_cases q2 : c' = c
        · simp only [q2, if_true, decide_true, Bool.true_and]
          by_cases q3 : a' = a
          · simp only [q3, if_true, Option.bind_some, decide_true, Bool.not_true, Bool.false_and, Bool.false_eq_true, if_false]
          · simp only [q3, if_false, Option.bind_some, decide_false, Bool.not_false, Bool.true_and]
            rw [if_neg (by decide)]
            cases bt (gM S 24 c) a' <;> rfl
        · simp only [q2, if_false, Option.bind_some, if_true, decide_false, Bool.false_and, Bool.false_eq_true]
      · simp only [q1, if_false, decide_false, Bool.false_and, Bool.false_eq_true]
    · simp (disch := omega) only [f_X1_tookFellow_L26, hC.2.2.1, nI_leI]
      rw [if_pos (Nat.le_refl _)]
  · rw [if_neg (by decide)]
    have : fel T nc c a l = false := by
      unfold fel
      rw [decide_eq_false_iff_not]
      intro z
      obtain ⟨k, _, z2⟩ := fb_ct_pos.mp z
      unfold felK at z2
      rw [hw, q] at z2
      simp [bI] at z2
    rw [this]
    rfl
/-- the seven reasons as one number, in the order of the reference -/
def comb (x1 x2 x3 x4 x5 x6 x7 : Bool) : Int32 :=
  let n0 : Int32 := if x1 then 1 else 0
  let n1 := if x2 then n0 ||| 2 else n0
  let n2 := if x3 then n1 ||| 4 else n1
  let n3 := if x4 then n2 ||| 8 else n2
  let n4 := if x5 then n3 ||| 16 else n3
  let n5 := if x6 then n4 ||| 32 else n4
  if x7 then n5 ||| 64 else n5
def combS (x1 x2 x3 x4 x5 x6 x7 : Bool) : Int32 :=
  let n0 : Int32 := if x1 then 1 else 0
  let n1 := if x2 then n0 ||| 2 else n0
  let n2 := if x3 then n1 ||| 4 else n1
  let n3 := if x4 then n2 ||| 8 else n2
  let h0 : Int32 := if x5 then 0 ||| 1 else 0
  let h1 := if x6 then h0 ||| 2 else h0
  let h2 := if x7 then h1 ||| 4 else h1
  n3 ||| (h2 <<< ((4 : Int32) &&& 31))
theorem comb_S : ∀ x1 x2 x3 x4 x5 x6 x7, combS x1 x2 x3 x4 x5 x6 x7 = comb x1 x2 x3 x4 x5 x6 x7 := by decide +kernel
def y1 (T : St) (i l : Nat) : Bool := !bt (gM T 6 l) (gM T 16 i).toNatClampNeg
def y2 (T : St) (i l : Nat) : Bool := !(decide (gM T 9 (1000 * l + (gM T 15 i).toNatClampNeg) = 0) && !sk T l (gM T 15 i).toNatClampNeg)
def y3 (T : St) (i l : Nat) : Bool := !decide (gM T 18 i = -1) && !bt (gM T 7 l) (gM T 18 i).toNatClampNeg
def y4 (T : St) (i l : Nat) : Bool := decide (gM T 10 (10 * (gM T 5 l).toNatClampNeg + (gM T 17 i).toNatClampNeg) = -1)
def y5 (T : St) (nc : Nat) (b : Int32) (i l : Nat) : Bool := !decide (b &&& 1 = 0) && fel T nc (gM T 19 i).toNatClampNeg (gM T 20 i).toNatClampNeg l
def y6 (T : St) (b : Int32) (i l : Nat) : Bool := !decide (b &&& 2 = 0) && !decide (gM T 30 (100 * l + (gM T 19 i).toNatClampNeg) = 0)
def y7 (T : St) (b : Int32) (i l : Nat) : Bool := !decide (b &&& 4 = 0) && decide (gM T 5 l = gM T 17 i)
/-- why a lawyer may not be asked -/
def brs (T : St) (ne nc i l : Nat) : Int32 := comb (y1 T i l) (y2 T i l) (y3 T i l) (y4 T i l) (y5 T nc (nw T (gM T 15 i) ne 10) i l) (y6 T (nw T (gM T 15 i) ne 10) i l) (y7 T (nw T (gM T 15 i) ne 10) i l)
theorem bars_T {ne nc nl : Nat} {S T : St} (hE : RE ne S T) (hP : RP nl S T) (hC : RCs nc nl S T) {i l : Nat} (hi : i < nc) (hl : l < nl) : f_X8_barsOf T (nI i) (nI l) = some (brs T ne nc i l) := by
  have h150 := hC.1
  have h24 := hP.1
  obtain ⟨⟨d, d1, d2, d3⟩, ⟨p, p1, p2, p3⟩, ⟨t, t1, t2, t3⟩, ⟨g1, g2⟩, ⟨c, c1, c2, c3⟩, ⟨a, a1, a2, a3⟩, _⟩ := hC.2.2.2.2.1 i hi
  obtain ⟨⟨tl, tl1, tl2⟩, _⟩ := hP.2.2.2.1 l hl
  generalize hb : nw T (gM T 15 i) ne 10 = b
  have J198 : ∀ y, f_X8_barsOf_J198 T (nI i) (nI l) b y = some (if y7 T b i l then y ||| 64 else y) := by
    intro y
    simp (disch := omega) only [f_X8_barsOf_J198, q_ll, q_ln, q_tl, q_tn, q_en, q_el, q_mul, q_mul', q_add, q_add', q_sub, q_m1, q_m1', q_m1t, q_m1t', q_m1l, q_m1l', q_cl, nI_clamp, nI_leI, nI_ltI, nI_eq, nI_add, pk_mul, pk_sub, q_z, q_z', gd_nI, gd_l, bnd, y7]
    by_cases q1 : b &&& 4 = 0
    · simp [q1]
    · by_cases q2 : gM T 5 l = gM T 17 i
      · simp [q1, q2]
      · simp [q1, q2]
  have J166 : ∀ y, f_X8_barsOf_J166 T (nI i) (nI l) b y = some (let n5 := if y6 T b i l then y ||| 32 else y; if y7 T b i l then n5 ||| 64 else n5) := by
    intro y
    simp (disch := omega) only [f_X8_barsOf_J166, q_ll, q_ln, q_tl, q_tn, q_en, q_el, q_mul, q_mul', q_add, q_add', q_sub, q_m1, q_m1', q_m1t, q_m1t', q_m1l, q_m1l', q_cl, nI_clamp, nI_leI, nI_ltI, nI_eq, nI_add, pk_mul, pk_sub, q_z, q_z', gd_nI, gd_l, bnd, y6, c3, J198]
    by_cases q1 : b &&& 2 = 0
    · simp [q1]
    · by_cases q2 : gM T 30 (100 * l + c) = 0
      · simp [q1, q2]
      · simp [q1, q2]
  have J144 : ∀ y, f_X8_barsOf_J144 T (nI i) (nI l) b y = some (let n4 := if y5 T nc b i l then y ||| 16 else y; let n5 := if y6 T b i l then n4 ||| 32 else n4; if y7 T b i l then n5 ||| 64 else n5) := by
    intro y
    simp (disch := omega) only [f_X8_barsOf_J144, bnd, y5, c3, a3, nI_clamp, J166, isFellow_T hC hi c1 a1 c3 a3, Option.bind_some, bI_0]
    by_cases q1 : b &&& 1 = 0
    · simp [q1]
    · cases q2 : fel T nc c a l
      · simp [q1]
      · simp [q1]
  have J112 : ∀ y, f_X8_barsOf_J112 T (nI i) (nI l) b y = some (let n3 := if y4 T i l then y ||| 8 else y; let n4 := if y5 T nc b i l then n3 ||| 16 else n3; let n5 := if y6 T b i l then n4 ||| 32 else n4; if y7 T b i l then n5 ||| 64 else n5) := by
    intro y
    simp (disch := omega) only [f_X8_barsOf_J112, q_ll, q_ln, q_tl, q_tn, q_en, q_el, q_mul, q_mul', q_add, q_add', q_sub, q_m1, q_m1', q_m1t, q_m1t', q_m1l, q_m1l', q_cl, nI_clamp, nI_leI, nI_ltI, nI_eq, nI_add, pk_mul, pk_sub, q_z, q_z', gd_nI, gd_l, bnd, y4, t3, tl2, J144]
    by_cases q1 : gM T 10 (10 * tl + t) = -1
    · simp [q1]
    · simp [q1]
  have J78 : ∀ y, f_X8_barsOf_J78 T (nI i) (nI l) b y = some (let n2 := if y3 T i l then y ||| 4 else y; let n3 := if y4 T i l then n2 ||| 8 else n2; let n4 := if y5 T nc b i l then n3 ||| 16 else n3; let n5 := if y6 T b i l then n4 ||| 32 else n4; if y7 T b i l then n5 ||| 64 else n5) := by
    intro y
    rcases g2 with g2 | ⟨v, v1, v2⟩
    · simp (disch := omega) only [f_X8_barsOf_J78, q_ll, q_ln, q_tl, q_tn, q_en, q_el, q_mul, q_mul', q_add, q_add', q_sub, q_m1, q_m1', q_m1t, q_m1t', q_m1l, q_m1l', q_cl, nI_clamp, nI_leI, nI_ltI, nI_eq, nI_add, pk_mul, pk_sub, q_z, q_z', gd_nI, gd_l, bnd, y3, g2, J112]
      simp
    · simp (disch := omega) only [f_X8_barsOf_J78, q_ll, q_ln, q_tl, q_tn, q_en, q_el, q_mul, q_mul', q_add, q_add', q_sub, q_m1, q_m1', q_m1t, q_m1t', q_m1l, q_m1l', q_cl, nI_clamp, nI_leI, nI_ltI, nI_eq, nI_add, pk_mul, pk_sub, q_z, q_z', gd_nI, gd_l, bnd, y3, v2, J112, hb_eq, bI_0]
      cases bt (gM T 7 l) v
      · simp
      · simp
  have J36 : ∀ z, f_X8_barsOf_J36 T (nI i) (nI l) b z = some (let n1 := if y2 T i l then z ||| 2 else z; let n2 := if y3 T i l then n1 ||| 4 else n1; let n3 := if y4 T i l then n2 ||| 8 else n2; let n4 := if y5 T nc b i l then n3 ||| 16 else n3; let n5 := if y6 T b i l then n4 ||| 32 else n4; if y7 T b i l then n5 ||| 64 else n5) := by
    intro z
    simp (disch := omega) only [f_X8_barsOf_J36, f_X8_barsOf_J72, q_ll, q_ln, q_tl, q_tn, q_en, q_el, q_mul, q_mul', q_add, q_add', q_sub, q_m1, q_m1', q_m1t, q_m1t', q_m1l, q_m1l', q_cl, nI_clamp, nI_leI, nI_ltI, nI_eq, nI_add, pk_mul, pk_sub, q_z, q_z', gd_nI, gd_l, bnd, y2, d3, struck_T T (l := l) (d := d) (by omega), Option.bind_some, J78, bI_0]
    cases sk T l d
    · by_cases q1 : gM T 9 (1000 * l + d) = 0
      · simp [q1]
      · simp [q1]
    · simp
  simp (disch := omega) only [f_X8_barsOf, q_ll, q_ln, q_tl, q_tn, q_en, q_el, q_mul, q_mul', q_add, q_add', q_sub, q_m1, q_m1', q_m1t, q_m1t', q_m1l, q_m1l', q_cl, nI_clamp, nI_leI, nI_ltI, nI_eq, nI_add, pk_mul, pk_sub, q_z, q_z', gd_nI, gd_l, now_T hE.1 (gM T 15 i) (x := 10) (r := 10) (by omega) rfl, Option.bind_some, p3, hb_eq, bI_0, hb, J36]
  unfold brs comb y1
  rw [hb, p3, nI_clamp (by omega)]
  cases bt (gM T 6 l) p
  · simp
  · simp
theorem reasons_S {ne nc nl : Nat} {S T : St} (hE : RE ne S T) (hP : RP nl S T) (hA : RA S T) (hC : RCs nc nl S T) {i l : Nat} (hi : i < nc) (hl : l < nl) : f_X1_reasonsAgainst S i (nI l) (nw T (gM T 15 i) ne 10) = some (brs T ne nc i l) := by
  have h150 := hC.1
  have h24 := hP.1
  obtain ⟨⟨d, d1, d2, d3⟩, ⟨p, p1, p2, p3⟩, ⟨t, t1, t2, t3⟩, ⟨g1, g2⟩, ⟨c, c1, c2, c3⟩, ⟨a, a1, a2, a3⟩, _⟩ := hC.2.2.2.2.1 i hi
  obtain ⟨⟨tl, tl1, tl2⟩, tl3, tp, tt, _⟩ := hP.2.2.2.1 l hl
  unfold brs
  rw [← comb_S]
  generalize hb : nw T (gM T 15 i) ne 10 = b
  have B52 : ∀ y, f_X1_barsThatHold_J52 S i (nI l) b y = some (if y7 T b i l then y ||| 4 else y) := by
    intro y
    simp (disch := omega) only [f_X1_barsThatHold_J52, hC.2.1, gn_p, q_ll, q_ln, q_tl, q_tn, q_en, q_el, q_mul, q_mul', q_add, q_add', q_sub, q_m1, q_m1', q_m1t, q_m1t', q_m1l, q_m1l', q_cl, nI_clamp, nI_leI, nI_ltI, nI_eq, nI_add, pk_mul, pk_sub, q_z, q_z', gd_nI, gd_l, bnd, y7, tl3, t2, t3]
    by_cases q1 : b &&& 4 = 0
    · simp [q1]
    · by_cases q2 : gM T 5 l = nI t
      · simp [q1, q2]
      · simp [q1, q2]
  have B24 : ∀ y, f_X1_barsThatHold_J24 S i (nI l) b y = some (let h1 := if y6 T b i l then y ||| 2 else y; if y7 T b i l then h1 ||| 4 else h1) := by
    intro y
    have hw := hA.1 l c (by omega) c1
    simp (disch := omega) only [f_X1_barsThatHold_J24, hC.2.1, gn_p, q_ll, q_ln, q_tl, q_tn, q_en, q_el, q_mul, q_mul', q_add, q_add', q_sub, q_m1, q_m1', q_m1t, q_m1t', q_m1l, q_m1l', q_cl, nI_clamp, nI_leI, nI_ltI, nI_eq, nI_add, pk_mul, pk_sub, q_z, q_z', gd_nI, gd_l, bnd, y6, c2, c3, hasBit_eq, Option.bind_some, bI_0, B52, hw]
    by_cases q1 : b &&& 2 = 0
    · simp [q1]
    · cases q2 : bt (gM S 23 c) l
      · simp [q1]
      · simp [q1]
  have B0 : f_X1_barsThatHold S i (nI l) b = some (let h0 : Int32 := if y5 T nc b i l then 0 ||| 1 else 0; let h1 := if y6 T b i l then h0 ||| 2 else h0; if y7 T b i l then h1 ||| 4 else h1) := by
    simp (disch := omega) only [f_X1_barsThatHold, hC.2.1, gn_p, bnd, y5, c3, a3, nI_clamp, B24, tookFellow_S hC hA hi c1 a1 c2 a2, Option.bind_some, bI_0]
    by_cases q1 : b &&& 1 = 0
    · simp [q1]
    · cases q2 : fel T nc c a l
      · simp [q1]
      · simp [q1]
  have J81 : ∀ y, f_X1_reasonsAgainst_J81 S i (nI l) b y = some (let h0 : Int32 := if y5 T nc b i l then 0 ||| 1 else 0; let h1 := if y6 T b i l then h0 ||| 2 else h0; let h2 := if y7 T b i l then h1 ||| 4 else h1; y ||| (h2 <<< ((4 : Int32) &&& 31))) := by
    intro y
    simp (disch := omega) only [f_X1_reasonsAgainst_J81, hC.2.1, gn_p, B0, Option.bind_some]
  have hmin : f_X1_minutesTo S i (nI l) = some (gM T 10 (10 * tl + t)) := by
    have e1 : tl * 10 + t = 10 * tl + t := by omega
    simp (disch := omega) only [f_X1_minutesTo, f_X3_minutesBetween, hC.2.1, gn_p, q_ll, q_ln, q_tl, q_tn, q_en, q_el, q_mul, q_mul', q_add, q_add', q_sub, q_m1, q_m1', q_m1t, q_m1t', q_m1l, q_m1l', q_cl, nI_clamp, nI_leI, nI_ltI, nI_eq, nI_add, pk_mul, pk_sub, q_z, q_z', gd_nI, gd_l, tl3, tl2, t2, Option.bind_some, e1, (hP.2.2.2.2.2.2 (10 * tl + t) (by omega)).1]
  have J64 : ∀ y, f_X1_reasonsAgainst_J64 S i (nI l) b y = some (let n3 := if y4 T i l then y ||| 8 else y; let h0 : Int32 := if y5 T nc b i l then 0 ||| 1 else 0; let h1 := if y6 T b i l then h0 ||| 2 else h0; let h2 := if y7 T b i l then h1 ||| 4 else h1; n3 ||| (h2 <<< ((4 : Int32) &&& 31))) := by
    intro y
    simp (disch := omega) only [f_X1_reasonsAgainst_J64, hC.2.1, gn_p, hmin, bnd, Option.bind_some, J81, y4, t3, tl2, nI_clamp]
    by_cases q1 : gM T 10 (10 * tl + t) = -1
    · simp [q1]
    · simp [q1]
  have J43 : ∀ y, f_X1_reasonsAgainst_J43 S i (nI l) b y = some (let n2 := if y3 T i l then y ||| 4 else y; let n3 := if y4 T i l then n2 ||| 8 else n2; let h0 : Int32 := if y5 T nc b i l then 0 ||| 1 else 0; let h1 := if y6 T b i l then h0 ||| 2 else h0; let h2 := if y7 T b i l then h1 ||| 4 else h1; n3 ||| (h2 <<< ((4 : Int32) &&& 31))) := by
    intro y
    rcases g2 with g2 | ⟨v, v1, v2⟩
    · simp (disch := omega) only [f_X1_reasonsAgainst_J43, f_X3_speaks, hC.2.1, gn_p, g1, g2, bnd, if_true, Option.bind_some, J64, y3]
      simp
    · simp (disch := omega) only [f_X1_reasonsAgainst_J43, f_X3_speaks, hC.2.1, gn_p, g1, v2, bnd, q_ll, q_ln, q_tl, q_tn, q_en, q_el, q_mul, q_mul', q_add, q_add', q_sub, q_m1, q_m1', q_m1t, q_m1t', q_m1l, q_m1l', q_cl, nI_clamp, nI_leI, nI_ltI, nI_eq, nI_add, pk_mul, pk_sub, q_z, q_z', gd_nI, gd_l, hasBit_eq, tt, if_false, Option.bind_some, J64, y3, bI_0]
      cases bt (gM T 7 l) v
      · simp
      · simp
  have J20 : ∀ z, f_X1_reasonsAgainst_J20 S i (nI l) b z = some (let n1 := if y2 T i l then z ||| 2 else z; let n2 := if y3 T i l then n1 ||| 4 else n1; let n3 := if y4 T i l then n2 ||| 8 else n2; let h0 : Int32 := if y5 T nc b i l then 0 ||| 1 else 0; let h1 := if y6 T b i l then h0 ||| 2 else h0; let h2 := if y7 T b i l then h1 ||| 4 else h1; n3 ||| (h2 <<< ((4 : Int32) &&& 31))) := by
    intro z
    simp (disch := omega) only [f_X1_reasonsAgainst_J20, hC.2.1, gn_p, d2, isThere_S hP hl d1, bnd, Option.bind_some, J43, y2, d3, nI_clamp, bI_0]
    cases (decide (gM T 9 (1000 * l + d) = 0) && !sk T l d)
    · simp
    · simp
  simp (disch := omega) only [f_X1_reasonsAgainst, hC.2.1, gn_p, p2, isOn_S hP hl (p := p) (by omega), Option.bind_some, bI_0, J20]
  unfold combS y1
  rw [p3, nI_clamp (by omega)]
  cases bt (gM T 6 l) p
  · simp
  · simp
