/-! ===== pure part: who is asked next ===== -/
def ask (T : St) (ne nc i l : Nat) : Bool := decide (gM T 29 (24 * i + l) = 0) && decide (brs T ne nc i l = 0)
theorem mayAsk_T {ne nc nl : Nat} {S T : St} (hE : RE ne S T) (hP : RP nl S T) (hC : RCs nc nl S T) {i l : Nat} (hi : i < nc) (hl : l < nl) : f_X8_mayAsk T (nI i) (nI l) = some (bI (ask T ne nc i l)) := by
  have h150 := hC.1
  have h24 := hP.1
  simp (disch := omega) only [f_X8_mayAsk, NL0, NL1, NL2, NL3, NL4, NL5, NL6, NL7, NL8, NL9, q_m1, q_m1', q_m1t, q_m1t', q_m1l, q_m1l', nI_clamp, nI_leI, nI_ltI, nI_eq, nI_add, nI_z, pk_mul, pk_sub, gd_nI, bars_T hE hP hC hi hl, Option.bind_some, ask]
  by_cases q1 : gM T 29 (24 * i + l) = 0
  · by_cases q2 : brs T ne nc i l = 0
    · simp [q1, q2, bI]
    · simp [q1, q2, bI]
  · simp [q1, bI]
theorem who_S {ne nc nl : Nat} {S T : St} (hE : RE ne S T) (hP : RP nl S T) (hA : RA S T) (hC : RCs nc nl S T) {i : Nat} (hi : i < nc) : Ok (f_X1_whoMayBeAsked S i (nw T (gM T 15 i) ne 10)) (fun r => ∀ l, l < 32 → bt r l = (decide (l < nl) && ask T ne nc i l)) := by
  have h150 := hC.1
  have h24 := hP.1
  have hb := (hC.2.2.2.2.1 i hi).2.2.2.2.2.2.1
  simp only [f_X1_whoMayBeAsked, hC.2.1, gn_p hi]
  refine loop_ok (fun j s => ∃ r, s = (r, nI j) ∧ ∀ l, l < 32 → bt r l = (decide (l < j) && ask T ne nc i l)) nl _ (by omega) ⟨0, rfl, fun l _ => by rw [b_0, decide_eq_false (by omega)]; rfl⟩ ?_
  rintro j s hj ⟨r, rfl, hr⟩
  rcases Nat.lt_or_ge j nl with h | h
  · have h1 := hb j (by omega)
    have e : f_X1_whoMayBeAsked_L5 S i (nw T (gM T 15 i) ne 10) (r, nI j) = if ask T ne nc i j then some (.inl (r ||| ((1 : Int32) <<< (nI j &&& 31)), nI (j + 1))) else some (.inl (r, nI (j + 1))) := by
      simp (disch := omega) only [f_X1_whoMayBeAsked_L5, hP.2.1, nI_leI, hasBit_eq, Option.bind_some, bI_0, reasons_S hE hP hA hC hi h, bnd, nI_1, ask, h1]
      rw [if_neg (by omega)]
      cases bt (gC S i 8) j
      · by_cases q : brs T ne nc i j = 0
        · simp [q]
        · simp [q]
      · simp
    cases q : ask T ne nc i j
    · refine go (s' := (r, nI (j + 1))) (by rw [e, q]; rfl) h ⟨r, rfl, fun l hl => ?_⟩
      rw [hr l hl]
      by_cases z : l = j
      · subst z
        rw [q]
        simp
      · have : decide (l < j) = decide (l < j + 1) := by
          exact decide_eq_decide.mpr ⟨fun _ => by omega, fun _ => by omega⟩
        rw [this]
    · refine go (s' := (r ||| ((1 : Int32) <<< (nI j &&& 31)), nI (j + 1))) (by rw [e, q]; rfl) h ⟨_, rfl, fun l hl => ?_⟩
      rw [bt_set r (by omega) hl, hr l hl]
      by_cases z : l = j
      · subst z
        rw [q]
        simp
      · have : decide (l < j) = decide (l < j + 1) := by
          exact decide_eq_decide.mpr ⟨fun _ => by omega, fun _ => by omega⟩
        rw [this]
        simp [z]
  · have : j = nl := by omega
    subst this
    refine out (r := r) ?_ hr
    simp (disch := omega) only [f_X1_whoMayBeAsked_L5, hP.2.1, nI_leI]
    rw [if_pos (Nat.le_refl _)]
/-- a loop down -/
theorem m1_add (j : Nat) : nI j + (-1) = nI j - 1 := by
  apply Int32.toBitVec_inj.mp
  show (nI j).toBitVec + (-1 : Int32).toBitVec = (nI j).toBitVec - (1 : Int32).toBitVec
  rw [BitVec.sub_eq_add_neg]
  rfl
theorem loop_dnF {ρ : Type} {body : Int32 → Option (Int32 ⊕ ρ)} (R : Nat → ρ) (h0 : body (-1) = some (.inr (R 0))) : ∀ (n F : Nat), n < F → (∀ j, j < n → body (nI j) = some (.inr (R (j + 1))) ∨ (body (nI j) = some (.inl (nI j + (-1))) ∧ R (j + 1) = R j)) → loopF body F (nI n - 1) = some (R n)
  | _, 0, h, _ => absurd h (by omega)
  | 0, F + 1, _, _ => by
    have e : nI 0 - 1 = -1 := by decide
    rw [e]
    simp only [loopF, h0]
  | n + 1, F + 1, h, hs => by
    rw [nI_pred]
    rcases hs n (by omega) with g | ⟨g1, g2⟩
    · simp only [loopF, g]
    · simp only [loopF, g1]
      rw [m1_add, g2]
      exact loop_dnF R h0 n F (by omega) (fun j hj => hs j (by omega))
/-- who took the latest call before for the same -/
def erl (T : St) (c a : Nat) : Nat → Int32
  | 0 => -1
  | j + 1 => if ¬ gM T 24 j = -1 ∧ gM T 19 j = nI c ∧ gM T 20 j = nI a then gM T 24 j else erl T c a j
theorem erl_or {nc nl : Nat} {S T : St} (hC : RCs nc nl S T) (c a : Nat) : ∀ n, n ≤ nc → erl T c a n = -1 ∨ ∃ l, l < nl ∧ erl T c a n = nI l
  | 0, _ => Or.inl rfl
  | n + 1, h => by
    unfold erl
    split
    · exact (hC.2.2.2.2.1 n (by omega)).2.2.2.2.2.2.2.2.1
    · exact erl_or hC c a n (by omega)
theorem earlier_T {nc nl : Nat} {S T : St} (hC : RCs nc nl S T) {i c a : Nat} (hi : i < nc) (hc : c < 100) (ha : a < 10) (h19 : gM T 19 i = nI c) (h20 : gM T 20 i = nI a) : f_X8_earlier T (nI i) = some (erl T c a i) := by
  have h150 := hC.1
  simp only [f_X8_earlier, bnd]
  refine loop_dnF (erl T c a) ?_ i FU (by unfold FU; omega) ?_
  · rfl
  · intro j hj
    simp (disch := omega) only [f_X8_earlier_L4, NL0, NL1, NL2, NL3, NL4, NL5, NL6, NL7, NL8, NL9, q_m1, q_m1', q_m1t, q_m1t', q_m1l, q_m1l', nI_clamp, nI_leI, nI_ltI, nI_eq, nI_add, nI_z, pk_mul, pk_sub, gd_nI, bnd, h19, h20, erl, if_false]
    by_cases q1 : gM T 24 j = -1
    · right
      simp [q1]
    · by_cases q2 : gM T 19 j = nI c
      · by_cases q3 : gM T 20 j = nI a
        · left
          simp [q1, q2, q3]
        · right
          simp [q1, q2, q3]
      · right
        simp [q1, q2]
theorem before_S {nc nl : Nat} {S T : St} (hC : RCs nc nl S T) {i c a : Nat} (hi : i < nc) (h4 : gC S i 4 = nI c) (h5 : gC S i 5 = nI a) : f_X1_takerBefore S (nI i) = some (erl T c a i) := by
  have h150 := hC.1
  simp only [f_X1_takerBefore, bnd]
  refine loop_dnF (erl T c a) ?_ i FU (by unfold FU; omega) ?_
  · rfl
  · intro j hj
    obtain ⟨_, _, _, _, ⟨c', c1, c2, c3⟩, ⟨a', a1, a2, a3⟩, _, t1, t2, t3⟩ := hC.2.2.2.2.1 j (by omega)
    simp (disch := omega) only [f_X1_takerBefore_L4, f_X0_isForSame, hC.2.1, gn_p, NL0, NL1, NL2, NL3, NL4, NL5, NL6, NL7, NL8, NL9, q_m1, q_m1', q_m1t, q_m1t', q_m1l, q_m1l', nI_clamp, nI_leI, nI_ltI, nI_eq, nI_add, nI_z, pk_mul, pk_sub, gd_nI, bnd, h4, h5, c2, a2, c3, a3, erl, if_false, t1, t3]
    by_cases q1 : gM T 24 j = -1
    · right
      simp [q1]
    · by_cases q2 : nI c' = nI c
      · by_cases q3 : nI a' = nI a
        · left
          simp [q1, q2, q3]
        · right
          simp [q1, q2, q3]
      · right
        simp [q1, q2]
/-! duties up to a day -/
theorem c6_one {nl : Nat} {T : St} (hD : RD nl T) {l d : Nat} (hl : l < 24) (hd' : d < 1000) : c6 T l d = if hd T l d then 1 else 0 := by
  cases q : hd T l d
  · unfold hd at q
    rw [decide_eq_false_iff_not] at q
    simp only [Bool.false_eq_true, if_false]
    omega
  · obtain ⟨p, hp, e⟩ := (hd_iff T l d).mp q
    unfold hd at q
    rw [decide_eq_true_iff] at q
    have h1 : c6 T l d ≤ fb_ct (fun k => decide (k = p)) 6 := by
      unfold c6
      apply fb_ct_sub
      intro k hk h
      rw [decide_eq_true_iff] at h ⊢
      exact hD.2 k p d l hk hp hd' hl h e
    have h2 : ∀ p, p < 6 → fb_ct (fun k => decide (k = p)) 6 = 1 := by decide +kernel
    rw [h2 p hp] at h1
    simp only [if_true]
    omega
theorem tally1_S {nl : Nat} {S : St} (f : Nat → Nat) (w : Nat → Bool) (h24 : nl ≤ 24) (h11 : gI S 11 = nI nl) (x : Int32) (hf : ∀ l, l < nl → gM S 20 l = nI (f l)) (hx : ∀ l, l < nl → bt x l = w l) : Ok (f_X2_addToTally S x) (fun S' => Fr [] [20] S S' ∧ gJ S' = gJ S ∧ ∀ l, l < nl → gM S' 20 l = nI (f l + if w l then 1 else 0)) := by
  unfold f_X2_addToTally
  refine loop_ok (fun j s => ∃ S1, s = (nI j, S1) ∧ Fr [] [20] S S1 ∧ gJ S1 = gJ S ∧ (∀ l, l < j → gM S1 20 l = nI (f l + if w l then 1 else 0)) ∧ (∀ l, j ≤ l → l < nl → gM S1 20 l = nI (f l))) nl _ (by omega) ⟨S, rfl, (Fr.rf S).w (by decide) (by decide), rfl, fun l hl => by omega, fun l _ hl => hf l hl⟩ ?_
  rintro j s hj ⟨S1, rfl, g1, g2, g3, g4⟩
  have h11' : gI S1 11 = nI nl := (g1.1 11 (by decide)).trans h11
  rcases Nat.lt_or_ge j nl with h | h
  · refine go (s' := (nI (j + 1), sM S1 20 j (nI (f j + if w j then 1 else 0)))) ?_ h ⟨_, rfl, (g1.tr Fr.m).w (by decide) (by decide), g2, fun l hl => ?_, fun l h1 h2 => ?_⟩
    · simp (disch := omega) only [f_X2_addToTally_L2, h11', NL0, NL1, NL2, NL3, NL4, NL5, NL6, NL7, NL8, NL9, q_m1, q_m1', q_m1t, q_m1t', q_m1l, q_m1l', nI_clamp, nI_leI, nI_ltI, nI_eq, nI_add, nI_z, pk_mul, pk_sub, gd_nI, bnd, hb_eq, g4 j (Nat.le_refl j) h, hx j h, nI_bI]
      rw [if_neg (by omega)]
    · rw [gM_sM_s]
      by_cases q : l = j
      · subst q
        rw [pk_us]
      · rw [pk_un q]
        exact g3 l (by omega)
    · rw [gM_sM_s, pk_un (by omega)]
      exact g4 l (by omega) h2
  · have : j = nl := by omega
    subst this
    refine out (r := S1) ?_ ⟨g1, g2, g3⟩
    simp (disch := omega) only [f_X2_addToTally_L2, h11', nI_leI]
    rw [if_pos (Nat.le_refl _)]
theorem tally_S {nl : Nat} {S T : St} (hP : RP nl S T) (hN : RN nl S T) {d : Nat} (hd' : d < 1000) : Ok (f_X2_tallyUpTo S (nI d)) (fun S' => Fr [] [20] S S' ∧ gJ S' = gJ S ∧ ∀ l, l < nl → gM S' 20 l = nI (dtn T l (d + 1))) := by
  have h24 := hP.1
  simp only [f_X2_tallyUpTo, bnd]
  refine loop_ok (fun j s => ∃ S1, s = (nI j, S1) ∧ Fr [] [20] S S1 ∧ gJ S1 = gJ S ∧ ∀ l, l < nl → gM S1 20 l = nI (dtn T l j)) (d + 1) _ (by omega) ⟨_, rfl, Fr.fn, rfl, fun l hl => ?_⟩ ?_
  · rw [gM_sF_s]
    unfold fill0
    rw [if_pos (by omega)]
    rfl
  · rintro j s hj ⟨S1, rfl, g1, g2, g3⟩
    have e18 : gM S1 18 = gM S 18 := g1.2.1 18 (by decide)
    rcases Nat.lt_or_ge j (d + 1) with h | h
    · have hbt : ∀ l, l < nl → bt (gM S 18 j) l = hd T l j := fun l hl => hN.2.2.1 l j (by omega) (by omega)
      have hst : ∀ l, l < nl → dtn T l (j + 1) = dtn T l j + if hd T l j then 1 else 0 := by
        intro l hl
        unfold dtn
        rw [fb_sm_succ, c6_one hN.1 (by omega) (by omega)]
      by_cases q : gM S 18 j = 0
      · refine go (s' := (nI (j + 1), S1)) ?_ h ⟨S1, rfl, g1, g2, fun l hl => ?_⟩
        · simp (disch := omega) only [f_X2_tallyUpTo_L10, NL0, NL1, NL2, NL3, NL4, NL5, NL6, NL7, NL8, NL9, q_m1, q_m1', q_m1t, q_m1t', q_m1l, q_m1l', nI_clamp, nI_leI, nI_ltI, nI_eq, nI_add, nI_z, pk_mul, pk_sub, gd_nI, bnd, e18, q]
          rw [if_neg (by omega), if_neg (by omega), if_pos trivial]
        · have := hbt l hl
          rw [q, b_0] at this
          rw [hst l hl, ← this, g3 l hl]
          rfl
      · obtain ⟨S2, e2, k1, k2, k3⟩ := tally1_S (nl := nl) (S := S1) (fun l => dtn T l j) (fun l => hd T l j) h24 ((g1.1 11 (by decide)).trans hP.2.1) (gM S 18 j) g3 hbt
        refine go (s' := (nI (j + 1), S2)) ?_ h ⟨S2, rfl, (g1.tr k1).w (by decide) (by decide), k2.trans g2, fun l hl => ?_⟩
        · simp (disch := omega) only [f_X2_tallyUpTo_L10, NL0, NL1, NL2, NL3, NL4, NL5, NL6, NL7, NL8, NL9, q_m1, q_m1', q_m1t, q_m1t', q_m1l, q_m1l', nI_clamp, nI_leI, nI_ltI, nI_eq, nI_add, nI_z, pk_mul, pk_sub, gd_nI, bnd, e18, e2, Option.bind_some]
          rw [if_neg (by omega), if_neg (by omega), if_neg q]
        · rw [k3 l hl, hst l hl]
    · have : j = d + 1 := by omega
      subst this
      refine out (r := S1) ?_ ⟨g1, g2, g3⟩
      simp (disch := omega) only [f_X2_tallyUpTo_L10, NL0, NL1, NL2, NL3, NL4, NL5, NL6, NL7, NL8, NL9, q_m1, q_m1', q_m1t, q_m1t', q_m1l, q_m1l', nI_clamp, nI_leI, nI_ltI, nI_eq, nI_add, nI_z, pk_mul, pk_sub, gd_nI]
      rw [if_pos (by omega)]
/-! by order -/
def bst (a : Nat → Bool) (v : Nat → Int32) : Nat → Int32 × Int32
  | 0 => (-1, 0)
  | l + 1 => if a l = true ∧ ((bst a v l).1 = -1 ∨ v l < (bst a v l).2) then (nI l, v l) else bst a v l
theorem bst_or (a : Nat → Bool) (v : Nat → Int32) : ∀ n, (bst a v n).1 = -1 ∨ ∃ l, l < n ∧ (bst a v n).1 = nI l
  | 0 => Or.inl rfl
  | n + 1 => by
    unfold bst
    split
    · exact Or.inr ⟨n, by omega, rfl⟩
    · rcases bst_or a v n with h | ⟨l, h1, h2⟩
      · exact Or.inl h
      · exact Or.inr ⟨l, by omega, h2⟩
def ordV (T : St) (nc i : Nat) (o : Int32) (l : Nat) : Int32 := if o = 0 then nI (dtn T l ((gM T 15 i).toNatClampNeg + 1)) else if o = 1 then nI (tkn T nc l) else gM T 10 (10 * (gM T 5 l).toNatClampNeg + (gM T 17 i).toNatClampNeg)
theorem byOrder_T {ne nc nl : Nat} {S T : St} (hE : RE ne S T) (hP : RP nl S T) (hC : RCs nc nl S T) {i : Nat} (hi : i < nc) : f_X8_byOrder T (nI i) = some (bst (ask T ne nc i) (ordV T nc i (nw T (gM T 15 i) ne 9)) nl).1 := by
  have h150 := hC.1
  have h24 := hP.1
  obtain ⟨⟨d, d1, d2, d3⟩, _, ⟨t, t1, t2, t3⟩, _⟩ := hC.2.2.2.2.1 i hi
  have hk : f_X8_taken T = fun x => f_X8_taken T x := rfl
  simp (disch := omega) only [f_X8_byOrder, gd_nI, nI_clamp, now_T hE.1 (gM T 15 i) (x := 9) (r := 9) (by omega) rfl, Option.bind_some]
  generalize nw T (gM T 15 i) ne 9 = o
  refine loop_eq (fun j => ((bst (ask T ne nc i) (ordV T nc i o) j).1, (bst (ask T ne nc i) (ordV T nc i o) j).2, nI j)) nl rfl (by omega) ?_ ?_
  · intro j hj
    obtain ⟨⟨tl, tl1, tl2⟩, _⟩ := hP.2.2.2.1 j hj
    have htk : f_X8_taken T (nI j) = some (nI (tkn T nc j)) := by
      unfold f_X8_taken tkn
      refine loop_eq (fun i => (nI (fb_ct (fun i => decide (gM T 24 i = nI j)) i), nI i)) nc rfl (by omega) ?_ ?_
      · intro i hi
        simp (disch := omega) only [f_X8_taken_L4, hC.2.2.2.1, NL0, NL1, NL2, NL3, NL4, NL5, NL6, NL7, NL8, NL9, q_m1, q_m1', q_m1t, q_m1t', q_m1l, q_m1l', nI_clamp, nI_leI, nI_ltI, nI_eq, nI_add, nI_z, pk_mul, pk_sub, gd_nI, bnd, fb_ct_succ]
        rw [if_neg (by omega)]
        by_cases q : gM T 24 i = nI j
        · rw [if_pos q, decide_eq_true q]
          rfl
        · rw [if_neg q, decide_eq_false q]
          rfl
      · simp (disch := omega) only [f_X8_taken_L4, hC.2.2.2.1, nI_leI]
        rw [if_pos (Nat.le_refl _)]
    have hJ : ∀ y7 y8 z, f_X8_byOrder_J98 y7 y8 (nI j) z = some (.inl (if y7 = -1 ∨ z < y8 then (nI j, z, nI (j + 1)) else (y7, y8, nI (j + 1)))) := by
      intro y7 y8 z
      simp only [f_X8_byOrder_J98, bnd, nI_1]
      by_cases q1 : y7 = -1
      · simp [q1]
      · by_cases q2 : z < y8
        · simp [q1, q2]
        · simp [q1, q2]
    have hdd : f_X8_duties T (nI j) (gM T 15 i) = some (nI (dtn T j (d + 1))) := by
      rw [d3]
      exact duties_T T d1
    simp (disch := omega) only [f_X8_byOrder_L21, hP.2.2.1, nI_leI, mayAsk_T hE hP hC hi hj, Option.bind_some, bnd, nI_1, bI_0, gd_nI, nI_clamp, tl2, t3, nI_add, hdd, htk, hJ, NL0, NL1, NL2, NL3, NL4, NL5, NL6, NL7, NL8, NL9]
    rw [if_neg (by omega)]
    cases q : ask T ne nc i j
    · simp only [if_true, bst, q, Bool.false_eq_true, false_and, if_false]
    · have hv : ordV T nc i o j = if o = 0 then nI (dtn T j (d + 1)) else if o = 1 then nI (tkn T nc j) else gM T 10 (10 * tl + t) := by
        unfold ordV
        rw [d3, tl2, t3, nI_clamp (by omega), nI_clamp (by omega), nI_clamp (by omega)]
      have fin : ∀ v, v = ordV T nc i o j → (some (.inl (if (bst (ask T ne nc i) (ordV T nc i o) j).1 = -1 ∨ v < (bst (ask T ne nc i) (ordV T nc i o) j).2 then (nI j, v, nI (j + 1)) else ((bst (ask T ne nc i) (ordV T nc i o) j).1, (bst (ask T ne nc i) (ordV T nc i o) j).2, nI (j + 1)))) : Option ((Int32 × Int32 × Int32) ⊕ (Int32))) = some (.inl ((bst (ask T ne nc i) (ordV T nc i o) (j + 1)).1, (bst (ask T ne nc i) (ordV T nc i o) (j + 1)).2, nI (j + 1))) := by
        rintro v rfl
        simp only [bst, q, true_and]
        split <;> rfl
      rw [if_neg (by decide)]
      by_cases o0 : o = 0
      · rw [if_pos o0]
        exact fin _ (by rw [hv, if_pos o0])
      · rw [if_neg o0]
        by_cases o1 : o = 1
        · rw [if_pos o1]
          exact fin _ (by rw [hv, if_neg o0, if_pos o1])
        · rw [if_neg o1]
          exact fin _ (by rw [hv, if_neg o0, if_neg o1])
  · simp (disch := omega) only [f_X8_byOrder_L21, hP.2.2.1, nI_leI]
    rw [if_pos (Nat.le_refl _)]
theorem order_S {ne nc nl : Nat} {S T : St} (hE : RE ne S T) (hP : RP nl S T) (hN : RN nl S T) (hC : RCs nc nl S T) {i : Nat} (hi : i < nc) (o : Int32) {free : Int32} (hf : ∀ l, l < 32 → bt free l = (decide (l < nl) && ask T ne nc i l)) : Ok (f_X1_firstByOrder S i o free) (fun r => r.1 = (bst (ask T ne nc i) (ordV T nc i o) nl).1 ∧ Fr [] [20] S r.2) := by
  have h150 := hC.1
  have h24 := hP.1
  obtain ⟨⟨d, d1, d2, d3⟩, _, ⟨t, t1, t2, t3⟩, _⟩ := hC.2.2.2.2.1 i hi
  have key : ∀ (S1 : St) (z : Nat), Fr [] [20] S S1 → (z = 14 ∨ z = 20) → (∀ l, l < nl → o = 0 ∨ o = 1 → gM S1 z l = ordV T nc i o l) → f_X1_firstByOrder_J25 i o free z S1 = some ((bst (ask T ne nc i) (ordV T nc i o) nl).1, S1) := by
    intro S1 z fr hz hv
    have hnc : nC S1 = nc := fr.2.2.1.trans hC.2.1
    have h11 : gI S1 11 = nI nl := (fr.1 11 (by decide)).trans hP.2.1
    have hga : ∀ {β : Type} (f : Option β), ga z f = f := fun f => if_pos hz
    simp only [f_X1_firstByOrder_J25, hnc, gn_p hi, hga]
    refine loop_eq (fun j => ((bst (ask T ne nc i) (ordV T nc i o) j).1, (bst (ask T ne nc i) (ordV T nc i o) j).2, nI j)) nl rfl (by omega) ?_ ?_
    · intro j hj
      have hfj := hf j (by omega)
      rw [decide_eq_true hj, Bool.true_and] at hfj
      have hJ : ∀ y11 y12 v, f_X1_firstByOrder_J72 i free z S1 y11 y12 (nI j) v = some (.inl (if ask T ne nc i j = true ∧ (y11 = -1 ∨ v < y12) then (nI j, v, nI (j + 1)) else (y11, y12, nI (j + 1)))) := by
        intro y11 y12 v
        simp (disch := omega) only [f_X1_firstByOrder_J72, hnc, gn_p, hga, hasBit_eq, Option.bind_some, bI_0, hfj, bnd, nI_1]
        cases ask T ne nc i j
        · simp
        · by_cases q1 : y11 = -1
          · simp [q1]
          · by_cases q2 : y12 ≤ v
            · have : ¬ v < y12 := by
                rw [fa_lt]
                rw [fa_le] at q2
                omega
              simp [q1, q2, this]
            · have : v < y12 := fa_of_nle q2
              simp [q1, q2, this]
      have fin : ∀ v, v = ordV T nc i o j → (some (.inl (if ask T ne nc i j = true ∧ ((bst (ask T ne nc i) (ordV T nc i o) j).1 = -1 ∨ v < (bst (ask T ne nc i) (ordV T nc i o) j).2) then (nI j, v, nI (j + 1)) else ((bst (ask T ne nc i) (ordV T nc i o) j).1, (bst (ask T ne nc i) (ordV T nc i o) j).2, nI (j + 1)))) : Option ((Int32 × Int32 × Int32) ⊕ (Int32 × St))) = some (.inl ((bst (ask T ne nc i) (ordV T nc i o) (j + 1)).1, (bst (ask T ne nc i) (ordV T nc i o) (j + 1)).2, nI (j + 1))) := by
        rintro v rfl
        simp only [bst]
        split <;> rfl
      simp (disch := omega) only [f_X1_firstByOrder_L36, f_X1_firstByOrder_J57, h11, nI_leI, hnc, gn_p, hga, gd_nI, nI_clamp, hJ]
      rw [if_neg (by omega)]
      by_cases o0 : o = 0
      · rw [if_pos o0]
        exact fin _ (hv j hj (Or.inl o0))
      · rw [if_neg o0]
        by_cases o1 : o = 1
        · rw [if_pos o1]
          exact fin _ (hv j hj (Or.inr o1))
        · rw [if_neg o1]
          obtain ⟨⟨tl, tl1, tl2⟩, tl3, _⟩ := hP.2.2.2.1 j hj
          have e1 : tl * 10 + t = 10 * tl + t := by omega
          have hmin : f_X1_minutesTo S1 i (nI j) = some (ordV T nc i o j) := by
            unfold ordV
            rw [if_neg o0, if_neg o1, tl2, t3, nI_clamp (by omega), nI_clamp (by omega)]
            simp (disch := omega) only [f_X1_minutesTo, f_X3_minutesBetween, hnc, gn_p, NL0, NL1, NL2, NL3, NL4, NL5, NL6, NL7, NL8, NL9, q_m1, q_m1', q_m1t, q_m1t', q_m1l, q_m1l', nI_clamp, nI_leI, nI_ltI, nI_eq, nI_add, nI_z, pk_mul, pk_sub, gd_nI, fr.2.1 10 (by decide), fr.2.1 16 (by decide), fr.2.2.2, tl3, tl2, t2, Option.bind_some, e1, (hP.2.2.2.2.2.2 (10 * tl + t) (by omega)).1]
          rw [hmin, Option.bind_some]
          exact fin _ rfl
    · simp (disch := omega) only [f_X1_firstByOrder_L36, h11, nI_leI]
      rw [if_pos (Nat.le_refl _)]
  simp only [f_X1_firstByOrder, hC.2.1, gn_p hi]
  by_cases o0 : o = 0
  · rw [if_pos o0, d2]
    obtain ⟨S1, e1, k1, k2, k3⟩ := tally_S hP hN d1
    rw [e1, Option.bind_some, k1.2.2.1, hC.2.1, gn_p hi, key S1 20 k1 (Or.inr rfl) (fun l hl _ => by
      unfold ordV
      rw [if_pos o0, d3, nI_clamp (by omega)]
      exact k3 l hl)]
    exact Ok.sm ⟨rfl, k1⟩
  · rw [if_neg o0, key S 14 ((Fr.rf S).w (by decide) (by decide)) (Or.inl rfl) (fun l hl h => by
      unfold ordV
      rcases h with h | h
      · exact absurd h o0
      · rw [if_neg o0, if_pos h]
        exact hC.2.2.2.2.2 l (by omega))]
    exact Ok.sm ⟨rfl, (Fr.rf S).w (by decide) (by decide)⟩
/-- who is next -/
def nxt (T : St) (ne nc nl i : Nat) : Int32 :=
  let e := erl T (gM T 19 i).toNatClampNeg (gM T 20 i).toNatClampNeg i
  let h := dt T (gM T 16 i).toNatClampNeg (gM T 15 i).toNatClampNeg
  if ¬ e = -1 ∧ ask T ne nc i e.toNatClampNeg = true then e else if ¬ h = -1 ∧ ask T ne nc i h.toNatClampNeg = true then h else (bst (ask T ne nc i) (ordV T nc i (nw T (gM T 15 i) ne 9)) nl).1
theorem nxt_or {ne nc nl : Nat} {S T : St} (hN : RN nl S T) (hC : RCs nc nl S T) {i : Nat} (hi : i < nc) : nxt T ne nc nl i = -1 ∨ ∃ l, l < nl ∧ nxt T ne nc nl i = nI l := by
  obtain ⟨⟨d, d1, d2, d3⟩, ⟨p, p1, p2, p3⟩, _, _, ⟨c, c1, c2, c3⟩, ⟨a, a1, a2, a3⟩, _⟩ := hC.2.2.2.2.1 i hi
  unfold nxt
  simp (disch := omega) only [d3, p3, c3, a3, nI_clamp]
  split
  · exact erl_or hC c a i (by omega)
  · split
    · exact hN.1.1 p d p1 d1
    · exact bst_or _ _ _
theorem next_S {ne nc nl : Nat} {S T : St} (hE : RE ne S T) (hP : RP nl S T) (hN : RN nl S T) (hA : RA S T) (hC : RCs nc nl S T) {i : Nat} (hi : i < nc) : Ok (f_X1_whoIsNext S (nI i)) (fun r => r.1 = nxt T ne nc nl i ∧ Fr [] [20] S r.2) := by
  have h150 := hC.1
  have h24 := hP.1
  obtain ⟨⟨d, d1, d2, d3⟩, ⟨p, p1, p2, p3⟩, _, _, ⟨c, c1, c2, c3⟩, ⟨a, a1, a2, a3⟩, _⟩ := hC.2.2.2.2.1 i hi
  obtain ⟨k, k1, k2, k3⟩ := textNow_S hE (gC S i 0)
  have e15 : gC S i 0 = gM T 15 i := d2.trans d3.symm
  rw [e15] at k1 k3
  obtain ⟨free, f1, f2⟩ := who_S hE hP hA hC hi
  have fr0 : Fr [] [20] S S := (Fr.rf S).w (by decide) (by decide)
  simp (disch := omega) only [f_X1_whoIsNext, gd_nI, nI_clamp, hC.2.1, bnd, e15, k1, Option.bind_some, gk_p k2, k3, f1, before_S hC hi c2 a2, NL0, NL1, NL2, NL3, NL4, NL5, NL6, NL7, NL8, NL9]
  have hJ92 : Ok (f_X1_whoIsNext_J92 i k free S) (fun r => r.1 = (bst (ask T ne nc i) (ordV T nc i (nw T (gM T 15 i) ne 9)) nl).1 ∧ Fr [] [20] S r.2) := by
    simp (disch := omega) only [f_X1_whoIsNext_J92, hC.2.1, gn_p, gk_p k2, k3, NL0, NL1, NL2, NL3, NL4, NL5, NL6, NL7, NL8, NL9]
    obtain ⟨⟨r, S1⟩, g1, g2, g3⟩ := order_S hE hP hN hC hi (nw T (gM T 15 i) ne 9) f2
    rw [g1, Option.bind_some]
    simp only
    have : nC S1 = nc := g3.2.2.1.trans hC.2.1
    rw [this, gn_p hi]
    exact Ok.sm ⟨g2, g3⟩
  have hJ56 : Ok (f_X1_whoIsNext_J56 i k free S) (fun r => r.1 = (if ¬ dt T p d = -1 ∧ ask T ne nc i (dt T p d).toNatClampNeg = true then dt T p d else (bst (ask T ne nc i) (ordV T nc i (nw T (gM T 15 i) ne 9)) nl).1) ∧ Fr [] [20] S r.2) := by
    simp only [f_X1_whoIsNext_J56, hC.2.1, gn_p hi, gk_p k2, p2, d2]
    rw [holder_S hN p1 d1, Option.bind_some]
    rcases hN.1.1 p d p1 d1 with h | ⟨l, hl, h⟩
    · rw [h, if_pos rfl, if_neg (fun z => z.1 rfl)]
      exact hJ92
    · have hm : ¬ nI l = -1 := by simp (disch := omega) only [q_m1, not_false_eq_true]
      rw [h, if_neg hm, hasBit_eq free (by omega), Option.bind_some, f2 l (by omega), decide_eq_true hl, nI_clamp (by omega)]
      cases q : ask T ne nc i l
      · rw [if_pos (show bI (true && false) = 0 from rfl), if_neg (show ¬ (¬ nI l = -1 ∧ false = true) from fun z => Bool.false_ne_true z.2)]
        exact hJ92
      · rw [if_neg (show ¬ bI (true && true) = 0 by decide), if_pos (show (¬ nI l = -1 ∧ true = true) from ⟨hm, rfl⟩)]
        exact Ok.sm ⟨rfl, fr0⟩
  have hnx : nxt T ne nc nl i = if ¬ erl T c a i = -1 ∧ ask T ne nc i (erl T c a i).toNatClampNeg = true then erl T c a i else if ¬ dt T p d = -1 ∧ ask T ne nc i (dt T p d).toNatClampNeg = true then dt T p d else (bst (ask T ne nc i) (ordV T nc i (nw T (gM T 15 i) ne 9)) nl).1 := by
    have c4 : (gM T 19 i).toNatClampNeg = c := by rw [c3, nI_clamp (by omega)]
    have a4 : (gM T 20 i).toNatClampNeg = a := by rw [a3, nI_clamp (by omega)]
    have p4 : (gM T 16 i).toNatClampNeg = p := by rw [p3, nI_clamp (by omega)]
    have d4 : (gM T 15 i).toNatClampNeg = d := by rw [d3, nI_clamp (by omega)]
    unfold nxt
    rw [c4, a4, p4, d4]
  rw [hnx]
  rcases erl_or hC c a i (by omega) with h | ⟨l, hl, h⟩
  · rw [h, if_pos rfl, if_neg (fun z => z.1 rfl)]
    exact hJ56
  · have hm : ¬ nI l = -1 := by simp (disch := omega) only [q_m1, not_false_eq_true]
    rw [h, if_neg hm, hasBit_eq free (by omega), Option.bind_some, f2 l (by omega), decide_eq_true hl, nI_clamp (by omega)]
    cases q : ask T ne nc i l
    · rw [if_pos (show bI (true && false) = 0 from rfl), if_neg (show ¬ (¬ nI l = -1 ∧ false = true) from fun z => Bool.false_ne_true z.2)]
      exact hJ56
    · rw [if_neg (show ¬ bI (true && true) = 0 by decide), if_pos (show (¬ nI l = -1 ∧ true = true) from ⟨hm, rfl⟩)]
      exact Ok.sm ⟨rfl, fr0⟩
/-- what the reference's askNext makes of its state -/
def nxS (T : St) (i : Nat) (r : Int32) : St := if r = -1 then sM (sM T 23 i r) 21 i 2 else sM (sM (sM T 23 i r) 21 i 0) 29 (24 * i + r.toNatClampNeg) (bI true)
theorem askNext_T {ne nc nl : Nat} {S T : St} (hE : RE ne S T) (hP : RP nl S T) (hN : RN nl S T) (hC : RCs nc nl S T) {i : Nat} (hi : i < nc) : f_X8_askNext T (nI i) = some (nxS T i (nxt T ne nc nl i)) := by
  have h150 := hC.1
  have h24 := hP.1
  obtain ⟨⟨d, d1, d2, d3⟩, ⟨p, p1, p2, p3⟩, _, _, ⟨c, c1, c2, c3⟩, ⟨a, a1, a2, a3⟩, _⟩ := hC.2.2.2.2.1 i hi
  have hJ63 : ∀ y, (y = -1 ∨ ∃ l, l < nl ∧ y = nI l) → f_X8_askNext_J63 (nI i) y T = some (nxS T i y) := by
    intro y hy
    rcases hy with rfl | ⟨l, hl, rfl⟩
    · simp (disch := omega) only [f_X8_askNext_J63, f_X8_askNext_J85, NL0, NL1, NL2, NL3, NL4, NL5, NL6, NL7, NL8, NL9, q_m1, q_m1', q_m1t, q_m1t', q_m1l, q_m1l', nI_clamp, nI_leI, nI_ltI, nI_eq, nI_add, nI_z, pk_mul, pk_sub, gd_nI, bnd, nxS, if_true]
    · simp (disch := omega) only [f_X8_askNext_J63, f_X8_askNext_J85, NL0, NL1, NL2, NL3, NL4, NL5, NL6, NL7, NL8, NL9, q_m1, q_m1', q_m1t, q_m1t', q_m1l, q_m1l', nI_clamp, nI_leI, nI_ltI, nI_eq, nI_add, nI_z, pk_mul, pk_sub, gd_nI, bnd, nxS, if_false, nar_1]
  have hJ57 : f_X8_askNext_J57 (nI i) T = some (nxS T i (bst (ask T ne nc i) (ordV T nc i (nw T (gM T 15 i) ne 9)) nl).1) := by
    simp only [f_X8_askNext_J57]
    rw [byOrder_T hE hP hC hi, Option.bind_some]
    exact hJ63 _ (bst_or _ _ _)
  have hJ43 : ∀ y, (y = -1 ∨ ∃ l, l < nl ∧ y = nI l) → f_X8_askNext_J43 (nI i) y T = some (nxS T i (if ¬ y = -1 ∧ ask T ne nc i y.toNatClampNeg = true then y else (bst (ask T ne nc i) (ordV T nc i (nw T (gM T 15 i) ne 9)) nl).1)) := by
    intro y hy
    simp only [f_X8_askNext_J43]
    rcases id hy with rfl | ⟨l, hl, rfl⟩
    · rw [if_pos rfl, if_neg (fun z => z.1 rfl)]
      exact hJ57
    · have hm : ¬ nI l = -1 := by simp (disch := omega) only [q_m1, not_false_eq_true]
      rw [if_neg hm, mayAsk_T hE hP hC hi hl, Option.bind_some, nI_clamp (by omega)]
      cases q : ask T ne nc i l
      · rw [bI_f, if_pos rfl, if_neg (show ¬ (¬ nI l = -1 ∧ false = true) from fun z => Bool.false_ne_true z.2)]
        exact hJ57
      · rw [bI_t, if_neg (show ¬ (1 : Int32) = 0 by decide), if_pos (show (¬ nI l = -1 ∧ true = true) from ⟨hm, rfl⟩)]
        exact hJ63 _ hy
  have hJ20 : f_X8_askNext_J20 (nI i) T = some (nxS T i (if ¬ dt T p d = -1 ∧ ask T ne nc i (dt T p d).toNatClampNeg = true then dt T p d else (bst (ask T ne nc i) (ordV T nc i (nw T (gM T 15 i) ne 9)) nl).1)) := by
    have hx : (1000 * gM T 16 i) + gM T 15 i = nI (1000 * p + d) := by rw [p3, d3, q_mul, nI_add]
    simp (disch := omega) only [f_X8_askNext_J20, gd_nI, nI_clamp, bnd, hx]
    exact hJ43 (dt T p d) (hN.1.1 p d p1 d1)
  have hnx : nxt T ne nc nl i = if ¬ erl T c a i = -1 ∧ ask T ne nc i (erl T c a i).toNatClampNeg = true then erl T c a i else if ¬ dt T p d = -1 ∧ ask T ne nc i (dt T p d).toNatClampNeg = true then dt T p d else (bst (ask T ne nc i) (ordV T nc i (nw T (gM T 15 i) ne 9)) nl).1 := by
    have c4 : (gM T 19 i).toNatClampNeg = c := by rw [c3, nI_clamp (by omega)]
    have a4 : (gM T 20 i).toNatClampNeg = a := by rw [a3, nI_clamp (by omega)]
    have p4 : (gM T 16 i).toNatClampNeg = p := by rw [p3, nI_clamp (by omega)]
    have d4 : (gM T 15 i).toNatClampNeg = d := by rw [d3, nI_clamp (by omega)]
    unfold nxt
    rw [c4, a4, p4, d4]
  simp only [f_X8_askNext]
  rw [hnx, earlier_T hC hi c1 a1 c3 a3, Option.bind_some]
  rcases erl_or hC c a i (by omega) with h | ⟨l, hl, h⟩
  · rw [h, if_pos rfl, if_neg (fun z => z.1 rfl)]
    exact hJ20
  · have hm : ¬ nI l = -1 := by simp (disch := omega) only [q_m1, not_false_eq_true]
    rw [h, if_neg hm, mayAsk_T hE hP hC hi hl, Option.bind_some, nI_clamp (by omega)]
    cases q : ask T ne nc i l
    · rw [bI_f, if_pos rfl, if_neg (show ¬ (¬ nI l = -1 ∧ false = true) from fun z => Bool.false_ne_true z.2)]
      exact hJ20
    · rw [bI_t, if_neg (show ¬ (1 : Int32) = 0 by decide), if_pos (show (¬ nI l = -1 ∧ true = true) from ⟨hm, rfl⟩)]
      have := hJ43 (nI l) (Or.inr ⟨l, hl, rfl⟩)
      rw [nI_clamp (by omega), q, if_pos (show (¬ nI l = -1 ∧ true = true) from ⟨hm, rfl⟩)] at this
      exact this
def nxC (S : St) (i : Nat) (r : Int32) : St := if r = -1 then sC (sC S i 7 r) i 6 2 else sC (sC S i 7 r) i 8 (gC S i 8 ||| ((1 : Int32) <<< (r &&& 31)))
theorem askNext_S {ne nc nl : Nat} {S T : St} (hE : RE ne S T) (hP : RP nl S T) (hN : RN nl S T) (hA : RA S T) (hC : RCs nc nl S T) {i : Nat} (hi : i < nc) : ∃ S1, Fr [] [20] S S1 ∧ f_X1_askNext S (nI i) = some (nxt T ne nc nl i, nxC S1 i (nxt T ne nc nl i)) := by
  have h150 := hC.1
  obtain ⟨⟨r, S1⟩, g1, g2, g3⟩ := next_S hE hP hN hA hC hi
  refine ⟨S1, g3, ?_⟩
  have g2 : r = nxt T ne nc nl i := g2
  subst g2
  have hnc : nC S1 = nc := g3.2.2.1.trans hC.2.1
  simp (disch := omega) only [f_X1_askNext, gd_nI, nI_clamp, hC.2.1, bnd, g1, Option.bind_some, hnc, gn_p, gC_sC_s, gC_sC_n, nxC]
  split <;> rfl
