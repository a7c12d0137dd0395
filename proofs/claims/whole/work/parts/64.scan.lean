/-! ===== pure part: words; the reference's scan ===== -/
def wl (k : Nat) : Nat := scL.getD k 0
def wc (k j : Nat) : Nat := ((scB.getD k []).getD j 0).toNatClampNeg
theorem wc_tab : ∀ k, k < 18 → ∀ j, j < wl k → (scB.getD k []).getD j 0 = nI (wc k j) ∧ wc k j < 128 := by decide +kernel
theorem wl_tab : ∀ k, k < 18 → wl k < 100 ∧ 0 < wl k := by decide +kernel
/-- the token from a on, m long, is the word k -/
def mt (u : Nat → Nat) (a m k : Nat) : Bool := decide (m = wl k) && allB (wl k) (fun j => decide (u (a + j) = wc k j))
theorem mt_iff {u : Nat → Nat} {a m k : Nat} : mt u a m k = true ↔ m = wl k ∧ ∀ j, j < wl k → u (a + j) = wc k j := by
  unfold mt
  rw [Bool.and_eq_true, decide_eq_true_iff, allB_iff]
  simp only [decide_eq_true_eq]
theorem mt_f {u : Nat → Nat} {a m k : Nat} (h : ¬ (m = wl k ∧ ∀ j, j < wl k → u (a + j) = wc k j)) : mt u a m k = false := by
  cases q : mt u a m k
  · rfl
  · exact absurd (mt_iff.mp q) h
theorem words_apart : ∀ k, k < 17 → ∀ k', k' < 17 → wl k = wl k' → (∀ j, j < wl k → wc k j = wc k' j) → k = k' := by decide +kernel
theorem mt_one {u : Nat → Nat} {a m k k' : Nat} (hk : k < 17) (hk' : k' < 17) (h : mt u a m k = true) (h' : mt u a m k' = true) : k = k' := by
  rw [mt_iff] at h h'
  have e : wl k = wl k' := h.1.symm.trans h'.1
  exact words_apart k hk k' hk' e (fun j hj => (h.2 j hj).symm.trans (h'.2 j (by omega)))
theorem tokenIs_S {u : Nat → Nat} {n a e : Nat} {S : St} (h : TS u n S) (h1 : gI S 1 = nI e) (h3 : gI S 3 = nI a) (h2 : gI S 2 = 1) (hae : a ≤ e) (hen : e ≤ n) {k : Nat} (hk : k < 18) : f_X5_tokenIs S k = some (bI (mt u a (e - a) k)) := by
  have hn := h.1
  have hw := wl_tab k hk
  have hsc : scL.getD k 0 = wl k := rfl
  simp (disch := omega) only [f_X5_tokenIs, gn_p, h2, if_true, h1, h3, pk_sub, hsc, nI_eq]
  by_cases g : e - a = wl k
  · rw [if_pos g]
    apply Ok.eq
    refine loop_ok (fun i s => s = nI i ∧ ∀ j, j < i → u (a + j) = wc k j) (wl k) _ (by omega) ⟨rfl, fun j hj => by omega⟩ ?_
    rintro i s hi ⟨rfl, hj⟩
    rcases Nat.lt_or_ge i (wl k) with q | q
    · obtain ⟨b1, b2⟩ := h.2.2 (a + i) (by omega)
      have hc := wc_tab k hk i q
      have e1 : f_X5_tokenIs_L28 S k (nI i) = if u (a + i) = wc k i then some (.inl (nI (i + 1))) else some (.inr 0) := by
        simp (disch := omega) only [f_X5_tokenIs_L28, hsc, nI_leI, h3, nI_add, gd_nI, nI_clamp, b2, hc.1, bz_c b1 hc.2, bnd, nI_1]
        rw [if_neg (by omega)]
      by_cases z : u (a + i) = wc k i
      · refine go (by rw [e1, if_pos z]) q ⟨rfl, fun j hj2 => ?_⟩
        rcases Nat.lt_or_ge j i with y | y
        · exact hj j y
        · have : j = i := by omega
          rw [this]
          exact z
      · refine out (r := 0) (by rw [e1, if_neg z]) ?_
        rw [mt_f (fun y => z (y.2 i q))]
        rfl
    · have : i = wl k := by omega
      subst this
      refine out (r := 1) ?_ ?_
      · simp (disch := omega) only [f_X5_tokenIs_L28, hsc, nI_leI]
        rw [if_pos (Nat.le_refl _)]
      · rw [mt_iff.mpr ⟨g, hj⟩]
        rfl
  · rw [if_neg g, mt_f (fun y => g y.1)]
    rfl
theorem tokenIs_N {S : St} (h2 : ¬ gI S 2 = 1) {k : Nat} (hk : k < 18) : f_X5_tokenIs S k = some 0 := by
  simp only [f_X5_tokenIs, gn_p hk]
  rw [if_neg h2]
/-- which word the token is: the first that fits, else 17 -/
def key (u : Nat → Nat) (a m : Nat) : Nat := fa_first (fun k => mt u a m k) 17
theorem key_le (u : Nat → Nat) (a m : Nat) : key u a m ≤ 17 := fa_first_le _ _
theorem key_mt {u : Nat → Nat} {a m k : Nat} (hk : k < 17) : mt u a m k = true ↔ key u a m = k := by
  constructor
  · intro h
    have h1 : key u a m < 17 := by
      rcases Nat.lt_or_ge (key u a m) 17 with z | z
      · exact z
      · have := fa_first_no (fun k => mt u a m k) 17 k (by unfold key at z; omega)
        rw [h] at this
        cases this
    have h2 := fa_first_yes (fun k => mt u a m k) 17 h1
    exact mt_one h1 hk h2 h
  · intro h
    have h2 := fa_first_yes (fun k => mt u a m k) 17 (by unfold key at h; omega)
    unfold key at h
    rw [h] at h2
    exact h2
/-! the reference's search among its words -/
def W17 (k : Nat) : Int32 := (scB.getD 17 []).getD k 0
def wiF : Nat → Nat × Nat
  | 0 => (0, 0)
  | k + 1 => if W17 k = 32 then ((wiF k).1 + 1, k + 1) else wiF k
theorem wi_tab : ∀ k, k < 95 → W17 k = 32 → (wiF k).1 < 17 ∧ (wiF k).2 ≤ k ∧ k - (wiF k).2 = wl (wiF k).1 ∧ ∀ j, j < wl (wiF k).1 → W17 ((wiF k).2 + j) = nI (wc (wiF k).1 j) := by decide +kernel
theorem wi_end : (wiF 95).1 = 17 := by decide +kernel
theorem wi_le : ∀ k, k < 96 → (wiF k).2 ≤ k ∧ (wiF k).1 ≤ 17 := by decide +kernel
theorem keyIn_T {u : Nat → Nat} {n a m w f k : Nat} {T : St} (h : TT u n T) (hm : a + m ≤ n) (hf : f + m = k) (hk : k < 95) (hw : w < 17) (hl : m = wl w) (hc : ∀ j, j < wl w → W17 (f + j) = nI (wc w j)) : loopF (f_X8_keyAt_L52 T (nI a) (nI m) (nI w) (nI f) (nI k)) FU (1, 0) = some (if mt u a m w then .inr (nI w) else .inl (nI (w + 1), nI (k + 1), nI (k + 1))) := by
  have hn := h.1
  apply Ok.eq
  refine loop_ok (fun i s => ∃ b : Bool, s = (bI b, nI i) ∧ (b = true → ∀ j, j < i → u (a + j) = wc w j) ∧ (b = false → mt u a m w = false)) m _ (by omega) ⟨true, rfl, fun _ j hj => by omega, fun z => by cases z⟩ ?_
  rintro i s hi ⟨b, rfl, hb1, hb2⟩
  have hJ : f_X8_keyAt_J97 (nI w) (nI k) 0 = some (.inl (nI (w + 1), nI (k + 1), nI (k + 1))) := by
    simp only [f_X8_keyAt_J97, bnd, nI_1, if_true]
  have hJ1 : f_X8_keyAt_J97 (nI w) (nI k) 1 = some (.inr (nI w)) := by
    simp only [f_X8_keyAt_J97]
    rw [if_neg (by decide)]
  cases b
  · refine out (r := .inl (nI (w + 1), nI (k + 1), nI (k + 1))) ?_ ?_
    · simp only [f_X8_keyAt_L52, bI_f, hJ, Option.bind_some, if_true]
      split <;> rfl
    · rw [hb2 rfl]
      rfl
  · rcases Nat.lt_or_ge i m with q | q
    · have e1 : f_X8_keyAt_L52 T (nI a) (nI m) (nI w) (nI f) (nI k) (bI true, nI i) = some (.inl (bI (decide (u (a + i) = wc w i)), nI (i + 1))) := by
        have hW := hc i (by omega)
        have hW2 := (wc_tab w (by omega) i (by omega)).2
        have hu := (h.2.2 (a + i) (by omega)).1
        unfold W17 at hW
        simp (disch := omega) only [f_X8_keyAt_L52, nI_leI, bI_t, nI_add, see_T h, Option.bind_some, nI_clamp, hW, bnd, nI_1, nI_eq]
        rw [if_neg (by omega), if_neg (by decide), gd_nI (by show f + i < 95; omega) (by decide)]
        by_cases z : wc w i = u (a + i)
        · rw [if_pos z, decide_eq_true z.symm]
          rfl
        · rw [if_neg z, decide_eq_false (fun y => z y.symm)]
          rfl
      refine go e1 q ⟨decide (u (a + i) = wc w i), rfl, fun z j hj => ?_, fun z => ?_⟩
      · rw [decide_eq_true_iff] at z
        rcases Nat.lt_or_ge j i with y | y
        · exact hb1 rfl j y
        · have : j = i := by omega
          rw [this]
          exact z
      · rw [decide_eq_false_iff_not] at z
        exact mt_f (fun y => z (y.2 i (by omega)))
    · have : i = m := by omega
      subst this
      refine out (r := .inr (nI w)) ?_ ?_
      · simp (disch := omega) only [f_X8_keyAt_L52, nI_leI, bI_t, hJ1, Option.bind_some]
        rw [if_pos (Nat.le_refl _)]
      · have : mt u a i w = true := by
          exact mt_iff.mpr ⟨hl, fun j hj => hb1 rfl j (by omega)⟩
        rw [this]
        rfl
theorem keyAt_T {u : Nat → Nat} {n a m : Nat} {T : St} (h : TT u n T) (hm : a + m ≤ n) : f_X8_keyAt T (nI a) (nI m) = some (if key u a m = 17 then -1 else nI (key u a m)) := by
  have hn := h.1
  have h95 : scL.getD 17 0 = 95 := by decide
  unfold f_X8_keyAt
  apply Ok.eq
  refine loop_ok (fun i s => s = (nI (wiF i).1, nI (wiF i).2, nI i) ∧ ∀ k, k < (wiF i).1 → mt u a m k = false) 95 _ (by omega) ⟨rfl, fun k hk => by simp [wiF] at hk⟩ ?_
  rintro i s hi ⟨rfl, hk⟩
  rcases Nat.lt_or_ge i 95 with q | q
  · have hle := wi_le i (by omega)
    by_cases z : W17 i = 32
    · obtain ⟨t1, t2, t3, t4⟩ := wi_tab i q z
      have hz : (scB.getD 17 []).getD i 0 = 32 := z
      have hst : wiF (i + 1) = ((wiF i).1 + 1, i + 1) := by rw [wiF, if_pos z]
      have hbody : f_X8_keyAt_L8 T (nI a) (nI m) (nI (wiF i).1, nI (wiF i).2, nI i) = some (if mt u a m (wiF i).1 then .inr (nI (wiF i).1) else .inl (nI ((wiF i).1 + 1), nI (i + 1), nI (i + 1))) := by
        simp (disch := omega) only [f_X8_keyAt_L8, h95, nI_leI, gd_nI, nI_clamp, hz, if_true, pk_sub, nI_eq]
        rw [if_neg (by omega)]
        by_cases y : i - (wiF i).2 = m
        · rw [if_pos y]
          simp only [f_X8_keyAt_J47]
          exact keyIn_T h hm (by omega) q t1 (by omega) t4
        · rw [if_neg y]
          have hno : mt u a m (wiF i).1 = false := by
            exact mt_f (fun y => by omega)
          rw [hno]
          have hJ : f_X8_keyAt_J97 (nI (wiF i).1) (nI i) 0 = some (.inl (nI ((wiF i).1 + 1), nI (i + 1), nI (i + 1))) := by
            simp only [f_X8_keyAt_J97, bnd, nI_1, if_true]
          simp only [f_X8_keyAt_J47]
          refine loop_eq (fun _ => (0, 0)) 0 rfl (by omega) (fun i hi => by omega) ?_
          simp only [f_X8_keyAt_L52, hJ, Option.bind_some, if_true]
          split <;> rfl
      cases y : mt u a m (wiF i).1
      · refine go (s' := (nI ((wiF i).1 + 1), nI (i + 1), nI (i + 1))) (by rw [hbody, y]; rfl) q ⟨by rw [hst], fun k hk2 => ?_⟩
        rw [hst] at hk2
        rcases Nat.lt_or_ge k (wiF i).1 with x | x
        · exact hk k x
        · have : k = (wiF i).1 := by
            have : k < (wiF i).1 + 1 := hk2
            omega
          rw [this]
          exact y
      · refine out (r := nI (wiF i).1) (by rw [hbody, y]; rfl) ?_
        have := (key_mt t1).mp y
        rw [this, if_neg (by omega)]
    · have hz : ¬ (scB.getD 17 []).getD i 0 = 32 := z
      have hst : wiF (i + 1) = wiF i := by rw [wiF, if_neg z]
      refine go (s' := (nI (wiF (i + 1)).1, nI (wiF (i + 1)).2, nI (i + 1))) ?_ q ⟨rfl, by rw [hst]; exact hk⟩
      simp (disch := omega) only [f_X8_keyAt_L8, h95, nI_leI, gd_nI, nI_clamp, bnd, nI_1, hst]
      rw [if_neg (by omega), if_neg hz]
  · have : i = 95 := by omega
    subst this
    refine out (r := -1) ?_ ?_
    · simp (disch := omega) only [f_X8_keyAt_L8, h95, nI_leI]
      rw [if_pos (by omega)]
    · have : key u a m = 17 := by
        rcases Nat.lt_or_ge (key u a m) 17 with z | z
        · have h2 := (key_mt z).mpr rfl
          rw [hk _ (by rw [wi_end]; exact z)] at h2
          cases h2
        · have := key_le u a m
          omega
      rw [this, if_pos rfl]
/-- the kind of the token in the reference -/
def kdT (u : Nat → Nat) (n a e : Nat) : Int32 := if a = n then 4 else if isL (u a) then (if key u a (e - a) = 17 then 0 else 1) else if isD (u a) then (if e - a ≤ 4 then 2 else 0) else if u a = 59 then 3 else 0
theorem dig_T {u : Nat} (w : Nat) (h : isD u = true) : (10 : Int32) * nI w + nI u - 48 = nI (w * 10 + (u - 48)) := by
  unfold isD at h
  rw [decide_eq_true_iff] at h
  simp (disch := omega) only [NL0, NL1, NL2, NL3, NL4, NL5, NL6, NL7, NL8, NL9, nI_add]
  exact kC (by omega)
theorem scan_tok {u : Nat → Nat} {n q a e : Nat} {T : St} (h : TT u n T) (h1 : gI T 5 = nI q) (ha : tokAt u n q a) (he : tokTo u n a e) : Ok (f_X8_scan T) (fun T' => Fr [2, 3, 4, 5, 6] [] T T' ∧ gI T' 5 = nI e ∧ gI T' 4 = nI a ∧ gI T' 2 = kdT u n a e ∧ (kdT u n a e = 2 → gI T' 6 = nI (wor u a (e - a))) ∧ (kdT u n a e = 1 → gI T' 3 = nI (key u a (e - a)))) := by
  have hn := h.1
  obtain ⟨a1, a2, a3, a4⟩ := ha
  simp only [f_X8_scan, bnd, h1]
  refine loop_ok (fun i s => s = nI (q + i)) (a - q) _ (by omega) rfl ?_
  rintro i s hi rfl
  rcases Nat.lt_or_ge i (a - q) with z | z
  · have hb := a3 (q + i) (by omega) (by omega)
    unfold isB at hb
    rw [decide_eq_true_iff] at hb
    have hu := (h.2.2 (q + i) (by omega)).1
    refine go (s' := nI (q + (i + 1))) ?_ z rfl
    simp (disch := omega) only [f_X8_scan_L5, see_T h, Option.bind_some, bnd, nI_1, NL0, NL1, NL2, NL3, NL4, NL5, NL6, NL7, NL8, NL9]
    by_cases y : u (q + i) = 32
    · rw [if_pos y]
      rfl
    · have y2 : u (q + i) = 10 := by omega
      rw [if_neg y, if_pos y2]
      rfl
  · have : i = a - q := by omega
    subst this
    have ea : q + (a - q) = a := by omega
    rw [ea]
    have f4 : Fr [4] [] T (sI T 4 (nI a)) := Fr.i
    have ht4 : TT u n (sI T 4 (nI a)) := h.fr f4 (by decide)
    have i4 : gI (sI T 4 (nI a)) 4 = nI a := gI_sI_s _ _ _
    rcases he with ⟨e1, e2⟩ | ⟨e1, he⟩
    · have k4 : kdT u n a e = 4 := by unfold kdT; rw [if_pos e1]
      refine out (r := sI (sI (sI T 4 (nI a)) 2 4) 5 (nI a)) ?_ ⟨((f4.tr Fr.i).tr Fr.i).w (by decide) (by decide), ?_, ?_, ?_, fun y => ?_, fun y => ?_⟩
      · simp (disch := omega) only [f_X8_scan_L5, see_E h, see_E ht4, Option.bind_some, bnd]
        rw [if_neg (by decide), if_neg (by decide), if_pos trivial]
      · rw [gI_sI_s, e2, e1]
      · rw [gI_sI_n _ _ (by omega), gI_sI_n _ _ (by omega), i4]
      · rw [gI_sI_n _ _ (by omega), gI_sI_s, k4]
      · rw [k4] at y
        exact absurd y (by decide)
      · rw [k4] at y
        exact absurd y (by decide)
    · have hu := (h.2.2 a e1).1
      have nb : isB (u a) = false := by
        rcases a4 with y | y
        · omega
        · exact y
      unfold isB at nb
      rw [decide_eq_false_iff_not] at nb
      have kk : kdT u n a e = if isL (u a) then (if key u a (e - a) = 17 then 0 else 1) else if isD (u a) then (if e - a ≤ 4 then 2 else 0) else if u a = 59 then 3 else 0 := by
        unfold kdT
        rw [if_neg (by omega)]
      have hm1 : ¬ nI (u a) = -1 := by simp (disch := omega) only [q_m1, not_false_eq_true]
      have b32 : ¬ u a = 32 := fun y => nb (Or.inl y)
      have b10 : ¬ u a = 10 := fun y => nb (Or.inr y)
      generalize hT4 : sI T 4 (nI a) = T4 at f4 ht4 i4
      rcases he with ⟨l, hr⟩ | ⟨l, d, hr⟩ | ⟨l, d, he⟩
      · obtain ⟨r1, r2, r3, r4⟩ := hr
        have hkey := keyAt_T (a := a) (m := e - a) ht4 (by omega)
        have hkl := key_le u a (e - a)
        rw [l] at kk
        suffices H : Ok (loopF (f_X8_scan_L69 (nI a) T4) FU (nI (a + 1))) (fun t => ∃ T', t = .inr T' ∧ Fr [2, 3, 4, 5, 6] [] T T' ∧ gI T' 5 = nI e ∧ gI T' 4 = nI a ∧ gI T' 2 = kdT u n a e ∧ (kdT u n a e = 2 → gI T' 6 = nI (wor u a (e - a))) ∧ (kdT u n a e = 1 → gI T' 3 = nI (key u a (e - a)))) by
          obtain ⟨t, k1, T', rfl, k3⟩ := H
          refine out (r := T') ?_ k3
          simp (disch := omega) only [f_X8_scan_L5, see_T h, see_T ht4, Option.bind_some, bnd, hT4, nI_1, (bz_f3 _ hu).1, l, bI_0, NL0, NL1, NL2, NL3, NL4, NL5, NL6, NL7, NL8, NL9]
          rw [if_neg b32, if_neg b10, if_neg hm1, if_neg (by decide)]
          exact k1
        refine loop_ok (fun i s => s = nI (a + 1 + i)) (e - (a + 1)) _ (by omega) rfl ?_
        rintro i s hi rfl
        rcases Nat.lt_or_ge i (e - (a + 1)) with z | z
        · have hui := (h.2.2 (a + 1 + i) (by omega)).1
          refine go (s' := nI (a + 1 + (i + 1))) ?_ z rfl
          simp (disch := omega) only [f_X8_scan_L69, see_T ht4, Option.bind_some, (bz_f3 _ hui).1, r3 (a + 1 + i) (by omega) (by omega), bI_0, bnd, nI_1]
          rw [if_neg (by decide)]
          rfl
        · have : i = e - (a + 1) := by omega
          subst this
          have ee : a + 1 + (e - (a + 1)) = e := by omega
          rw [ee]
          have hsee : ∃ r, f_X8_see T4 (nI e) = some r ∧ f_X8_isSmall r = some 0 := by
            rcases Nat.lt_or_ge e n with y | y
            · rcases r4 with x | x
              · omega
              · exact ⟨_, see_T ht4 y, by rw [(bz_f3 _ (h.2.2 e y).1).1, x]; rfl⟩
            · exact ⟨_, see_E ht4 y (by omega), by decide⟩
          obtain ⟨r, s1, s2⟩ := hsee
          by_cases y : key u a (e - a) = 17
          · rw [if_pos y] at hkey
            refine out (r := .inr (sI (sI (sI T4 3 (-1)) 2 0) 5 (nI e))) ?_ ⟨_, rfl, (((f4.tr Fr.i).tr Fr.i).tr Fr.i).w (by decide) (by decide), gI_sI_s _ _ _, ?_, ?_, fun x => ?_, fun x => ?_⟩
            · simp (disch := omega) only [f_X8_scan_L69, s1, s2, Option.bind_some, if_true, pk_sub, hkey, bnd, gI_sI_s]
            · rw [gI_sI_n _ _ (by omega), gI_sI_n _ _ (by omega), gI_sI_n _ _ (by omega), i4]
            · rw [gI_sI_n _ _ (by omega), gI_sI_s, kk, if_pos y]
              rfl
            · rw [kk, if_pos y, if_pos rfl] at x
              exact absurd x (by decide)
            · rw [kk, if_pos y, if_pos rfl] at x
              exact absurd x (by decide)
          · rw [if_neg y] at hkey
            have hkm : ¬ nI (key u a (e - a)) = -1 := by simp (disch := omega) only [q_m1, not_false_eq_true]
            refine out (r := .inr (sI (sI (sI T4 3 (nI (key u a (e - a)))) 2 1) 5 (nI e))) ?_ ⟨_, rfl, (((f4.tr Fr.i).tr Fr.i).tr Fr.i).w (by decide) (by decide), gI_sI_s _ _ _, ?_, ?_, fun x => ?_, fun x => ?_⟩
            · simp (disch := omega) only [f_X8_scan_L69, s1, s2, Option.bind_some, if_true, pk_sub, hkey, bnd, gI_sI_s]
              rw [if_neg hkm]
            · rw [gI_sI_n _ _ (by omega), gI_sI_n _ _ (by omega), gI_sI_n _ _ (by omega), i4]
            · rw [gI_sI_n _ _ (by omega), gI_sI_s, kk, if_neg y]
              rfl
            · rw [kk, if_neg y, if_pos rfl] at x
              exact absurd x (by decide)
            · rw [gI_sI_n _ _ (by omega), gI_sI_n _ _ (by omega), gI_sI_s]
      · obtain ⟨r1, r2, r3, r4⟩ := hr
        rw [l, d] at kk
        have hw := fun k (hk : k ≤ e - a) => wor_lt u a k (fun j hj => r3 (a + j) (by omega) (by omega))
        have hw1 : wor u a 1 = u a - 48 := by
          simp [wor]
        have hd0 := d
        unfold isD at hd0
        rw [decide_eq_true_iff] at hd0
        have f6 : Fr [4, 6] [] T (sI T4 6 (nI (wor u a 1))) := f4.tr Fr.i
        suffices H : Ok (loopF (f_X8_scan_L133 (nI a)) FU (nI (a + 1), sI T4 6 (nI (wor u a 1)))) (fun t => ∃ T', t = .inr T' ∧ Fr [2, 3, 4, 5, 6] [] T T' ∧ gI T' 5 = nI e ∧ gI T' 4 = nI a ∧ gI T' 2 = kdT u n a e ∧ (kdT u n a e = 2 → gI T' 6 = nI (wor u a (e - a))) ∧ (kdT u n a e = 1 → gI T' 3 = nI (key u a (e - a)))) by
          obtain ⟨t, k1, T', rfl, k3⟩ := H
          refine out (r := T') ?_ k3
          simp (disch := omega) only [f_X8_scan_L5, see_T h, see_T ht4, Option.bind_some, bnd, hT4, nI_1, (bz_f3 _ hu).1, (bz_f3 _ hu).2, l, d, bI_0, NL0, NL1, NL2, NL3, NL4, NL5, NL6, NL7, NL8, NL9]
          rw [if_neg b32, if_neg b10, if_neg hm1, if_pos trivial, if_neg (by decide), ← hw1]
          exact k1
        refine loop_ok (fun i s => ∃ s1, s = (nI (a + 1 + i), s1) ∧ Fr [4, 6] [] T s1 ∧ gI s1 4 = nI a ∧ gI s1 6 = nI (wor u a (1 + i))) (e - (a + 1)) _ (by omega) ⟨_, rfl, f6, by rw [gI_sI_n _ _ (by omega), i4], gI_sI_s _ _ _⟩ ?_
        rintro i s hi ⟨s1, rfl, g1, g2, g3⟩
        have ht1 : TT u n s1 := h.fr g1 (by decide)
        rcases Nat.lt_or_ge i (e - (a + 1)) with z | z
        · have hui := (h.2.2 (a + 1 + i) (by omega)).1
          have hdi := r3 (a + 1 + i) (by omega) (by omega)
          have hsub : nI (a + 1 + i) - nI a = nI (1 + i) := by
            rw [pk_sub (by omega)]
            exact kC (by omega)
          have hnx : wor u a (1 + (i + 1)) = if 1 + i < 4 then wor u a (1 + i) * 10 + (u (a + 1 + i) - 48) else wor u a (1 + i) := by
            have e0 : 1 + (i + 1) = (1 + i) + 1 := by omega
            have e9 : a + 1 + i = a + (1 + i) := by omega
            rw [e0, wor, e9]
          by_cases y : 4 ≤ 1 + i
          · refine go (s' := (nI (a + 1 + (i + 1)), sI s1 6 (nI (wor u a (1 + i))))) ?_ z ⟨_, rfl, (g1.tr Fr.i).w (by decide) (by decide), ?_, ?_⟩
            · simp (disch := omega) only [f_X8_scan_L133, see_T ht1, Option.bind_some, (bz_f3 _ hui).2, hdi, bI_0, bnd, nI_1, hsub, g3, NL0, NL1, NL2, NL3, NL4, NL5, NL6, NL7, NL8, NL9]
              rw [if_neg (by decide), if_pos y]
              rfl
            · rw [gI_sI_n _ _ (by omega), g2]
            · rw [gI_sI_s, hnx, if_neg (by omega)]
          · refine go (s' := (nI (a + 1 + (i + 1)), sI s1 6 (nI (wor u a (1 + (i + 1)))))) ?_ z ⟨_, rfl, (g1.tr Fr.i).w (by decide) (by decide), ?_, gI_sI_s _ _ _⟩
            · have hv := dig_T (wor u a (1 + i)) hdi
              rw [hnx, if_pos (by omega), ← hv]
              simp (disch := omega) only [f_X8_scan_L133, see_T ht1, Option.bind_some, (bz_f3 _ hui).2, hdi, bI_0, bnd, nI_1, hsub, g3, NL0, NL1, NL2, NL3, NL4, NL5, NL6, NL7, NL8, NL9]
              rw [if_neg (by decide), if_neg y]
              rfl
            · rw [gI_sI_n _ _ (by omega), g2]
        · have : i = e - (a + 1) := by omega
          subst this
          have ee : a + 1 + (e - (a + 1)) = e := by omega
          have ee2 : 1 + (e - (a + 1)) = e - a := by omega
          rw [ee]
          rw [ee2] at g3
          have hsee : ∃ r, f_X8_see s1 (nI e) = some r ∧ f_X8_isDigit r = some 0 := by
            rcases Nat.lt_or_ge e n with y | y
            · rcases r4 with x | x
              · omega
              · exact ⟨_, see_T ht1 y, by rw [(bz_f3 _ (h.2.2 e y).1).2, x]; rfl⟩
            · exact ⟨_, see_E ht1 y (by omega), by decide⟩
          obtain ⟨r, s2, s3⟩ := hsee
          have kk2 : kdT u n a e = if e - a ≤ 4 then 2 else 0 := by rw [kk]; rfl
          by_cases y : e - a ≤ 4
          · refine out (r := .inr (sI (sI s1 2 2) 5 (nI e))) ?_ ⟨_, rfl, ((g1.tr Fr.i).tr Fr.i).w (by decide) (by decide), gI_sI_s _ _ _, ?_, ?_, fun _ => ?_, fun x => ?_⟩
            · simp (disch := omega) only [f_X8_scan_L133, s2, s3, Option.bind_some, if_true, pk_sub, bnd, NL0, NL1, NL2, NL3, NL4, NL5, NL6, NL7, NL8, NL9]
              rw [if_pos y]
            · rw [gI_sI_n _ _ (by omega), gI_sI_n _ _ (by omega), g2]
            · rw [gI_sI_n _ _ (by omega), gI_sI_s, kk2, if_pos y]
            · rw [gI_sI_n _ _ (by omega), gI_sI_n _ _ (by omega), g3]
            · rw [kk2, if_pos y] at x
              exact absurd x (by decide)
          · refine out (r := .inr (sI (sI s1 2 0) 5 (nI e))) ?_ ⟨_, rfl, ((g1.tr Fr.i).tr Fr.i).w (by decide) (by decide), gI_sI_s _ _ _, ?_, ?_, fun x => ?_, fun x => ?_⟩
            · simp (disch := omega) only [f_X8_scan_L133, s2, s3, Option.bind_some, if_true, pk_sub, bnd, NL0, NL1, NL2, NL3, NL4, NL5, NL6, NL7, NL8, NL9]
              rw [if_neg y]
            · rw [gI_sI_n _ _ (by omega), gI_sI_n _ _ (by omega), g2]
            · rw [gI_sI_n _ _ (by omega), gI_sI_s, kk2, if_neg y]
            · rw [kk2, if_neg y] at x
              exact absurd x (by decide)
            · rw [kk2, if_neg y] at x
              exact absurd x (by decide)
      · rw [l, d] at kk
        have kk2 : kdT u n a e = if u a = 59 then 3 else 0 := by rw [kk]; rfl
        by_cases y : u a = 59
        · refine out (r := sI (sI T4 2 3) 5 (nI (a + 1))) ?_ ⟨((f4.tr Fr.i).tr Fr.i).w (by decide) (by decide), by rw [gI_sI_s, he], ?_, ?_, fun x => ?_, fun x => ?_⟩
          · simp (disch := omega) only [f_X8_scan_L5, see_T h, see_T ht4, Option.bind_some, bnd, hT4, nI_1, (bz_f3 _ hu).1, (bz_f3 _ hu).2, l, d, bI_0, NL0, NL1, NL2, NL3, NL4, NL5, NL6, NL7, NL8, NL9]
            rw [if_neg b32, if_neg b10, if_neg hm1, if_pos trivial, if_pos trivial, if_pos y]
          · rw [gI_sI_n _ _ (by omega), gI_sI_n _ _ (by omega), i4]
          · rw [gI_sI_n _ _ (by omega), gI_sI_s, kk2, if_pos y]
          · rw [kk2, if_pos y] at x
            exact absurd x (by decide)
          · rw [kk2, if_pos y] at x
            exact absurd x (by decide)
        · refine out (r := sI (sI T4 2 0) 5 (nI (a + 1))) ?_ ⟨((f4.tr Fr.i).tr Fr.i).w (by decide) (by decide), by rw [gI_sI_s, he], ?_, ?_, fun x => ?_, fun x => ?_⟩
          · simp (disch := omega) only [f_X8_scan_L5, see_T h, see_T ht4, Option.bind_some, bnd, hT4, nI_1, (bz_f3 _ hu).1, (bz_f3 _ hu).2, l, d, bI_0, NL0, NL1, NL2, NL3, NL4, NL5, NL6, NL7, NL8, NL9]
            rw [if_neg b32, if_neg b10, if_neg hm1, if_pos trivial, if_pos trivial, if_neg y]
          · rw [gI_sI_n _ _ (by omega), gI_sI_n _ _ (by omega), i4]
          · rw [gI_sI_n _ _ (by omega), gI_sI_s, kk2, if_neg y]
          · rw [kk2, if_neg y] at x
            exact absurd x (by decide)
          · rw [kk2, if_neg y] at x
            exact absurd x (by decide)
