/-! ===== pure part: bytes and tokens ===== -/
def bz (u : Nat) : Int32 := if u < 128 then nI u else iI ((u : Int) - 256)
def isL (u : Nat) : Bool := decide (97 ≤ u ∧ u ≤ 122)
def isD (u : Nat) : Bool := decide (48 ≤ u ∧ u ≤ 57)
def isB (u : Nat) : Bool := decide (u = 32 ∨ u = 10)
theorem bz_f1 : ∀ u, u < 256 → bz u &&& 255 = nI u ∧ f_X5_isLetter (bz u) = some (bI (isL u)) ∧ f_X5_isDigit (bz u) = some (bI (isD u)) := by decide +kernel
theorem bz_f2 : ∀ u, u < 256 → (decide (bz u = 32) = decide (u = 32)) ∧ (decide (bz u = 10) = decide (u = 10)) ∧ (decide (bz u = 59) = decide (u = 59)) := by decide +kernel
theorem bz_f3 : ∀ u, u < 256 → f_X8_isSmall (nI u) = some (bI (isL u)) ∧ f_X8_isDigit (nI u) = some (bI (isD u)) := by decide +kernel
theorem bz_32 {u : Nat} (h : u < 256) : bz u = 32 ↔ u = 32 := by simpa using (bz_f2 u h).1
theorem bz_10 {u : Nat} (h : u < 256) : bz u = 10 ↔ u = 10 := by simpa using (bz_f2 u h).2.1
theorem bz_59 {u : Nat} (h : u < 256) : bz u = 59 ↔ u = 59 := by simpa using (bz_f2 u h).2.2
theorem bz_ex (b : Int32) (h1 : -128 ≤ b.toInt) (h2 : b.toInt < 128) : ∃ u, u < 256 ∧ b = bz u := by
  unfold bz
  by_cases h : b.toInt < 0
  · refine ⟨(b.toInt + 256).toNat, by omega, ?_⟩
    rw [if_neg (by omega)]
    exact (iI_of b).symm.trans (iC (by omega))
  · refine ⟨b.toInt.toNat, by omega, ?_⟩
    rw [if_pos (by omega), ← iI_nat (by omega)]
    exact (iI_of b).symm.trans (iC (by omega))
theorem bz_c {u c : Nat} (hu : u < 256) (hc : c < 128) : bz u = nI c ↔ u = c := by
  unfold bz
  by_cases h : u < 128
  · rw [if_pos h, nI_eq (by omega) (by omega)]
  · rw [if_neg h, ← iI_nat (n := c) (by omega), iI_eq (by omega) (by omega) (by omega) (by omega)]
    omega
/-- a stretch of places that have a property -/
theorem run_ex (P : Nat → Bool) (n : Nat) : ∀ (m q : Nat), n - q ≤ m → q ≤ n → ∃ a, q ≤ a ∧ a ≤ n ∧ (∀ j, q ≤ j → j < a → P j = true) ∧ (a = n ∨ P a = false)
  | 0, q, h, hq => ⟨q, Nat.le_refl q, hq, fun j h1 h2 => by omega, Or.inl (by omega)⟩
  | m + 1, q, h, hq => by
    rcases Nat.lt_or_ge q n with g | g
    · cases e : P q
      · exact ⟨q, Nat.le_refl q, hq, fun j h1 h2 => by omega, Or.inr e⟩
      · obtain ⟨a, a1, a2, a3, a4⟩ := run_ex P n m (q + 1) (by omega) (by omega)
        refine ⟨a, by omega, a2, fun j h1 h2 => ?_, a4⟩
        rcases Nat.lt_or_ge q j with z | z
        · exact a3 j (by omega) h2
        · have : j = q := by omega
          rw [this]
          exact e
    · exact ⟨q, Nat.le_refl q, hq, fun j h1 h2 => by omega, Or.inl (by omega)⟩
/-- the tape in the class, in the reference -/
def TS (u : Nat → Nat) (n : Nat) (S : St) : Prop := n ≤ 1000 ∧ gI S 0 = nI n ∧ ∀ j, j < n → u j < 256 ∧ gM S 7 j = bz (u j)
def TT (u : Nat → Nat) (n : Nat) (T : St) : Prop := n ≤ 1000 ∧ gI T 1 = nI n ∧ ∀ j, j < n → u j < 256 ∧ gM T 1 j = bz (u j)
theorem TS.fr {I M : List Nat} {u : Nat → Nat} {n : Nat} {S S' : St} (a : Fr I M S S') (c : 0 ∉ I ∧ 7 ∉ M) (h : TS u n S) : TS u n S' := by
  unfold TS at h ⊢
  rw [a.1 0 c.1, a.2.1 7 c.2]
  exact h
theorem TT.fr {I M : List Nat} {u : Nat → Nat} {n : Nat} {S S' : St} (a : Fr I M S S') (c : 1 ∉ I ∧ 1 ∉ M) (h : TT u n S) : TT u n S' := by
  unfold TT at h ⊢
  rw [a.1 1 c.1, a.2.1 1 c.2]
  exact h
theorem see_T {u : Nat → Nat} {n : Nat} {T : St} (h : TT u n T) {j : Nat} (hj : j < n) : f_X8_see T (nI j) = some (nI (u j)) := by
  obtain ⟨h1, h2, h3⟩ := h
  obtain ⟨g1, g2⟩ := h3 j hj
  simp (disch := omega) only [f_X8_see, h2, nI_leI, gd_nI, nI_clamp, g2, (bz_f1 (u j) g1).1]
  rw [if_neg (by omega)]
theorem see_E {u : Nat → Nat} {n : Nat} {T : St} (h : TT u n T) {j : Nat} (hj : n ≤ j) (hj2 : j < 2 ^ 31) : f_X8_see T (nI j) = some (-1) := by
  obtain ⟨h1, h2, h3⟩ := h
  simp (disch := omega) only [f_X8_see, h2, nI_leI]
  rw [if_pos hj]
/-- what a token is, from a on to e: 1 word, 2 number (with its worth), 3 semicolon, 4 the end, 0 none -/
def wor (u : Nat → Nat) (a : Nat) : Nat → Nat
  | 0 => 0
  | k + 1 => if k < 4 then wor u a k * 10 + (u (a + k) - 48) else wor u a k
theorem wor_lt (u : Nat → Nat) (a : Nat) : ∀ k, (∀ j, j < k → isD (u (a + j)) = true) → wor u a k ≤ 9999 ∧ (k = 1 → wor u a k ≤ 9) ∧ (k = 2 → wor u a k ≤ 99) ∧ (k = 3 → wor u a k ≤ 999) ∧ (k = 0 → wor u a k = 0)
  | 0, _ => by simp [wor]
  | k + 1, h => by
    have ih := wor_lt u a k (fun j hj => h j (by omega))
    have hk := h k (by omega)
    unfold isD at hk
    rw [decide_eq_true_iff] at hk
    unfold wor
    split
    · rename_i g
      have : k = 0 ∨ k = 1 ∨ k = 2 ∨ k = 3 := by omega
      rcases this with rfl | rfl | rfl | rfl
      · have := ih.2.2.2.2 rfl
        omega
      · have := ih.2.1 rfl
        omega
      · have := ih.2.2.1 rfl
        omega
      · have := ih.2.2.2.1 rfl
        omega
    · omega
/-- where tokens begin and end -/
def tokAt (u : Nat → Nat) (n q a : Nat) : Prop := q ≤ a ∧ a ≤ n ∧ (∀ j, q ≤ j → j < a → isB (u j) = true) ∧ (a = n ∨ isB (u a) = false)
def runTo (P : Nat → Bool) (u : Nat → Nat) (n a e : Nat) : Prop := a < e ∧ e ≤ n ∧ (∀ j, a ≤ j → j < e → P (u j) = true) ∧ (e = n ∨ P (u e) = false)
theorem skipL_S {u : Nat → Nat} {n a e : Nat} {S : St} (h : TS u n S) (hr : runTo isL u n a e) (h1 : gI S 1 = nI a) : Ok (f_X5_skipLetters S) (fun S' => Fr [1] [] S S' ∧ gI S' 1 = nI e) := by
  have hn := h.1
  obtain ⟨r1, r2, r3, r4⟩ := hr
  unfold f_X5_skipLetters
  refine loop_ok (fun i s => Fr [1] [] S s ∧ gI s 1 = nI (a + i)) (e - a) _ (by omega) ⟨(Fr.rf S).w (by decide) (by decide), h1⟩ ?_
  rintro i s hi ⟨g1, g2⟩
  obtain ⟨_, t2, t3⟩ := h.fr g1 (by decide)
  rcases Nat.lt_or_ge i (e - a) with q | q
  · obtain ⟨b1, b2⟩ := t3 (a + i) (by omega)
    refine go (s' := sI s 1 (nI (a + (i + 1)))) ?_ q ⟨(g1.tr Fr.i).w (by decide) (by decide), gI_sI_s _ _ _⟩
    simp (disch := omega) only [f_X5_skipLetters_L0, t2, g2, nI_leI, gd_nI, nI_clamp, b2, (bz_f1 _ b1).2.1, Option.bind_some, bI_0, r3 (a + i) (by omega) (by omega), bnd, nI_1]
    rw [if_neg (by omega)]
    rfl
  · have : i = e - a := by omega
    subst this
    have ea : a + (e - a) = e := by omega
    rw [ea] at g2
    refine out (r := s) ?_ ⟨g1, g2⟩
    rcases r4 with r4 | r4
    · simp (disch := omega) only [f_X5_skipLetters_L0, t2, g2, nI_leI]
      rw [if_pos (by omega)]
    · rcases Nat.lt_or_ge e n with z | z
      · obtain ⟨b1, b2⟩ := t3 e z
        simp (disch := omega) only [f_X5_skipLetters_L0, t2, g2, nI_leI, gd_nI, nI_clamp, b2, (bz_f1 _ b1).2.1, Option.bind_some, bI_0, r4]
        rw [if_neg (by omega)]
        rfl
      · simp (disch := omega) only [f_X5_skipLetters_L0, t2, g2, nI_leI]
        rw [if_pos (by omega)]
theorem dig_S {u c : Nat} (w : Nat) (h : isD u = true) (hu : u < 256) (hw : w ≤ 9999) : nI (w * 10) + bz u - 48 = nI (w * 10 + (u - 48)) := by
  unfold isD at h
  rw [decide_eq_true_iff] at h
  unfold bz
  rw [if_pos (by omega)]
  simp (disch := omega) only [NL0, NL1, NL2, NL3, NL4, NL5, NL6, NL7, NL8, NL9, nI_add]
  exact kC (by omega)
theorem number_S {u : Nat → Nat} {n a e : Nat} {S : St} (h : TS u n S) (hr : runTo isD u n a e) (h1 : gI S 1 = nI a) (h3 : gI S 3 = nI a) : Ok (f_X5_readNumber S) (fun S' => Fr [1, 2, 4] [] S S' ∧ gI S' 1 = nI e ∧ gI S' 2 = (if e - a ≤ 4 then 2 else 0) ∧ gI S' 4 = nI (wor u a (e - a))) := by
  have hn := h.1
  obtain ⟨r1, r2, r3, r4⟩ := hr
  have hw := fun k (hk : k ≤ e - a) => wor_lt u a k (fun j hj => r3 (a + j) (by omega) (by omega))
  simp only [f_X5_readNumber, bnd]
  have hJ : ∀ s, Fr [1, 4] [] S s → gI s 1 = nI e → gI s 4 = nI (wor u a (e - a)) → Ok ((f_X5_readNumber_J81 s).bind (fun z => (some (.inr z) : Option (St ⊕ St)))) (fun t => ∃ S', t = .inr S' ∧ Fr [1, 2, 4] [] S S' ∧ gI S' 1 = nI e ∧ gI S' 2 = (if e - a ≤ 4 then 2 else 0) ∧ gI S' 4 = nI (wor u a (e - a))) := by
    intro s g1 g2 g4
    have g3 : gI s 3 = nI a := (g1.1 3 (by decide)).trans h3
    simp (disch := omega) only [f_X5_readNumber_J81, g2, g3, pk_sub, bnd, NL0, NL1, NL2, NL3, NL4, NL5, NL6, NL7, NL8, NL9]
    by_cases z : e - a ≤ 4
    · rw [if_pos z, if_pos z]
      refine Ok.sm ⟨_, rfl, (g1.tr Fr.i).w (by decide) (by decide), ?_, gI_sI_s _ _ _, ?_⟩
      · rw [gI_sI_n _ _ (by omega), g2]
      · rw [gI_sI_n _ _ (by omega), g4]
    · rw [if_neg z, if_neg z]
      refine Ok.sm ⟨_, rfl, (g1.tr Fr.i).w (by decide) (by decide), ?_, gI_sI_s _ _ _, ?_⟩
      · rw [gI_sI_n _ _ (by omega), g2]
      · rw [gI_sI_n _ _ (by omega), g4]
  refine loop_ok (fun i s => Fr [1, 4] [] S s ∧ gI s 1 = nI (a + i) ∧ gI s 4 = nI (wor u a i)) (e - a) _ (by omega) ⟨Fr.i.w (by decide) (by decide), by rw [gI_sI_n _ _ (by omega), h1]; rfl, gI_sI_s _ _ _⟩ ?_
  rintro i s hi ⟨g1, g2, g4⟩
  obtain ⟨_, t2, t3⟩ := h.fr g1 (by decide)
  have g3 : gI s 3 = nI a := (g1.1 3 (by decide)).trans h3
  rcases Nat.lt_or_ge i (e - a) with q | q
  · obtain ⟨b1, b2⟩ := t3 (a + i) (by omega)
    have hd1 := r3 (a + i) (by omega) (by omega)
    have hsub : nI (a + i) - nI a = nI i := by
      rw [pk_sub (by omega)]
      exact kC (by omega)
    by_cases z : 4 ≤ i
    · refine go (s' := sI s 1 (nI (a + (i + 1)))) ?_ q ⟨(g1.tr Fr.i).w (by decide) (by decide), gI_sI_s _ _ _, ?_⟩
      · simp (disch := omega) only [f_X5_readNumber_L5, t2, g2, g3, nI_leI, gd_nI, nI_clamp, b2, (bz_f1 _ b1).2.2, Option.bind_some, bI_0, hd1, bnd, nI_1, hsub, NL0, NL1, NL2, NL3, NL4, NL5, NL6, NL7, NL8, NL9]
        rw [if_neg (by omega), if_neg (by decide), if_pos z]
        rfl
      · rw [gI_sI_n _ _ (by omega), g4, wor, if_neg (by omega)]
    · refine go (s' := sI (sI s 4 (nI (wor u a (i + 1)))) 1 (nI (a + (i + 1)))) ?_ q ⟨(g1.tr (Fr.i.tr Fr.i)).w (by decide) (by decide), gI_sI_s _ _ _, ?_⟩
      · have hv : nI (wor u a i * 10) + bz (u (a + i)) - 48 = nI (wor u a (i + 1)) := by
          rw [dig_S (c := 0) _ hd1 b1 (hw i (by omega)).1, wor, if_pos (by omega)]
        simp (disch := omega) only [f_X5_readNumber_L5, t2, g2, g3, g4, nI_leI, gd_nI, nI_clamp, b2, (bz_f1 _ b1).2.2, Option.bind_some, bI_0, hd1, bnd, hsub, hv, gI_sI_n, nI_1, NL0, NL1, NL2, NL3, NL4, NL5, NL6, NL7, NL8, NL9]
        rw [if_neg (by omega), if_neg (by decide), if_neg z]
        rfl
      · rw [gI_sI_n _ _ (by omega), gI_sI_s]
  · have : i = e - a := by omega
    subst this
    have ea : a + (e - a) = e := by omega
    rw [ea] at g2
    obtain ⟨t, k1, S', rfl, k3⟩ := hJ s g1 g2 g4
    refine out (r := S') ?_ k3
    rcases r4 with r4 | r4
    · simp (disch := omega) only [f_X5_readNumber_L5, t2, g2, nI_leI]
      rw [if_pos (by omega)]
      exact k1
    · rcases Nat.lt_or_ge e n with z | z
      · obtain ⟨b1, b2⟩ := t3 e z
        simp (disch := omega) only [f_X5_readNumber_L5, t2, g2, nI_leI, gd_nI, nI_clamp, b2, (bz_f1 _ b1).2.2, Option.bind_some, bI_0, r4]
        rw [if_neg (by omega), if_pos trivial]
        exact k1
      · simp (disch := omega) only [f_X5_readNumber_L5, t2, g2, nI_leI]
        rw [if_pos (by omega)]
        exact k1
/-- the kind of the token in the class -/
def kdS (u : Nat → Nat) (n a e : Nat) : Int32 := if a = n then 4 else if isL (u a) then 1 else if isD (u a) then (if e - a ≤ 4 then 2 else 0) else if u a = 59 then 3 else 0
/-- where it ends -/
def tokTo (u : Nat → Nat) (n a e : Nat) : Prop := (a = n ∧ e = n) ∨ (a < n ∧ ((isL (u a) = true ∧ runTo isL u n a e) ∨ (isL (u a) = false ∧ isD (u a) = true ∧ runTo isD u n a e) ∨ (isL (u a) = false ∧ isD (u a) = false ∧ e = a + 1)))
theorem tok_ex (u : Nat → Nat) {n q : Nat} (hq : q ≤ n) : ∃ a e, tokAt u n q a ∧ tokTo u n a e := by
  obtain ⟨a, a1, a2, a3, a4⟩ := run_ex (fun j => isB (u j)) n (n - q) q (Nat.le_refl _) hq
  have run : ∀ P : Nat → Bool, a < n → P (u a) = true → ∃ e, runTo P u n a e := by
    intro P ha hP
    obtain ⟨e, e1, e2, e3, e4⟩ := run_ex (fun j => P (u j)) n (n - (a + 1)) (a + 1) (Nat.le_refl _) (by omega)
    refine ⟨e, by omega, e2, fun j h1 h2 => ?_, e4⟩
    rcases Nat.lt_or_ge a j with z | z
    · exact e3 j (by omega) h2
    · have : j = a := by omega
      rw [this]
      exact hP
  rcases Nat.lt_or_ge a n with z | z
  · cases l : isL (u a)
    · cases d : isD (u a)
      · exact ⟨a, a + 1, ⟨a1, a2, a3, a4⟩, Or.inr ⟨z, Or.inr (Or.inr ⟨l, d, rfl⟩)⟩⟩
      · obtain ⟨e, he⟩ := run isD z d
        exact ⟨a, e, ⟨a1, a2, a3, a4⟩, Or.inr ⟨z, Or.inr (Or.inl ⟨l, d, he⟩)⟩⟩
    · obtain ⟨e, he⟩ := run isL z l
      exact ⟨a, e, ⟨a1, a2, a3, a4⟩, Or.inr ⟨z, Or.inl ⟨l, he⟩⟩⟩
  · have : a = n := by omega
    exact ⟨a, n, ⟨a1, a2, a3, a4⟩, Or.inl ⟨this, rfl⟩⟩
theorem tok_end {u : Nat → Nat} {n a e : Nat} (h : tokTo u n a e) (ha : a ≤ n) : a ≤ e ∧ e ≤ n ∧ (a < n → a < e) := by
  rcases h with ⟨h1, h2⟩ | ⟨h1, ⟨_, h2⟩ | ⟨_, _, h2⟩ | ⟨_, _, h2⟩⟩
  · omega
  · have := h2.1
    have := h2.2.1
    omega
  · have := h2.1
    have := h2.2.1
    omega
  · omega
theorem next_tok {u : Nat → Nat} {n q a e : Nat} {S : St} (h : TS u n S) (h1 : gI S 1 = nI q) (ha : tokAt u n q a) (he : tokTo u n a e) : Ok (f_X5_nextToken S) (fun S' => Fr [1, 2, 3, 4] [] S S' ∧ gI S' 1 = nI e ∧ gI S' 3 = nI a ∧ gI S' 2 = kdS u n a e ∧ (kdS u n a e = 2 → gI S' 4 = nI (wor u a (e - a)))) := by
  have hn := h.1
  obtain ⟨a1, a2, a3, a4⟩ := ha
  have hJ : ∀ s, Fr [1] [] S s → gI s 1 = nI a → Ok ((f_X5_nextToken_J52 s).bind (fun z => (some (.inr z) : Option (St ⊕ St)))) (fun t => ∃ S', t = .inr S' ∧ Fr [1, 2, 3, 4] [] S S' ∧ gI S' 1 = nI e ∧ gI S' 3 = nI a ∧ gI S' 2 = kdS u n a e ∧ (kdS u n a e = 2 → gI S' 4 = nI (wor u a (e - a)))) := by
    intro s g1 g2
    have f3 : Fr [1, 3] [] S (sI s 3 (nI a)) := (g1.tr Fr.i).w (by decide) (by decide)
    have hs3 : TS u n (sI s 3 (nI a)) := h.fr f3 (by decide)
    have i1 : gI (sI s 3 (nI a)) 1 = nI a := by rw [gI_sI_n _ _ (by omega), g2]
    have i3 : gI (sI s 3 (nI a)) 3 = nI a := gI_sI_s _ _ _
    simp only [f_X5_nextToken_J52, bnd, g2]
    generalize sI s 3 (nI a) = s3 at f3 hs3 i1 i3
    obtain ⟨_, t2, t3⟩ := id hs3
    rw [i1, t2]
    rcases he with ⟨e1, e2⟩ | ⟨e1, he⟩
    · have : ¬ nI a < nI n := by
        rw [nI_ltI (by omega) (by omega)]
        omega
      rw [if_neg this]
      have k4 : kdS u n a e = 4 := by unfold kdS; rw [if_pos e1]
      refine Ok.sm ⟨_, rfl, (f3.tr Fr.i).w (by decide) (by decide), ?_, ?_, ?_, fun z => ?_⟩
      · rw [gI_sI_n _ _ (by omega), i1, e2, e1]
      · rw [gI_sI_n _ _ (by omega), i3]
      · rw [gI_sI_s, k4]
      · rw [k4] at z
        exact absurd z (by decide)
    · have : nI a < nI n := nI_lt e1 (by omega)
      obtain ⟨b1, b2⟩ := t3 a e1
      rw [if_pos this]
      simp (disch := omega) only [gd_nI, nI_clamp, b2, (bz_f1 _ b1).2.1, (bz_f1 _ b1).2.2, Option.bind_some, bI_0]
      have kk : kdS u n a e = if isL (u a) then 1 else if isD (u a) then (if e - a ≤ 4 then 2 else 0) else if u a = 59 then 3 else 0 := by
        unfold kdS
        rw [if_neg (by omega)]
      rcases he with ⟨l, hr⟩ | ⟨l, d, hr⟩ | ⟨l, d, he⟩
      · rw [l] at kk ⊢
        rw [if_neg (by decide)]
        have f4 : Fr [1, 2, 3] [] S (sI s3 2 1) := (f3.tr Fr.i).w (by decide) (by decide)
        obtain ⟨S', k1, k2, k3⟩ := skipL_S (S := sI s3 2 1) (h.fr f4 (by decide)) hr (by rw [gI_sI_n _ _ (by omega), i1])
        rw [k1]
        refine Ok.sm ⟨S', rfl, (f4.tr k2).w (by decide) (by decide), k3, ?_, ?_, fun z => ?_⟩
        · rw [k2.1 3 (by decide), gI_sI_n _ _ (by omega), i3]
        · rw [k2.1 2 (by decide), gI_sI_s, kk]
          rfl
        · rw [kk, if_pos rfl] at z
          exact absurd z (by decide)
      · rw [l, d] at kk
        rw [l, d, if_pos rfl, if_neg (by decide)]
        obtain ⟨S', k1, k2, k3, k4, k5⟩ := number_S hs3 hr i1 i3
        rw [k1]
        refine Ok.sm ⟨S', rfl, (f3.tr k2).w (by decide) (by decide), k3, ?_, ?_, fun _ => k5⟩
        · rw [k2.1 3 (by decide), i3]
        · rw [k4, kk]
          rfl
      · rw [l, d] at kk
        rw [l, d, if_pos rfl, if_pos rfl]
        have hfin : ∀ z : Int32, kdS u n a e = z → ¬ z = 2 → Ok ((f_X5_nextToken_J148 z s3).bind (fun z => (some (.inr z) : Option (St ⊕ St)))) (fun t => ∃ S', t = .inr S' ∧ Fr [1, 2, 3, 4] [] S S' ∧ gI S' 1 = nI e ∧ gI S' 3 = nI a ∧ gI S' 2 = kdS u n a e ∧ (kdS u n a e = 2 → gI S' 4 = nI (wor u a (e - a)))) := by
          intro z hz hz2
          simp only [f_X5_nextToken_J148, bnd, gI_sI_n _ _ (show (1 : Nat) ≠ 2 by omega), i1, nI_1]
          refine Ok.sm ⟨_, rfl, (f3.tr (Fr.i.tr Fr.i)).w (by decide) (by decide), ?_, ?_, ?_, fun y => ?_⟩
          · rw [gI_sI_s, he]
          · rw [gI_sI_n _ _ (by omega), gI_sI_n _ _ (by omega), i3]
          · rw [gI_sI_n _ _ (by omega), gI_sI_s, hz]
          · exact absurd (hz.symm.trans y) hz2
        by_cases z : u a = 59
        · rw [if_pos ((bz_59 b1).mpr z)]
          exact hfin 3 (by rw [kk, if_pos z]; rfl) (by decide)
        · rw [if_neg (fun y => z ((bz_59 b1).mp y))]
          exact hfin 0 (by rw [kk, if_neg z]; rfl) (by decide)
  unfold f_X5_nextToken
  refine loop_ok (fun i s => Fr [1] [] S s ∧ gI s 1 = nI (q + i)) (a - q) _ (by omega) ⟨(Fr.rf S).w (by decide) (by decide), h1⟩ ?_
  rintro i s hi ⟨g1, g2⟩
  obtain ⟨_, t2, t3⟩ := h.fr g1 (by decide)
  rcases Nat.lt_or_ge i (a - q) with z | z
  · obtain ⟨b1, b2⟩ := t3 (q + i) (by omega)
    have hb := a3 (q + i) (by omega) (by omega)
    unfold isB at hb
    rw [decide_eq_true_iff] at hb
    refine go (s' := sI s 1 (nI (q + (i + 1)))) ?_ z ⟨(g1.tr Fr.i).w (by decide) (by decide), gI_sI_s _ _ _⟩
    simp (disch := omega) only [f_X5_nextToken_L0, t2, g2, nI_leI, gd_nI, nI_clamp, b2, bnd, nI_1, bz_32 b1, bz_10 b1]
    rw [if_neg (by omega)]
    by_cases y : u (q + i) = 32
    · rw [if_pos y]
      rfl
    · have y2 : u (q + i) = 10 := by omega
      rw [if_neg y, if_pos y2]
      rfl
  · have : i = a - q := by omega
    subst this
    have ea : q + (a - q) = a := by omega
    rw [ea] at g2
    obtain ⟨t, k1, S', rfl, k3⟩ := hJ s g1 g2
    refine out (r := S') ?_ k3
    rcases a4 with a4 | a4
    · simp (disch := omega) only [f_X5_nextToken_L0, t2, g2, nI_leI]
      rw [if_pos (by omega)]
      exact k1
    · rcases Nat.lt_or_ge a n with z | z
      · obtain ⟨b1, b2⟩ := t3 a z
        unfold isB at a4
        rw [decide_eq_false_iff_not] at a4
        simp (disch := omega) only [f_X5_nextToken_L0, t2, g2, nI_leI, gd_nI, nI_clamp, b2, bz_32 b1, bz_10 b1]
        rw [if_neg (by omega), if_neg (by omega), if_neg (by omega)]
        exact k1
      · simp (disch := omega) only [f_X5_nextToken_L0, t2, g2, nI_leI]
        rw [if_pos (by omega)]
        exact k1
