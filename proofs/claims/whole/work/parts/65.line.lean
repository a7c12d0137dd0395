/-! ===== pure part: lines of a text ===== -/
theorem bit0 (x : Int32) {l : Nat} (hl : l < 32) : (x &&& ((1 : Int32) <<< (nI l &&& 31))) = 0 ↔ bt x l = false := by
  constructor
  · intro e
    have h : bt (x &&& ((1 : Int32) <<< (nI l &&& 31))) l = bt 0 l := by rw [e]
    rw [b_and, bt_one hl hl, b_0] at h
    simpa using h
  · intro e
    apply b_ext
    intro i hi
    rw [b_and, bt_one hl hi, b_0]
    by_cases q : i = l
    · subst q
      rw [e]
      rfl
    · simp [q]
/-- which word the token is, 17: none -/
def wd (u : Nat → Nat) (n a e : Nat) : Nat := if kdS u n a e = 1 then key u a (e - a) else 17
theorem kd_same (u : Nat → Nat) (n a e : Nat) : (kdS u n a e = 4 ↔ a = n) ∧ (kdT u n a e = 4 ↔ a = n) ∧ (kdS u n a e = 3 ↔ kdT u n a e = 3) ∧ (kdS u n a e = 2 ↔ kdT u n a e = 2) ∧ (kdT u n a e = 1 ↔ wd u n a e < 17) := by
  have hk := key_le u a (e - a)
  unfold wd kdS kdT
  by_cases h1 : a = n
  · simp [h1]
  · cases h2 : isL (u a)
    · cases h3 : isD (u a)
      · by_cases h4 : u a = 59
        · simp [h1, h4]
        · simp [h1, h4]
      · by_cases h4 : e - a ≤ 4
        · simp [h1, h4]
        · simp [h1, h4]
    · by_cases h4 : key u a (e - a) = 17
      · simp [h1, h4]
      · have : key u a (e - a) < 17 := by omega
        simp [h1, h4, this]
/-- both have read the token from a to e -/
def TK (u : Nat → Nat) (n a e : Nat) (S T : St) : Prop :=
  (a ≤ e ∧ e ≤ n) ∧ gI S 1 = nI e ∧ gI S 3 = nI a ∧ gI S 2 = kdS u n a e ∧ (kdS u n a e = 2 → gI S 4 = nI (wor u a (e - a))) ∧
  gI T 5 = nI e ∧ gI T 4 = nI a ∧ gI T 2 = kdT u n a e ∧ (kdT u n a e = 2 → gI T 6 = nI (wor u a (e - a))) ∧ (kdT u n a e = 1 → gI T 3 = nI (wd u n a e)) ∧ (kdS u n a e = 2 → wor u a (e - a) ≤ 9999)
/-- what both know of a text so far -/
def RX (u : Nat → Nat) (n : Nat) (S T : St) : Prop := TS u n S ∧ TT u n T ∧ (∀ r, r < 11 → gM S 8 r = gM T 2 (220 + r)) ∧ (∀ r, r < 10 → gM T 4 r = bI (bt (gI S 7) r)) ∧ (∀ r, r < 9 → ∃ v, v ≤ 9999 ∧ gM S 8 r = nI v) ∧ (∃ v, v ≤ 9 ∧ gM S 8 2 = nI v)
theorem RX.fr {I M I' M' : List Nat} {u : Nat → Nat} {n : Nat} {S S' T T' : St} (a : Fr I M S S') (b : Fr I' M' T T') (c : (0 ∉ I ∧ 7 ∉ M) ∧ (1 ∉ I' ∧ 1 ∉ M') ∧ 8 ∉ M ∧ 7 ∉ I ∧ 2 ∉ M' ∧ 4 ∉ M') (h : RX u n S T) : RX u n S' T' := by
  obtain ⟨h1, h2, h3⟩ := h
  refine ⟨h1.fr a c.1, h2.fr b c.2.1, ?_⟩
  rw [a.2.1 8 c.2.2.1, a.1 7 c.2.2.2.1, b.2.1 2 c.2.2.2.2.1, b.2.1 4 c.2.2.2.2.2]
  exact h3
theorem both_tok {u : Nat → Nat} {n q : Nat} {S T : St} (h : RX u n S T) (hq : q ≤ n) (h1 : gI S 1 = nI q) (h5 : gI T 5 = nI q) : ∃ a e S1 T1, q ≤ a ∧ a ≤ n ∧ (a < n → a < e) ∧ f_X5_nextToken S = some S1 ∧ f_X8_scan T = some T1 ∧ Fr [1, 2, 3, 4] [] S S1 ∧ Fr [2, 3, 4, 5, 6] [] T T1 ∧ TK u n a e S1 T1 ∧ RX u n S1 T1 := by
  obtain ⟨a, e, ha, he⟩ := tok_ex u hq
  obtain ⟨S1, s1, s2, s3, s4, s5, s6⟩ := next_tok h.1 h1 ha he
  obtain ⟨T1, t1, t2, t3, t4, t5, t6, t7⟩ := scan_tok h.2.1 h5 ha he
  have hE := tok_end he ha.2.1
  have hs := kd_same u n a e
  refine ⟨a, e, S1, T1, ha.1, ha.2.1, hE.2.2, s1, t1, s2, t2, ⟨⟨hE.1, hE.2.1⟩, s3, s4, s5, s6, t3, t4, t5, t6, fun z => ?_, fun z => ?_⟩, h.fr s2 t2 (by decide)⟩
  · rw [t7 z]
    have := hs.2.2.2.2.mp z
    unfold wd at this ⊢
    split
    · rfl
    · rename_i g
      rw [if_neg g] at this
      omega
  · rcases he with ⟨e1, e2⟩ | ⟨e1, ⟨l, hr⟩ | ⟨l, d, hr⟩ | ⟨l, d, hr⟩⟩
    · unfold kdS at z
      rw [if_pos e1] at z
      exact absurd z (by decide)
    · unfold kdS at z
      rw [if_neg (by omega), l, if_pos rfl] at z
      exact absurd z (by decide)
    · exact (wor_lt u a (e - a) (fun j hj => hr.2.2.1 (a + j) (by omega) (by omega))).1
    · unfold kdS at z
      rw [if_neg (by omega), l, d, if_neg Bool.false_ne_true, if_neg Bool.false_ne_true] at z
      by_cases y : u a = 59
      · rw [if_pos y] at z
        exact absurd z (by decide)
      · rw [if_neg y] at z
        exact absurd z (by decide)
/-- the words of the token, in the class -/
theorem is_word {u : Nat → Nat} {n a e : Nat} {S T : St} (h : RX u n S T) (hk : TK u n a e S T) {k : Nat} (hk' : k < 17) : f_X5_tokenIs S k = some (bI (decide (wd u n a e = k))) := by
  obtain ⟨⟨k0, k00⟩, k1, k3, k2, _⟩ := hk
  unfold wd
  by_cases g : kdS u n a e = 1
  · rw [tokenIs_S h.1 k1 k3 (k2.trans g) k0 k00 (by omega), if_pos g]
    refine congrArg some (congrArg bI ?_)
    cases q : mt u a (e - a) k
    · symm
      rw [decide_eq_false_iff_not]
      intro z
      rw [(key_mt hk').mpr z] at q
      cases q
    · rw [decide_eq_true ((key_mt hk').mp q)]
  · rw [tokenIs_N (by rw [k2]; exact g) (by omega), if_neg g, decide_eq_false (by omega)]
    rfl
theorem loop_word {body : Int32 → Option (Int32 ⊕ Int32)} {w b c : Nat} (hc : c < 100) (hs : ∀ r, r < c → body (nI r) = if w = b + r then some (.inr (nI r)) else some (.inl (nI (r + 1)))) (h0 : body (nI c) = some (.inr (-1))) : loopF body FU 0 = some (if b ≤ w ∧ w < b + c then nI (w - b) else -1) := by
  apply Ok.eq
  refine loop_ok (fun i s => s = nI i ∧ ∀ r, r < i → w ≠ b + r) c _ (by omega) ⟨rfl, fun r hr => by omega⟩ ?_
  rintro i s hi ⟨rfl, hr⟩
  rcases Nat.lt_or_ge i c with q | q
  · by_cases z : w = b + i
    · refine out (r := nI i) (by rw [hs i q, if_pos z]) ?_
      rw [if_pos (by omega)]
      exact kC (by omega)
    · refine go (s' := nI (i + 1)) (by rw [hs i q, if_neg z]) q ⟨rfl, fun r hr2 => ?_⟩
      rcases Nat.lt_or_ge r i with y | y
      · exact hr r y
      · have : r = i := by omega
        rw [this]
        exact z
  · have : i = c := by omega
    subst this
    refine out (r := -1) h0 ?_
    rw [if_neg]
    intro z
    exact hr (w - b) (by omega) (by omega)
theorem ruleWord_t : ∀ r, r < 11 → f_X5_ruleWord (nI r) = some r := by decide +kernel
theorem orderWord_t : ∀ r, r < 3 → f_X5_orderWord (nI r) = some (11 + r) := by decide +kernel
theorem barWord_t : ∀ r, r < 3 → f_X5_barWord (nI r) = some (14 + r) := by decide +kernel
theorem rule_word {u : Nat → Nat} {n a e : Nat} {S T : St} (h : RX u n S T) (hk : TK u n a e S T) : f_X5_ruleOfWord S = some (if wd u n a e < 11 then nI (wd u n a e) else -1) := by
  have := loop_word (body := f_X5_ruleOfWord_L2 S) (w := wd u n a e) (b := 0) (c := 11) (by omega) ?_ ?_
  · unfold f_X5_ruleOfWord
    rw [this]
    simp
  · intro r hr
    simp (disch := omega) only [f_X5_ruleOfWord_L2, ruleWord_t, Option.bind_some, gn_p, is_word h hk, bI_0, bnd, nI_1, NL0, NL1, NL2, NL3, NL4, NL5, NL6, NL7, NL8, NL9]
    rw [if_neg (by omega)]
    by_cases z : wd u n a e = r
    · simp [z]
    · simp [z]
  · simp (disch := omega) only [f_X5_ruleOfWord_L2, NL0, NL1, NL2, NL3, NL4, NL5, NL6, NL7, NL8, NL9]
    rw [if_pos (Nat.le_refl _)]
theorem order_word {u : Nat → Nat} {n a e : Nat} {S T : St} (h : RX u n S T) (hk : TK u n a e S T) : f_X5_orderOfWord S = some (if 11 ≤ wd u n a e ∧ wd u n a e < 14 then nI (wd u n a e - 11) else -1) := by
  refine loop_word (body := f_X5_orderOfWord_L2 S) (w := wd u n a e) (b := 11) (c := 3) (by omega) ?_ ?_
  · intro r hr
    simp (disch := omega) only [f_X5_orderOfWord_L2, orderWord_t, Option.bind_some, gn_p, is_word h hk, bI_0, bnd, nI_1, NL0, NL1, NL2, NL3, NL4, NL5, NL6, NL7, NL8, NL9]
    rw [if_neg (by omega)]
    by_cases z : wd u n a e = 11 + r
    · simp [z]
    · simp [z]
  · simp (disch := omega) only [f_X5_orderOfWord_L2, NL0, NL1, NL2, NL3, NL4, NL5, NL6, NL7, NL8, NL9]
    rw [if_pos (Nat.le_refl _)]
theorem bar_word {u : Nat → Nat} {n a e : Nat} {S T : St} (h : RX u n S T) (hk : TK u n a e S T) : f_X5_barOfWord S = some (if 14 ≤ wd u n a e ∧ wd u n a e < 17 then nI (wd u n a e - 14) else -1) := by
  refine loop_word (body := f_X5_barOfWord_L2 S) (w := wd u n a e) (b := 14) (c := 3) (by omega) ?_ ?_
  · intro r hr
    simp (disch := omega) only [f_X5_barOfWord_L2, barWord_t, Option.bind_some, gn_p, is_word h hk, bI_0, bnd, nI_1, NL0, NL1, NL2, NL3, NL4, NL5, NL6, NL7, NL8, NL9]
    rw [if_neg (by omega)]
    by_cases z : wd u n a e = 14 + r
    · simp [z]
    · simp [z]
  · simp (disch := omega) only [f_X5_barOfWord_L2, NL0, NL1, NL2, NL3, NL4, NL5, NL6, NL7, NL8, NL9]
    rw [if_pos (Nat.le_refl _)]
/-- where a fault is told -/
def FA (S T : St) : Prop := ∃ k : Nat, 1 ≤ k ∧ k ≤ 3 ∧ gI S 8 = nI k ∧ gI T 7 = nI k ∧ gI S 9 = gI T 8
theorem fault_S (S : St) (k : Int32) : f_X5_setFault S k = some (sI (sI S 8 k) 9 (gI S 3)) := by
  simp (disch := omega) only [f_X5_setFault, bnd, gI_sI_n]
theorem fault_T (T : St) (k : Int32) : (f_X8_wrong T k).bind (fun x => gz x.1 (some (x.1, x.2))) = some (0, sI (sI T 7 k) 8 (gI T 4)) := by
  simp (disch := omega) only [f_X8_wrong, bnd, gI_sI_n, Option.bind_some, gz_0]
theorem fault_FA {u : Nat → Nat} {n a e k : Nat} {S T : St} (hk : TK u n a e S T) (h1 : 1 ≤ k) (h2 : k ≤ 3) : FA (sI (sI S 8 (nI k)) 9 (gI S 3)) (sI (sI T 7 (nI k)) 8 (gI T 4)) := by
  refine ⟨k, h1, h2, ?_, ?_, ?_⟩
  · rw [gI_sI_n _ _ (by omega), gI_sI_s]
  · rw [gI_sI_n _ _ (by omega), gI_sI_s]
  · rw [gI_sI_s, gI_sI_s, hk.2.2.1, hk.2.2.2.2.2.2.1]
/-- what reading may change -/
def FS (S S' : St) : Prop := Fr [1, 2, 3, 4, 5, 6, 7, 8, 9] [8] S S'
def FT (T T' : St) : Prop := Fr [2, 3, 4, 5, 6, 7, 8] [2, 4] T T' ∧ ∀ k, k < 220 → gM T' 2 k = gM T 2 k
theorem FS.of {I M : List Nat} {S S' : St} (h : Fr I M S S') (c : (∀ k ∈ I, k ∈ [1, 2, 3, 4, 5, 6, 7, 8, 9]) ∧ ∀ k ∈ M, k ∈ [8]) : FS S S' := h.w c.1 c.2
theorem FS.tr {S S' S'' : St} (h : FS S S') (g : FS S' S'') : FS S S'' := (Fr.tr h g).w (by decide) (by decide)
theorem FT.of {I M : List Nat} {S S' : St} (h : Fr I M S S') (c : (∀ k ∈ I, k ∈ [2, 3, 4, 5, 6, 7, 8]) ∧ (∀ k ∈ M, k ∈ [2, 4]) ∧ 2 ∉ M) : FT S S' := ⟨h.w c.1 c.2.1, fun k _ => by rw [h.2.1 2 c.2.2]⟩
theorem FT.m {T : St} {j : Nat} {v : Int32} (h : 220 ≤ j) : FT T (sM T 2 j v) := ⟨Fr.m.w (by decide) (by decide), fun k hk => by rw [gM_sM_s, pk_un (by omega)]⟩
theorem FT.tr {S S' S'' : St} (h : FT S S') (g : FT S' S'') : FT S S'' := ⟨(h.1.tr g.1).w (by decide) (by decide), fun k hk => (g.2 k hk).trans (h.2 k hk)⟩
/-- one turn of the class's loop, and its end -/
theorem turn_S {n c : Nat} {S S1 S2 : St} (hn : n ≤ 1000) (h0 : gI S 0 = nI n) (hc : c ≤ n) (h2 : ¬ gI S 2 = 4) (h8 : gI S 8 = 0) (e1 : f_X5_nextToken S = some S1) (e2 : f_X5_takeToken S1 = some S2) : f_X5_readTape_L46 (nI c, S) = some (.inl (nI (c + 1), S2)) := by
  simp (disch := omega) only [f_X5_readTape_L46, h0, nI_ltI, h8, if_true, e1, e2, Option.bind_some, bnd, nI_1]
  rw [if_neg (by omega), if_neg h2]
theorem last_S {c : Int32} {S : St} (h : gI S 2 = 4 ∨ ¬ gI S 8 = 0) : f_X5_readTape_L46 (c, S) = some (.inr ((if gI S 8 = 0 then 1 else 0), sI S 0 0)) := by
  have hJ : f_X5_readTape_J83 S = some ((if gI S 8 = 0 then 1 else 0), sI S 0 0) := by
    simp (disch := omega) only [f_X5_readTape_J83, bnd, gI_sI_n]
    split <;> rfl
  simp only [f_X5_readTape_L46, hJ, Option.bind_some]
  split
  · rfl
  · rename_i g1
    split
    · rfl
    · rename_i g2
      split
      · rename_i g3
        rcases h with h | h
        · exact absurd h g2
        · exact absurd g3 h
      · rfl
/-- the semicolon, and what comes behind it -/
theorem semi {u : Nat → Nat} {n q c : Nat} {S T : St} (h : RX u n S T) (hq : q ≤ n) (hc : c ≤ q) (h1 : gI S 1 = nI q) (h5 : gI T 5 = nI q) (w5 : gI S 5 = 4) (h8 : gI S 8 = 0) (h9 : gI S 9 = -1) (h2 : ¬ gI S 2 = 4) (t7 : gI T 7 = 0) (t8 : gI T 8 = -1) :
    (∃ S' T', (∀ F, loopF (f_X5_readTape_L46) (F + 2) (nI c, S) = some (0, sI S' 0 0)) ∧ f_X8_readLine_J245 T = some (0, T') ∧ FA S' T' ∧ FS S S' ∧ FT T T') ∨
    (∃ e S' T', q < e ∧ e ≤ n ∧ f_X5_readTape_L46 (nI c, S) = some (.inl (nI (c + 1), S')) ∧ f_X8_readLine_J245 T = (f_X8_scan T').bind (fun x => some (1, x)) ∧ RX u n S' T' ∧ FS S S' ∧ FT T T' ∧ gI S' 1 = nI e ∧ gI T' 5 = nI e ∧ gI S' 5 = 0 ∧ gI S' 8 = 0 ∧ gI S' 9 = -1 ∧ ¬ gI S' 2 = 4 ∧ gI T' 7 = 0 ∧ gI T' 8 = -1) := by
  have hn := h.1.1
  obtain ⟨a, e, S1, T1, a1, a2, a3, s1, t1, s2, t2, hk, hR⟩ := both_tok h hq h1 h5
  have hs := kd_same u n a e
  have w1 : gI S1 5 = 4 := (s2.1 5 (by decide)).trans w5
  have hta : f_X5_takeToken S1 = (f_X5_takeSemicolon S1).bind (fun x => some x) := by
    simp only [f_X5_takeToken, w1]
    rw [if_neg (by decide), if_neg (by decide), if_neg (by decide), if_neg (by decide)]
  by_cases g : kdS u n a e = 3
  · right
    have gT : kdT u n a e = 3 := hs.2.2.1.mp g
    have han : a < n := by
      rcases Nat.lt_or_ge a n with z | z
      · exact z
      · have : a = n := by omega
        rw [hs.1.mpr this] at g
        exact absurd g (by decide)
    have f5 : Fr [5] [] S1 (sI S1 5 0) := Fr.i
    refine ⟨e, sI S1 5 0, T1, by omega, hk.1.2, ?_, ?_, hR.fr f5 (Fr.rf T1) (by decide), (FS.of s2 (by decide)).tr (FS.of f5 (by decide)), FT.of t2 (by decide), ?_, hk.2.2.2.2.2.1, gI_sI_s _ _ _, ?_, ?_, ?_, ?_, ?_⟩
    · refine turn_S hn h.1.2.1 (by omega) h2 h8 s1 ?_
      rw [hta]
      simp only [f_X5_takeSemicolon, hk.2.2.2.1, g, if_true, bnd]
      rfl
    · simp only [f_X8_readLine_J245, t1, Option.bind_some, hk.2.2.2.2.2.2.2.1, gT, if_true]
    · rw [gI_sI_n _ _ (by omega), hk.2.1]
    · rw [gI_sI_n _ _ (by omega), s2.1 8 (by decide), h8]
    · rw [gI_sI_n _ _ (by omega), s2.1 9 (by decide), h9]
    · rw [gI_sI_n _ _ (by omega), hk.2.2.2.1, g]
      decide
    · rw [t2.1 7 (by decide), t7]
    · rw [t2.1 8 (by decide), t8]
  · left
    have gT : ¬ kdT u n a e = 3 := fun z => g (hs.2.2.1.mpr z)
    refine ⟨sI (sI S1 8 (nI 1)) 9 (gI S1 3), sI (sI T1 7 (nI 1)) 8 (gI T1 4), fun F => ?_, ?_, fault_FA hk (by omega) (by omega), (FS.of s2 (by decide)).tr (FS.of (Fr.i.tr Fr.i) (by decide)), (FT.of t2 (by decide)).tr (FT.of (Fr.i.tr Fr.i) (by decide))⟩
    · have e1 : f_X5_readTape_L46 (nI c, S) = some (.inl (nI (c + 1), sI (sI S1 8 (nI 1)) 9 (gI S1 3))) := by
        refine turn_S hn h.1.2.1 (by omega) h2 h8 s1 ?_
        rw [hta]
        simp only [f_X5_takeSemicolon, hk.2.2.2.1]
        rw [if_neg g, fault_S]
        rfl
      have i8 : gI (sI (sI S1 8 (nI 1)) 9 (gI S1 3)) 8 = 1 := by
        rw [gI_sI_n _ _ (by omega), gI_sI_s]
        rfl
      have e2 := last_S (c := nI (c + 1)) (S := sI (sI S1 8 (nI 1)) 9 (gI S1 3)) (Or.inr (by rw [i8]; decide))
      rw [i8, if_neg (by decide)] at e2
      simp only [loopF, e1, e2]
    · simp only [f_X8_readLine_J245, t1, Option.bind_some, hk.2.2.2.2.2.2.2.1]
      rw [if_neg gT]
      exact fault_T T1 1
