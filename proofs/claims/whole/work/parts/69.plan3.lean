/-! ===== pure part: plans: the least way, built up lawyer by lawyer ===== -/
def MX : Int64 := 1152921504606846976
theorem MX_n : MX = lN 1152921504606846976 := rfl
theorem cmp0 (x y : Int64) : lg_cmp x y = 0 ↔ x = y := by
  unfold lg_cmp
  by_cases a : x > y
  · rw [if_pos a]
    refine ⟨fun z => absurd z (by decide), fun z => ?_⟩
    rw [z, gt_iff_lt, fa_lt64] at a
    omega
  · rw [if_neg a]
    by_cases b : x = y
    · rw [if_pos b]
      exact ⟨fun _ => b, fun _ => rfl⟩
    · rw [if_neg b]
      exact ⟨fun z => absurd z (by decide), fun z => absurd z b⟩
theorem lN_MX {c : Nat} (h : c < 1000000000000000) : ¬ lN c = MX := by
  rw [MX_n, pk_lEQ (by omega) (by omega)]
  omega
theorem cnt_t : ∀ s, s < 16 → f_bitCount (nI s) = nI (pc s) := by decide +kernel
theorem pc_le (s : Nat) : pc s ≤ 4 := by
  unfold pc
  repeat' split
  all_goals omega
theorem row_S (x s n : Nat) (hx : x < 32) (hs : s < 16) (hn : n ≤ 4) : f_X4_rowOf (nI x) (nI s) (nI n) = some (lN (ro x s n)) := by
  unfold f_X4_rowOf
  refine loop_eq (fun j => (lN (ro x s j), nI j)) n rfl (by omega) ?_ ?_
  · intro j hj
    have hbit : f_X7_hasBit (nI s) (nI j) = some (bI (s.testBit j)) := by rw [hasBit_eq _ (by omega), bt16 s hs j (by omega)]
    have h5 : ∀ m, lN m <<< ((5 : Int32).toInt64 &&& 63) = lN (m * 32) := fun m => wb_shl m (k := 5) (by omega)
    simp (disch := omega) only [f_X4_rowOf_L5, nI_leI, hbit, Option.bind_some, bnd, nI_1, h5, nI_l]
    rw [if_neg (by omega)]
    show _ = some (Sum.inl (lN (ro x s j * 32 + (if s.testBit j then x else 0)), nI (j + 1)))
    cases s.testBit j
    · rw [bI_f, if_pos rfl]
      have : ((0 : Int32).toInt64) = lN 0 := by decide
      rw [this, lN_add]
      rfl
    · rw [bI_t, if_neg (by decide), lN_add]
      rfl
  · simp (disch := omega) only [f_X4_rowOf_L5, nI_leI]
    rw [if_pos (Nat.le_refl _)]
theorem cost_S {S : St} {h : Nat → Nat} {l s n : Nat} (hl : l < 24) (hs : s < 16) (hn : n ≤ 4) (hh : gM S 19 l = nI (h l)) (h6 : h l ≤ 6000) : f_X4_costOf S (nI l) (nI s) (nI n) = some (lN (cst h n l s)) := by
  have h20 : ∀ m, lN m <<< ((20 : Int32).toInt64 &&& 63) = lN (m * 1048576) := fun m => wb_shl m (k := 20) (by omega)
  have hp := pc_le s
  have h2 : (2 : Int64) = lN 2 := rfl
  simp (disch := omega) only [f_X4_costOf, bnd, cnt_t s hs, nI_l, gd_nI, nI_clamp, hh, h2, lN_mul, lN_add, row_S l s n (by omega) hs hn, Option.bind_some, h20]
  rfl
theorem costN_S {s n : Nat} (hs : s < 16) (hn : n ≤ 4) : f_X4_costOfNone (nI s) (nI n) = some (lN (pc s * 17592186044416 + ro 24 s n)) := by
  have h44 : ∀ m, lN m <<< ((44 : Int32).toInt64 &&& 63) = lN (m * 17592186044416) := fun m => wb_shl m (k := 44) (by omega)
  have hp := pc_le s
  have h24 : (24 : Int32) = nI 24 := rfl
  simp (disch := omega) only [f_X4_costOfNone, bnd, cnt_t s hs, nI_l, h24, row_S 24 s n (by omega) hs hn, Option.bind_some, h44, lN_add]
/-- a part of a row: nights of g among the first l lawyers -/
def PRow (m : Nat → Nat → Nat → Bool) (l g : Nat) (w : Nat → Nat) : Prop := (∀ j, j < 4 → (g.testBit j = true → w j < l) ∧ (g.testBit j = false → 24 ≤ w j)) ∧ ∀ k, k < l → ft m k (ms w k) = true
def pco (h : Nat → Nat) (n l : Nat) (w : Nat → Nat) : Nat := fb_sm (fun k => cst h n k (ms w k)) l
theorem ro_lt (x s : Nat) (hx : x < 32) : ∀ n, ro x s n < 32 ^ n
  | 0 => by show 0 < 32 ^ 0; decide
  | n + 1 => by
    have := ro_lt x s hx n
    unfold ro
    rw [Nat.pow_succ]
    split <;> omega
theorem pco_lt {h : Nat → Nat} {n l : Nat} {w : Nat → Nat} (hn : n ≤ 4) (hl : l ≤ 24) (hh : ∀ k, k < l → h k ≤ 6000) : pco h n l w ≤ 1208415518720 := by
  have h1 : ∀ k, k < l → cst h n k (ms w k) ≤ 50350129152 := by
    intro k hk
    unfold cst
    have a := pc_le (ms w k)
    have b := hh k hk
    have c : pc (ms w k) * (2 * h k + pc (ms w k)) ≤ 4 * 12004 := Nat.mul_le_mul a (by omega)
    have d := ro_lt k (ms w k) (by omega) n
    have e : 32 ^ n ≤ 32 ^ 4 := Nat.pow_le_pow_right (by omega) hn
    have f : (32 : Nat) ^ 4 = 1048576 := by decide
    omega
  have h2 := fb_sm_bound h1
  have h3 : l * 50350129152 ≤ 24 * 50350129152 := Nat.mul_le_mul hl (Nat.le_refl _)
  unfold pco
  omega
/-- what stands in the row of the least ways -/
def AI (m : Nat → Nat → Nat → Bool) (h : Nat → Nat) (n l g : Nat) (x : Int64) : Prop := (∀ w, PRow m l g w → ∃ c, x = lN c ∧ c ≤ pco h n l w) ∧ (x = MX ∨ ∃ w, PRow m l g w ∧ x = lN (pco h n l w))
theorem PRow.up {m : Nat → Nat → Nat → Bool} {l g : Nat} {w : Nat → Nat} (h : PRow m l g w) (hl : l < 24) : PRow m (l + 1) g w ∧ ms w l = 0 := by
  have h0 : ms w l = 0 := by
    apply ext4 (ms_lt w l) (by omega)
    intro j hj
    rw [ms_bit w l hj, Nat.zero_testBit, decide_eq_false_iff_not]
    have := h.1 j hj
    cases q : g.testBit j
    · have := this.2 q
      omega
    · have := this.1 q
      omega
  refine ⟨⟨fun j hj => ⟨fun z => ?_, (h.1 j hj).2⟩, fun k hk => ?_⟩, h0⟩
  · have := (h.1 j hj).1 z
    omega
  · by_cases q : k = l
    · rw [q, h0]
      exact ft_0 m l
    · exact h.2 k (by omega)
theorem PRow.down {m : Nat → Nat → Nat → Bool} {l g : Nat} {w : Nat → Nat} (h : PRow m (l + 1) g w) (h0 : ms w l = 0) : PRow m l g w := by
  refine ⟨fun j hj => ⟨fun z => ?_, (h.1 j hj).2⟩, fun k hk => h.2 k (by omega)⟩
  have a := (h.1 j hj).1 z
  have b := ms_bit w l hj
  rw [h0, Nat.zero_testBit] at b
  have c : ¬ w j = l := by simpa using b.symm
  omega
theorem cst_0 (h : Nat → Nat) (n l : Nat) : cst h n l 0 = 0 := by
  have hr : ∀ n, ro l 0 n = 0 := by
    intro n
    induction n with
    | zero => rfl
    | succ n ih =>
      unfold ro
      rw [ih, Nat.zero_testBit]
      rfl
  unfold cst
  rw [hr]
  have : pc 0 = 0 := by decide
  rw [this]
  omega
theorem pco_up {h : Nat → Nat} {n l : Nat} {w : Nat → Nat} (h0 : ms w l = 0) : pco h n (l + 1) w = pco h n l w := by
  unfold pco
  rw [fb_sm_succ, h0, cst_0]
  rfl
/-- a lawyer that may have none of the nights -/
theorem AI.skip {m : Nat → Nat → Nat → Bool} {h : Nat → Nat} {n l g : Nat} {x : Int64} (hl : l < 24) (hf : ∀ s, s < 16 → s ≠ 0 → ft m l s = false) (hA : AI m h n l g x) : AI m h n (l + 1) g x := by
  refine ⟨fun w hw => ?_, ?_⟩
  · have h0 : ms w l = 0 := by
      by_cases z : ms w l = 0
      · exact z
      · have := hw.2 l (by omega)
        rw [hf _ (ms_lt w l) z] at this
        cases this
    rw [pco_up h0]
    exact hA.1 w (hw.down h0)
  · rcases hA.2 with z | ⟨w, h1, h2⟩
    · exact Or.inl z
    · have := h1.up hl
      refine Or.inr ⟨w, this.1, ?_⟩
      rw [pco_up this.2]
      exact h2
theorem sub_t : ∀ g, g < 16 → ∀ s, s < 16 → (s &&& g = s ↔ ∀ j, j < 4 → s.testBit j = true → g.testBit j = true) := by decide +kernel
theorem xor_t : ∀ g, g < 16 → ∀ s, s < 16 → ∀ j, j < 4 → (g ^^^ s).testBit j = (g.testBit j ^^ s.testBit j) := by decide +kernel
theorem xor_l : ∀ g, g < 16 → ∀ s, s < 16 → g ^^^ s < 16 ∧ (s &&& g = s → s ≠ 0 → g ^^^ s < g) := by decide +kernel
/-- what is taken of a row, and what is put to it -/
theorem PRow.cut {m : Nat → Nat → Nat → Bool} {h : Nat → Nat} {n l g s : Nat} {w : Nat → Nat} (hl : l < 24) (hg : g < 16) (hs : s < 16) (hsub : s &&& g = s) (hw : PRow m (l + 1) g w) (he : ms w l = s) : ∃ w', PRow m l (g ^^^ s) w' ∧ pco h n (l + 1) w = pco h n l w' + cst h n l s := by
  have hb : ∀ j, j < 4 → s.testBit j = decide (w j = l) := fun j hj => by rw [← he, ms_bit w l hj]
  have hsb := (sub_t g hg s hs).mp hsub
  have hms : ∀ k, k < l → ms (fun j => if s.testBit j then 24 else w j) k = ms w k := by
    intro k hk
    apply ext4 (ms_lt _ _) (ms_lt _ _)
    intro j hj
    rw [ms_bit _ _ hj, ms_bit _ _ hj]
    have b := hb j hj
    cases q : s.testBit j
    · rfl
    · rw [q] at b
      have : w j = l := by simpa using b.symm
      simp only [if_true]
      exact decide_eq_decide.mpr ⟨fun _ => by omega, fun _ => by omega⟩
  refine ⟨fun j => if s.testBit j then 24 else w j, ⟨fun j hj => ?_, fun k hk => ?_⟩, ?_⟩
  · have b := hb j hj
    have c := hw.1 j hj
    rw [xor_t g hg s hs j hj]
    dsimp only
    cases q : s.testBit j
    · rw [q] at b
      have : ¬ w j = l := by simpa using b.symm
      simp only [Bool.bne_false, Bool.xor_false, Bool.false_eq_true, if_false]
      refine ⟨fun z => ?_, fun z => c.2 z⟩
      have := c.1 z
      omega
    · rw [hsb j hj q]
      simp
  · rw [hms k hk]
    exact hw.2 k (by omega)
  · unfold pco
    rw [fb_sm_succ, he]
    refine congrArg (· + cst h n l s) ?_
    apply fb_sm_cong
    intro k hk
    rw [hms k hk]
theorem PRow.put {m : Nat → Nat → Nat → Bool} {h : Nat → Nat} {n l g s : Nat} {w : Nat → Nat} (hl : l < 24) (hg : g < 16) (hs : s < 16) (hsub : s &&& g = s) (hf : ft m l s = true) (hw : PRow m l (g ^^^ s) w) : ∃ w', PRow m (l + 1) g w' ∧ pco h n (l + 1) w' = pco h n l w + cst h n l s := by
  have hsb := (sub_t g hg s hs).mp hsub
  have hx := fun j (hj : j < 4) => xor_t g hg s hs j hj
  have hms : ∀ k, k < l → ms (fun j => if s.testBit j then l else w j) k = ms w k := by
    intro k hk
    apply ext4 (ms_lt _ _) (ms_lt _ _)
    intro j hj
    rw [ms_bit _ _ hj, ms_bit _ _ hj]
    cases q : s.testBit j
    · rfl
    · have b := hx j hj
      rw [q, hsb j hj q] at b
      have c := (hw.1 j hj).2 (by rw [b]; rfl)
      simp only [if_true]
      exact decide_eq_decide.mpr ⟨fun _ => by omega, fun _ => by omega⟩
  have hml : ms (fun j => if s.testBit j then l else w j) l = s := by
    apply ext4 (ms_lt _ _) hs
    intro j hj
    rw [ms_bit _ _ hj]
    cases q : s.testBit j
    · have c := hw.1 j hj
      rw [decide_eq_false_iff_not]
      simp only [Bool.false_eq_true, if_false]
      cases y : (g ^^^ s).testBit j
      · have := c.2 y
        omega
      · have := c.1 y
        omega
    · simp
  refine ⟨fun j => if s.testBit j then l else w j, ⟨fun j hj => ?_, fun k hk => ?_⟩, ?_⟩
  · have c := hw.1 j hj
    have b := hx j hj
    dsimp only
    cases q : s.testBit j
    · rw [q] at b
      simp only [Bool.false_eq_true, if_false]
      rw [b, Bool.xor_false] at c
      exact ⟨fun z => by have := c.1 z; omega, c.2⟩
    · simp only [if_true]
      refine ⟨fun _ => by omega, fun z => ?_⟩
      rw [hsb j hj q] at z
      cases z
  · by_cases z : k = l
    · rw [z, hml]
      exact hf
    · rw [hms k (by omega)]
      exact hw.2 k (by omega)
  · unfold pco
    rw [fb_sm_succ, hml]
    refine congrArg (· + cst h n l s) ?_
    apply fb_sm_cong
    intro k hk
    rw [hms k hk]
/-- all but the longs is the same -/
def SameJ (S S' : St) : Prop := S'.1 = S.1 ∧ S'.2.1 = S.2.1 ∧ S'.2.2.2 = S.2.2.2
theorem SameJ.rf (S : St) : SameJ S S := ⟨rfl, rfl, rfl⟩
theorem SameJ.tr {S S' S'' : St} (h : SameJ S S') (g : SameJ S' S'') : SameJ S S'' := ⟨g.1.trans h.1, g.2.1.trans h.2.1, g.2.2.trans h.2.2⟩
theorem SameJ.j {S : St} {k : Nat} {v : Int64} : SameJ S (sJ S k v) := ⟨rfl, rfl, rfl⟩
theorem SameJ.m {S S' : St} (h : SameJ S S') (k : Nat) : gM S' k = gM S k := congrFun h.2.1 k
theorem offer_S {S : St} {m : Nat → Nat → Nat → Bool} {h : Nat → Nat} {n l : Nat} {fits : Int32} (hn : n ≤ 4) (hl : l < 24) (hh : ∀ k, k < l + 1 → h k ≤ 6000) (h19 : gM S 19 l = nI (h l)) (hf : ∀ s, s < 32 → bt fits s = (decide (s < 2 ^ n) && ft m l s)) (hA : ∀ g, g < 2 ^ n → AI m h n l g (gJ S g)) :
    Ok (f_X4_offer S (nI l) (nI n) fits) (fun S' => SameJ S S' ∧ ∀ g, g < 2 ^ n → AI m h n (l + 1) g (gJ S' g)) := by
  have hN : 2 ^ n ≤ 16 := by
    have : 2 ^ n ≤ 2 ^ 4 := Nat.pow_le_pow_right (by omega) hn
    omega
  have hN1 : 1 ≤ 2 ^ n := Nat.one_le_two_pow
  have h6 : h l ≤ 6000 := hh l (by omega)
  have hall : f_X4_allNights (nI n) = some (nI (2 ^ n - 1)) := by
    unfold f_X4_allNights
    rw [sh_t n (by omega)]
    simp (disch := omega) only [NL0, NL1, NL2, NL3, NL4, NL5, NL6, NL7, NL8, NL9]
  simp only [f_X4_offer, hall, Option.bind_some]
  -- one round: the set g
  have round : ∀ (g : Nat) (S1 : St), g < 2 ^ n → 1 ≤ g → SameJ S S1 → (∀ x, x ≤ g → gJ S1 x = gJ S x) → (∀ x, g < x → x < 2 ^ n → AI m h n (l + 1) x (gJ S1 x)) → Ok (loopF (f_X4_offer_L14 (nI g) (nI l) (nI n) fits) FU (1, S1)) (fun t => ∃ S', t = .inl (nI g + (-1), S') ∧ SameJ S S' ∧ (∀ x, x < g → gJ S' x = gJ S x) ∧ (∀ x, g ≤ x → x < 2 ^ n → AI m h n (l + 1) x (gJ S' x))) := by
    intro g S1 hg hg1 hJ hlow hup
    have hg16 : g < 16 := by omega
    have hAg := hA g hg
    refine loop_ok (fun i t => ∃ S2, t = (nI (1 + i), S2) ∧ SameJ S S2 ∧ (∀ x, x < g → gJ S2 x = gJ S x) ∧ (∀ x, g < x → x < 2 ^ n → AI m h n (l + 1) x (gJ S2 x)) ∧ (∀ w, PRow m (l + 1) g w → ms w l < 1 + i → ∃ c, gJ S2 g = lN c ∧ c ≤ pco h n (l + 1) w) ∧ (gJ S2 g = MX ∨ ∃ w, PRow m (l + 1) g w ∧ gJ S2 g = lN (pco h n (l + 1) w))) g _ (by omega) ⟨S1, rfl, hJ, fun x hx => hlow x (by omega), hup, fun w hw h0 => ?_, ?_⟩ ?_
    · have h0 : ms w l = 0 := by omega
      rw [hlow g (Nat.le_refl g), pco_up h0]
      exact hAg.1 w (hw.down h0)
    · rw [hlow g (Nat.le_refl g)]
      rcases hAg.2 with z | ⟨w, h1, h2⟩
      · exact Or.inl z
      · have := h1.up hl
        refine Or.inr ⟨w, this.1, ?_⟩
        rw [pco_up this.2]
        exact h2
    · rintro i t hi ⟨S2, rfl, k1, k2, k3, k4, k5⟩
      rcases Nat.lt_or_ge i g with q | q
      · have hs16 : 1 + i < 16 := by omega
        have hxl := xor_l g hg16 (1 + i) hs16
        have h19' : gM S2 19 l = nI (h l) := by rw [k1.m]; exact h19
        -- nothing new with this set
        have skip : (∀ w, PRow m (l + 1) g w → ¬ ms w l = 1 + i) → f_X4_offer_L14 (nI g) (nI l) (nI n) fits (nI (1 + i), S2) = some (.inl (nI (1 + i + 1), S2)) → Ok (f_X4_offer_L14 (nI g) (nI l) (nI n) fits (nI (1 + i), S2)) (fun t => (∃ s', t = .inl s' ∧ i < g ∧ ∃ S2, s' = (nI (1 + (i + 1)), S2) ∧ SameJ S S2 ∧ (∀ x, x < g → gJ S2 x = gJ S x) ∧ (∀ x, g < x → x < 2 ^ n → AI m h n (l + 1) x (gJ S2 x)) ∧ (∀ w, PRow m (l + 1) g w → ms w l < 1 + (i + 1) → ∃ c, gJ S2 g = lN c ∧ c ≤ pco h n (l + 1) w) ∧ (gJ S2 g = MX ∨ ∃ w, PRow m (l + 1) g w ∧ gJ S2 g = lN (pco h n (l + 1) w))) ∨ (∃ r, t = .inr r ∧ ∃ S', r = .inl (nI g + (-1), S') ∧ SameJ S S' ∧ (∀ x, x < g → gJ S' x = gJ S x) ∧ (∀ x, g ≤ x → x < 2 ^ n → AI m h n (l + 1) x (gJ S' x)))) := by
          intro hno e
          refine go e q ⟨S2, rfl, k1, k2, k3, fun w hw hlt => ?_, k5⟩
          have := hno w hw
          exact k4 w hw (by omega)
        have hle : ¬ nI g < nI (1 + i) := by
          rw [nI_ltI (by omega) (by omega)]
          omega
        have hand : (nI (1 + i) &&& nI g = nI (1 + i)) ↔ ((1 + i) &&& g = 1 + i) := by
          have : (1 + i) &&& g ≤ 1 + i := Nat.and_le_left
          rw [fa_and, nI_eq (by omega) (by omega)]
        by_cases a : (1 + i) &&& g = 1 + i
        · have hb : f_X7_hasBit fits (nI (1 + i)) = some (bI (ft m l (1 + i))) := by
            rw [hasBit_eq _ (by omega), hf _ (by omega), decide_eq_true (by omega)]
            rfl
          have hxg : g ^^^ (1 + i) < g := hxl.2 a (by omega)
          have hA' := hA (g ^^^ (1 + i)) (by omega)
          have hJx : gJ S2 (g ^^^ (1 + i)) = gJ S (g ^^^ (1 + i)) := k2 _ hxg
          cases b : ft m l (1 + i)
          · refine skip (fun w hw z => ?_) ?_
            · have := hw.2 l (by omega)
              rw [z, b] at this
              cases this
            · simp only [f_X4_offer_L14, hb, b, bI_f, Option.bind_some, bnd, nI_1]
              rw [if_neg hle, if_pos (hand.mpr a), if_pos trivial]
          · rcases hA'.2 with c | ⟨w0, c1, c2⟩
            · refine skip (fun w hw z => ?_) ?_
              · obtain ⟨w', e1, e2⟩ := PRow.cut (h := h) (n := n) hl hg16 hs16 a hw z
                obtain ⟨cc, e3, e4⟩ := hA'.1 w' e1
                have hbd := pco_lt (h := h) (n := n) (l := l) (w := w') hn (by omega) (fun k hk => hh k (by omega))
                rw [c] at e3
                exact lN_MX (c := cc) (by omega) e3.symm
              · have hcm : lg_cmp (gJ S2 (g ^^^ (1 + i))) 1152921504606846976 = 0 := (cmp0 _ _).mpr (by rw [hJx]; exact c)
                simp (disch := omega) only [f_X4_offer_L14, hb, b, bI_t, Option.bind_some, bnd, nI_1, fb_xorI, gd_nI, nI_clamp, hcm]
                rw [if_neg hle, if_pos (hand.mpr a), if_neg (by decide), if_pos trivial]
            · have hbd := pco_lt (h := h) (n := n) (l := l) (w := w0) hn (by omega) (fun k hk => hh k (by omega))
              have hcs : cst h n l (1 + i) ≤ 50350129152 := by
                unfold cst
                have a1 := pc_le (1 + i)
                have c : pc (1 + i) * (2 * h l + pc (1 + i)) ≤ 4 * 12004 := Nat.mul_le_mul a1 (by omega)
                have d := ro_lt l (1 + i) (by omega) n
                have e : 32 ^ n ≤ 32 ^ 4 := Nat.pow_le_pow_right (by omega) hn
                have f : (32 : Nat) ^ 4 = 1048576 := by decide
                omega
              have hcm : ¬ lg_cmp (gJ S2 (g ^^^ (1 + i))) 1152921504606846976 = 0 := by
                rw [cmp0, hJx, c2]
                exact lN_MX (by omega)
              obtain ⟨w1, d1, d2⟩ := PRow.put (h := h) (n := n) hl hg16 hs16 a b c1
              have hco := cost_S (S := S2) (h := h) (l := l) (s := 1 + i) (n := n) hl hs16 hn h19' h6
              generalize hx : (if lN (pco h n (l + 1) w1) < gJ S2 g then lN (pco h n (l + 1) w1) else gJ S2 g) = x
              have hx2 : (x = lN (pco h n (l + 1) w1) ∧ (∀ c, gJ S2 g = lN c → c < 1000000000000000 → pco h n (l + 1) w1 ≤ c)) ∨ (x = gJ S2 g ∧ ∃ c, gJ S2 g = lN c ∧ c ≤ pco h n (l + 1) w1 ∧ c < 1000000000000000) := by
                rw [d2] at hx ⊢
                rcases k5 with e | ⟨w2, e1, e2⟩
                · left
                  have : lN (pco h n l w0 + cst h n l (1 + i)) < gJ S2 g := by
                    rw [e, MX_n, pk_lLT (by omega) (by omega)]
                    omega
                  rw [if_pos this] at hx
                  refine ⟨hx.symm, fun c hc hc2 => ?_⟩
                  rw [e] at hc
                  exact absurd hc.symm (lN_MX hc2)
                · have hbd2 := pco_lt (h := h) (n := n) (l := l + 1) (w := w2) hn (by omega) hh
                  rw [e2] at hx
                  have hlt : (lN (pco h n l w0 + cst h n l (1 + i)) < lN (pco h n (l + 1) w2)) ↔ (pco h n l w0 + cst h n l (1 + i) < pco h n (l + 1) w2) := by rw [pk_lLT (by omega) (by omega)]
                  by_cases z : pco h n l w0 + cst h n l (1 + i) < pco h n (l + 1) w2
                  · left
                    rw [if_pos (hlt.mpr z)] at hx
                    refine ⟨hx.symm, fun c hc hc2 => ?_⟩
                    rw [e2, pk_lEQ (by omega) (by omega)] at hc
                    omega
                  · right
                    rw [if_neg (fun y => z (hlt.mp y))] at hx
                    exact ⟨by rw [e2]; exact hx.symm, _, e2, by omega, by omega⟩
              refine go (s' := (nI (1 + i + 1), sJ S2 g x)) ?_ q ⟨_, rfl, k1.tr SameJ.j, fun y hy => ?_, fun y h1 h2 => ?_, fun w hw hlt => ?_, ?_⟩
              · simp (disch := omega) only [f_X4_offer_L14, hb, b, bI_t, Option.bind_some, bnd, nI_1, fb_xorI, gd_nI, nI_clamp, hco, hJx, c2, lN_add]
                rw [hJx, c2] at hcm
                rw [if_neg hle, if_pos (hand.mpr a), if_neg (by decide), if_neg hcm, ← d2, hx]
              · rw [gJ_sJ, pk_uLn (by omega)]
                exact k2 y hy
              · rw [gJ_sJ, pk_uLn (by omega)]
                exact k3 y h1 h2
              · rw [gJ_sJ, pk_uLs]
                by_cases z : ms w l = 1 + i
                · obtain ⟨w', e1, e2⟩ := PRow.cut (h := h) (n := n) hl hg16 hs16 a hw z
                  obtain ⟨cc, e3, e4⟩ := hA'.1 w' e1
                  have hbd' := pco_lt (h := h) (n := n) (l := l) (w := w') hn (by omega) (fun k hk => hh k (by omega))
                  rw [c2, pk_lEQ (by omega) (by omega)] at e3
                  rcases hx2 with ⟨f1, _⟩ | ⟨f1, c, f2, f3, _⟩
                  · exact ⟨_, f1, by omega⟩
                  · exact ⟨c, f1.trans f2, by omega⟩
                · obtain ⟨cc, e3, e4⟩ := k4 w hw (by omega)
                  have hbd' := pco_lt (h := h) (n := n) (l := l + 1) (w := w) hn (by omega) hh
                  rcases hx2 with ⟨f1, f2⟩ | ⟨f1, c, f2, f3, _⟩
                  · exact ⟨_, f1, Nat.le_trans (f2 cc e3 (by omega)) e4⟩
                  · exact ⟨cc, f1.trans e3, e4⟩
              · rw [gJ_sJ, pk_uLs]
                rcases hx2 with ⟨f1, _⟩ | ⟨f1, _⟩
                · exact Or.inr ⟨w1, d1, f1⟩
                · rw [f1]
                  exact k5
        · refine skip (fun w hw z => ?_) ?_
          · apply a
            rw [sub_t g hg16 (1 + i) hs16]
            intro j hj hb
            rw [← z, ms_bit w l hj, decide_eq_true_iff] at hb
            cases y : g.testBit j
            · have := (hw.1 j hj).2 y
              omega
            · rfl
          · simp only [f_X4_offer_L14, bnd, nI_1]
            rw [if_neg hle, if_neg (fun z => a (hand.mp z))]
      · have : i = g := by omega
        subst this
        refine out (r := .inl (nI i + (-1), S2)) ?_ ⟨S2, rfl, k1, k2, fun x h1 h2 => ?_⟩
        · simp only [f_X4_offer_L14, bnd]
          rw [if_pos (nI_lt (by omega) (by omega))]
        · by_cases z : x = i
          · subst z
            refine ⟨fun w hw => k4 w hw ?_, k5⟩
            -- a set of nights within x isn't above x
            have hle : ms w l &&& x = ms w l := by
              rw [sub_t x hg16 _ (ms_lt w l)]
              intro j hj hb
              rw [ms_bit w l hj, decide_eq_true_iff] at hb
              cases y : x.testBit j
              · have := (hw.1 j hj).2 y
                omega
              · rfl
            have : ms w l &&& x ≤ x := Nat.and_le_right
            omega
          · exact k3 x (by omega) h2
  -- all rounds, from the greatest set down
  have all : ∀ (g F : Nat) (S1 : St), g < F → g < 2 ^ n → SameJ S S1 → (∀ x, x ≤ g → gJ S1 x = gJ S x) → (∀ x, g < x → x < 2 ^ n → AI m h n (l + 1) x (gJ S1 x)) → Ok (loopF (f_X4_offer_L6 (nI l) (nI n) fits) F (nI g, S1)) (fun S' => SameJ S S' ∧ ∀ g, g < 2 ^ n → AI m h n (l + 1) g (gJ S' g)) := by
    intro g
    induction g with
    | zero =>
      intro F S1 hF _ hJ h1 h2
      obtain ⟨F', rfl⟩ : ∃ k, F = k + 1 := ⟨F - 1, by omega⟩
      have e : f_X4_offer_L6 (nI l) (nI n) fits (nI 0, S1) = some (.inr S1) := by
        simp only [f_X4_offer_L6]
        rw [if_pos (by decide)]
      simp only [loopF, e]
      refine Ok.sm ⟨hJ, fun x hx => ?_⟩
      by_cases z : x = 0
      · subst z
        rw [h1 0 (Nat.le_refl 0)]
        have hA0 := hA 0 hx
        refine ⟨fun w hw => ?_, ?_⟩
        · have h0 : ms w l = 0 := by
            apply ext4 (ms_lt w l) (by omega)
            intro j hj
            rw [ms_bit w l hj, Nat.zero_testBit, decide_eq_false_iff_not]
            have := (hw.1 j hj).2 (Nat.zero_testBit j)
            omega
          rw [pco_up h0]
          exact hA0.1 w (hw.down h0)
        · rcases hA0.2 with y | ⟨w, y1, y2⟩
          · exact Or.inl y
          · have := y1.up hl
            refine Or.inr ⟨w, this.1, ?_⟩
            rw [pco_up this.2]
            exact y2
      · exact h2 x (by omega) hx
    | succ g ih =>
      intro F S1 hF hg hJ h1 h2
      obtain ⟨F', rfl⟩ : ∃ k, F = k + 1 := ⟨F - 1, by omega⟩
      obtain ⟨t, e1, S2, rfl, k1, k2, k3⟩ := round (g + 1) S1 hg (by omega) hJ h1 h2
      have e : f_X4_offer_L6 (nI l) (nI n) fits (nI (g + 1), S1) = some (.inl (nI g, S2)) := by
        simp only [f_X4_offer_L6]
        rw [if_neg (nI_nle (by omega) (by omega)), e1, pk_m1]
      simp only [loopF, e]
      exact ih F' S2 (by omega) (by omega) k1 (fun x hx => k2 x (by omega)) (fun x y1 y2 => k3 x (by omega) y2)
  exact all (2 ^ n - 1) FU S (by unfold FU; omega) (by omega) (SameJ.rf S) (fun _ _ => rfl) (fun x h1 h2 => by omega)
