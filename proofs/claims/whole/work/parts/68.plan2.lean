/-! ===== pure part: plans: which nights a lawyer may have, in the class ===== -/
def giv (T : St) (p d s : Nat) (v : Int32) : Nat → St
  | 0 => T
  | j + 1 => if s.testBit j then sM (giv T p d s v j) 11 (1000 * p + (d + j)) v else giv T p d s v j
theorem giv_same (T : St) (p d s : Nat) (v : Int32) : ∀ j, SameD T (giv T p d s v j)
  | 0 => SameD.rf T
  | j + 1 => by
    unfold giv
    split
    · exact (giv_same T p d s v j).tr SameD.sM
    · exact giv_same T p d s v j
theorem giv_dt {T : St} {p d s : Nat} {v : Int32} {q e : Nat} (he : e < 1000) : ∀ j, (∀ i, i < j → s.testBit i = true → d + i < 1000) → dt (giv T p d s v j) q e = if q = p ∧ d ≤ e ∧ e < d + j ∧ s.testBit (e - d) = true then v else dt T q e
  | 0, _ => by
    rw [if_neg (fun z => by omega)]
    rfl
  | j + 1, hb => by
    have ih := giv_dt (T := T) (p := p) (v := v) (q := q) he j (fun i hi => hb i (by omega))
    unfold giv
    by_cases a : s.testBit j = true
    · rw [if_pos a, dt_up _ v (hb j (by omega) a) he]
      by_cases b : q = p ∧ e = d + j
      · rw [if_pos b, if_pos ⟨b.1, by omega, by omega, by rw [b.2, Nat.add_sub_cancel_left]; exact a⟩]
      · rw [if_neg b, ih]
        by_cases c : q = p ∧ d ≤ e ∧ e < d + j ∧ s.testBit (e - d) = true
        · rw [if_pos c, if_pos ⟨c.1, c.2.1, by omega, c.2.2.2⟩]
        · rw [if_neg c, if_neg]
          intro z
          exact c ⟨z.1, z.2.1, by
            rcases Nat.lt_or_ge e (d + j) with y | y
            · exact y
            · exact absurd ⟨z.1, by omega⟩ b, z.2.2.2⟩
    · rw [if_neg a, ih]
      by_cases c : q = p ∧ d ≤ e ∧ e < d + j ∧ s.testBit (e - d) = true
      · rw [if_pos c, if_pos ⟨c.1, c.2.1, by omega, c.2.2.2⟩]
      · rw [if_neg c, if_neg]
        intro z
        refine c ⟨z.1, z.2.1, ?_, z.2.2.2⟩
        rcases Nat.lt_or_ge e (d + j) with y | y
        · exact y
        · have : e - d = j := by omega
          rw [this] at z
          exact absurd z.2.2.2 a
theorem bt16 : ∀ s, s < 16 → ∀ j, j < 4 → bt (nI s) j = s.testBit j := by decide +kernel
theorem RN.cg {nl : Nat} {S T T' : St} (h : ∀ p d, p < 6 → d < 1000 → dt T' p d = dt T p d) (hN : RN nl S T) : RN nl S T' := by
  have c : ∀ l d, d < 1000 → c6 T' l d = c6 T l d := by
    intro l d hd'
    unfold c6
    apply fb_ct_cong
    intro k hk
    rw [h k d hk hd']
  refine ⟨⟨fun p d hp hd' => ?_, fun p q d l hp hq hd' hl h1 h2 => ?_⟩, fun p d hp hd' => ?_, fun l d hl hd' => ?_, fun l hl => ?_⟩
  · rw [h p d hp hd']
    exact hN.1.1 p d hp hd'
  · rw [h p d hp hd'] at h1
    rw [h q d hq hd'] at h2
    exact hN.1.2 p q d l hp hq hd' hl h1 h2
  · rw [h p d hp hd']
    exact hN.2.1 p d hp hd'
  · unfold hd
    rw [c l d hd']
    exact hN.2.2.1 l d hl hd'
  · have : dtn T' l 1000 = dtn T l 1000 := by
      unfold dtn
      apply fb_sm_cong
      intro k hk
      exact c l k hk
    rw [this]
    exact hN.2.2.2 l hl
theorem giveSet_S {nl : Nat} {S T : St} (hN : RN nl S T) (h24 : nl ≤ 24) {p d s : Nat} {v : Int32} (hp : p < 6) (hs : s < 16) (hb : ∀ i, i < 4 → s.testBit i = true → d + i < 1000) (hd' : d < 1000) (hv : v = -1 ∨ ∃ l, l < nl ∧ v = nI l ∧ ∀ i, i < 4 → s.testBit i = true → ∀ q, q < 6 → q ≠ p → dt T q (d + i) ≠ nI l) :
    Ok (f_X4_giveSet S (nI p) (nI d) (nI s) v) (fun S' => RN nl S' (giv T p d s v 4) ∧ SameN S S') := by
  unfold f_X4_giveSet
  refine loop_ok (fun j t => ∃ S1, t = (nI j, S1) ∧ RN nl S1 (giv T p d s v j) ∧ SameN S S1) 4 _ (by omega) ⟨S, rfl, hN, SameN.rf S⟩ ?_
  rintro j t hj ⟨S1, rfl, g1, g2⟩
  rcases Nat.lt_or_ge j 4 with h | h
  · have hbit : f_X7_hasBit (nI s) (nI j) = some (bI (s.testBit j)) := by rw [hasBit_eq _ (by omega), bt16 s hs j h]
    cases q : s.testBit j
    · refine go (s' := (nI (j + 1), S1)) ?_ h ⟨S1, rfl, ?_, g2⟩
      · simp (disch := omega) only [f_X4_giveSet_L3, NL0, NL1, NL2, NL3, NL4, NL5, NL6, NL7, NL8, NL9, q_m1, q_m1', q_m1t, q_m1t', q_m1l, q_m1l', nI_clamp, nI_leI, nI_ltI, nI_eq, nI_add, nI_z, pk_mul, pk_sub, gd_nI, hbit, q, Option.bind_some, bnd, bI_f]
        rw [if_neg (by omega), if_pos trivial]
      · rw [giv, if_neg (by rw [q]; decide)]
        exact g1
    · have hd2 := hb j h q
      have hv2 : v = -1 ∨ ∃ l, l < nl ∧ v = nI l ∧ ∀ q, q < 6 → q ≠ p → dt (giv T p d s v j) q (d + j) ≠ nI l := by
        rcases hv with hv | ⟨l, h1, h2, h3⟩
        · exact Or.inl hv
        · refine Or.inr ⟨l, h1, h2, fun q' hq hqp => ?_⟩
          rw [giv_dt hd2 j (fun i hi => hb i (by omega)), if_neg (fun z => hqp z.1)]
          exact h3 j h q q' hq hqp
      obtain ⟨S2, e1, e2, e3⟩ := put_S g1 h24 (p := p) (d := d + j) (v := v) hp hd2 hv2
      refine go (s' := (nI (j + 1), S2)) ?_ h ⟨S2, rfl, ?_, g2.tr e3⟩
      · simp (disch := omega) only [f_X4_giveSet_L3, NL0, NL1, NL2, NL3, NL4, NL5, NL6, NL7, NL8, NL9, q_m1, q_m1', q_m1t, q_m1t', q_m1l, q_m1l', nI_clamp, nI_leI, nI_ltI, nI_eq, nI_add, nI_z, pk_mul, pk_sub, gd_nI, hbit, q, Option.bind_some, bnd, bI_t, e1]
        rw [if_neg (by omega), if_neg (by decide)]
      · rw [giv, if_pos q]
        exact e2
  · have : j = 4 := by omega
    subst this
    refine out (r := S1) ?_ ⟨g1, g2⟩
    simp (disch := omega) only [f_X4_giveSet_L3, NL0, NL1, NL2, NL3, NL4, NL5, NL6, NL7, NL8, NL9, q_m1, q_m1', q_m1t, q_m1t', q_m1l, q_m1l', nI_clamp, nI_leI, nI_ltI, nI_eq, nI_add, nI_z, pk_mul, pk_sub, gd_nI]
    rw [if_pos (Nat.le_refl _)]
/-- whether one may hangs on its own duties alone -/
theorem may_own {T0 T T' : St} {ne l p d : Nat} (h : SameD T0 T) (h' : SameD T0 T') (hh : ∀ e, e < 1000 → hd T l e = hd T' l e) : may T ne l p d = may T' ne l p d := by
  have hg : ∀ k, k ≠ 11 → gM T k = gM T' k := fun k hk => (h.2.1 k hk).trans (h'.2.1 k hk).symm
  have hz : ∀ z, hs T l z = hs T' l z := by
    intro z
    unfold hs
    by_cases a : 0 ≤ z ∧ z < 1000
    · rw [decide_eq_true a, hh z.toNat (by omega)]
    · rw [decide_eq_false a]
      rfl
  have hc : ∀ a k, cn T l a k = cn T' l a k := by
    intro a k
    unfold cn
    apply fb_ct_cong
    intro j _
    exact hz _
  have hnw : ∀ x r, nw T x ne r = nw T' x ne r := by
    intro x r
    unfold nw rl
    rw [hg 3 (by omega), hg 2 (by omega)]
  unfold may restOk wnOk wn sk rsN msN
  rw [hg 6 (by omega), hg 9 (by omega), hg 8 (by omega)]
  simp only [hnw, hc]
def my (T : St) (ne p d : Nat) (l s i : Nat) : Bool := may (giv T p d s (nI l) 4) ne l p (d + i)
theorem my_free {T : St} {ne p d l s i : Nat} (hb : ∀ i, i < 4 → s.testBit i = true → d + i < 1000) (hi : d + i < 1000) (h : my T ne p d l s i = true) : ∀ q, q < 6 → q ≠ p → dt T q (d + i) ≠ nI l := by
  intro q hq hqp
  have := may_free h hi q hq
  rw [giv_dt hi 4 hb, if_neg (fun z => hqp z.1)] at this
  exact this
theorem ft_iff {m : Nat → Nat → Nat → Bool} {l s : Nat} : ft m l s = true ↔ ∀ i, i < 4 → s.testBit i = true → m l (s % 2 ^ i) i = true := by
  unfold ft
  rw [allB_iff]
  constructor
  · intro h i hi hb
    have := h i hi
    rw [hb] at this
    simpa using this
  · intro h i hi
    cases q : s.testBit i
    · rfl
    · rw [h i hi q]
      rfl
theorem ft_0 (m : Nat → Nat → Nat → Bool) (l : Nat) : ft m l 0 = true := ft_iff.mpr (fun i _ h => by simp at h)
theorem tb1 : ∀ a, a < 4 → ∀ s, s < 2 ^ a → ∀ i, i < 4 → (2 ^ a + s).testBit i = (if i = a then true else s.testBit i) := by decide +kernel
theorem tb2 : ∀ a, a < 4 → ∀ s, s < 2 ^ a → ∀ i, i < a + 1 → (2 ^ a + s) % 2 ^ i = s % 2 ^ i := by decide +kernel
theorem tb3 : ∀ a, a < 4 → ∀ s, s < 2 ^ a → ∀ i, i < 4 → s.testBit i = true → i < a := by decide +kernel
theorem tb4 : ∀ a, a < 4 → ∀ s, s < 2 ^ a → s % 2 ^ a = s ∧ 2 ^ a + s < 16 ∧ s < 16 := by decide +kernel
theorem tbt : ∀ a, a < 4 → ∀ s, s < 2 ^ a → ∀ i, i < 4 → ((2 ^ a + s).testBit i = (if i = a then true else s.testBit i)) ∧ (i ≤ a → (2 ^ a + s) % 2 ^ i = s % 2 ^ i) ∧ (a ≤ i → s.testBit i = false) ∧ s % 2 ^ a = s ∧ 2 ^ a + s < 16 ∧ s < 16 := fun a ha s hs i hi => ⟨tb1 a ha s hs i hi, fun h => tb2 a ha s hs i (by omega), fun h => by
  cases q : s.testBit i
  · rfl
  · exact absurd (tb3 a ha s hs i hi q) (by omega), tb4 a ha s hs⟩
theorem ft_step (m : Nat → Nat → Nat → Bool) (l : Nat) {a s : Nat} (ha : a < 4) (hs : s < 2 ^ a) : ft m l (2 ^ a + s) = (ft m l s && m l s a) := by
  rw [Bool.eq_iff_iff, Bool.and_eq_true, ft_iff, ft_iff]
  constructor
  · intro h
    refine ⟨fun i hi hb => ?_, ?_⟩
    · have t := tbt a ha s hs i hi
      have hia : i < a := by
        rcases Nat.lt_or_ge i a with y | y
        · exact y
        · rw [t.2.2.1 y] at hb
          cases hb
      have := h i hi (by rw [t.1, if_neg (by omega)]; exact hb)
      rw [t.2.1 (by omega)] at this
      exact this
    · have t := tbt a ha s hs a ha
      have := h a ha (by rw [t.1, if_pos rfl])
      rw [t.2.1 (Nat.le_refl a), t.2.2.2.1] at this
      exact this
  · rintro ⟨h1, h2⟩ i hi hb
    have t := tbt a ha s hs i hi
    rw [t.1] at hb
    by_cases q : i = a
    · rw [t.2.1 (by omega), q, t.2.2.2.1]
      exact h2
    · rw [if_neg q] at hb
      have hia : i < a := by
        rcases Nat.lt_or_ge i a with y | y
        · exact y
        · rw [t.2.2.1 y] at hb
          cases hb
      rw [t.2.1 (by omega)]
      exact h1 i hi hb
theorem sub_bits : ∀ n, n < 5 → ∀ s, s < 2 ^ n → ∀ i, i < 4 → s.testBit i = true → i < n := by decide +kernel
theorem mod_bits : ∀ s, s < 16 → ∀ j, j < 4 → ∀ i, i < 4 → (s % 2 ^ j).testBit i = true → s.testBit i = true ∧ i < j := by decide +kernel
theorem mod_lt16 : ∀ s, s < 16 → ∀ j, j < 4 → s % 2 ^ j < 16 := by decide +kernel
/-- what is so while a plan is made: the nights are nobody's -/
def PB (ne nl p d n : Nat) (S T : St) : Prop := NB ne nl S T ∧ p < 6 ∧ n ≤ 4 ∧ d < 1000 ∧ d + n ≤ 1000 ∧ ∀ j, j < n → dt T p (d + j) = -1
theorem also_S {ne nl p d n l a s : Nat} {S T : St} (h : PB ne nl p d n S T) (hl : l < nl) (ha : a < n) (hs : s < 2 ^ a) (hf : ft (my T ne p d) l s = true) : Ok (f_X4_mayAlso S (nI l) (nI p) (nI d) (nI s) (nI a)) (fun r => r.1 = bI (my T ne p d l s a) ∧ RN nl r.2 T ∧ SameN S r.2) := by
  obtain ⟨hB, hp, hn, hd', hdn, hcl⟩ := h
  have h24 := hB.2.1.1
  have ht := tbt a (by omega) s hs 0 (by omega)
  have hsb : ∀ i, i < 4 → s.testBit i = true → d + i < 1000 := by
    intro i hi hb
    have := sub_bits a (by omega) s hs i hi hb
    omega
  have hfr : ∀ i, i < 4 → s.testBit i = true → ∀ q, q < 6 → q ≠ p → dt T q (d + i) ≠ nI l := by
    intro i hi hb
    have := ft_iff.mp hf i hi hb
    refine my_free (fun i' hi' hb' => ?_) (hsb i hi hb) this
    exact hsb i' hi' (mod_bits s ht.2.2.2.2.2 i hi i' hi' hb').1
  obtain ⟨S1, e1, r1, q1⟩ := giveSet_S hB.2.2 h24 (v := nI l) hp ht.2.2.2.2.2 hsb hd' (Or.inr ⟨l, hl, rfl, hfr⟩)
  have hB1 : NB ne nl S1 (giv T p d s (nI l) 4) := hB.up q1 (giv_same _ _ _ _ _ _) r1
  obtain ⟨S2, e2, r2, q2⟩ := giveSet_S r1 h24 (v := -1) hp ht.2.2.2.2.2 hsb hd' (Or.inl rfl)
  have hm := mayHave_S hB1.1 hB1.2.1 hB1.2.2 hl hp (d := d + a) (by omega)
  simp only [f_X4_mayAlso]
  rw [e1, Option.bind_some, nI_add, hm, Option.bind_some, e2, Option.bind_some, bI_gz]
  refine Ok.sm ⟨rfl, r2.cg (fun q e hq he => ?_), q1.tr q2⟩
  rw [giv_dt he 4 hsb, giv_dt he 4 hsb]
  by_cases c : q = p ∧ d ≤ e ∧ e < d + 4 ∧ s.testBit (e - d) = true
  · rw [if_pos c, c.1]
    have h1 := sub_bits a (by omega) s hs (e - d) (by omega) c.2.2.2
    have := hcl (e - d) (by omega)
    rw [Nat.add_sub_cancel' c.2.1] at this
    exact this
  · rw [if_neg c, if_neg c]
theorem sh_t : ∀ a, a < 5 → ((1 : Int32) <<< (nI a &&& 31)) = nI (2 ^ a) := by decide +kernel
theorem or_t : ∀ a, a < 4 → ∀ s, s < 2 ^ a → (nI s ||| ((1 : Int32) <<< (nI a &&& 31))) = nI (2 ^ a + s) := by decide +kernel
theorem pow_t : ∀ a, a < 4 → 2 ^ a + 2 ^ a = 2 ^ (a + 1) ∧ 2 ^ a ≤ 8 := by decide +kernel
theorem fit_S {ne nl p d n l : Nat} {S T : St} (h : PB ne nl p d n S T) (hl : l < nl) : Ok (f_X4_fittingSets S (nI l) (nI p) (nI d) (nI n)) (fun r => (∀ s, s < 32 → bt r.1 s = (decide (s < 2 ^ n) && ft (my T ne p d) l s)) ∧ RN nl r.2 T ∧ SameN S r.2) := by
  have hn := h.2.2.1
  unfold f_X4_fittingSets
  refine loop_ok (fun a t => ∃ v S1, t = (v, nI a, S1) ∧ (∀ s, s < 32 → bt v s = (decide (s < 2 ^ a) && ft (my T ne p d) l s)) ∧ RN nl S1 T ∧ SameN S S1) n _ (by omega) ⟨1, S, rfl, fun s hs => ?_, h.1.2.2, SameN.rf S⟩ ?_
  · have h1 : ∀ i, i < 32 → bt 1 i = decide (i = 0) := by decide +kernel
    rw [h1 s hs]
    by_cases z : s = 0
    · subst z
      rw [ft_0]
      rfl
    · have : ¬ s < 2 ^ 0 := by
        rw [Nat.pow_zero]
        omega
      rw [decide_eq_false z, decide_eq_false this]
      rfl
  · rintro a t ha ⟨v, S1, rfl, hv, hN1, hS1⟩
    rcases Nat.lt_or_ge a n with q | q
    · have ha4 : a < 4 := by omega
      obtain ⟨pw1, pw2⟩ := pow_t a ha4
      suffices H : Ok (loopF (f_X4_fittingSets_L16 (nI a) (nI l) (nI p) (nI d)) FU (v, 0, S1)) (fun t => ∃ v' S', t = .inl (v', nI (a + 1), S') ∧ (∀ s, s < 32 → bt v' s = (decide (s < 2 ^ (a + 1)) && ft (my T ne p d) l s)) ∧ RN nl S' T ∧ SameN S S') by
        obtain ⟨t, e1, v', S', rfl, k⟩ := H
        refine go (s' := (v', nI (a + 1), S')) ?_ q ⟨v', S', rfl, k⟩
        simp (disch := omega) only [f_X4_fittingSets_L6, nI_leI]
        rw [if_neg (by omega)]
        exact e1
      refine loop_ok (fun s t => ∃ v' S2, t = (v', nI s, S2) ∧ (∀ x, x < 32 → bt v' x = (decide (x < 2 ^ a + s) && ft (my T ne p d) l x)) ∧ RN nl S2 T ∧ SameN S S2) (2 ^ a) _ (by omega) ⟨v, S1, rfl, hv, hN1, hS1⟩ ?_
      rintro s t hs ⟨v', S2, rfl, hv', hN2, hS2⟩
      rcases Nat.lt_or_ge s (2 ^ a) with y | y
      · have hst := ft_step (my T ne p d) l ha4 y
        have hb : f_X7_hasBit v' (nI s) = some (bI (ft (my T ne p d) l s)) := by
          rw [hasBit_eq _ (by omega), hv' s (by omega), decide_eq_true (by omega)]
          rfl
        -- without this set
        have hno : ft (my T ne p d) l (2 ^ a + s) = false → ∀ x, x < 32 → bt v' x = (decide (x < 2 ^ a + (s + 1)) && ft (my T ne p d) l x) := by
          intro z x hx
          rw [hv' x hx]
          by_cases w : x = 2 ^ a + s
          · rw [w, z]
            simp
          · have : decide (x < 2 ^ a + s) = decide (x < 2 ^ a + (s + 1)) := decide_eq_decide.mpr ⟨fun _ => by omega, fun _ => by omega⟩
            rw [this]
        have hlt : ¬ nI (2 ^ a) ≤ nI s := nI_ge y (by omega)
        cases z : ft (my T ne p d) l s
        · refine go (s' := (v', nI (s + 1), S2)) ?_ y ⟨v', S2, rfl, hno (by rw [hst, z]; rfl), hN2, hS2⟩
          simp only [f_X4_fittingSets_L16, sh_t a (by omega), hb, z, bI_f, Option.bind_some, bnd, nI_1]
          rw [if_neg hlt, if_pos trivial]
        · have hPB : PB ne nl p d n S2 T := ⟨⟨hS2.e h.1.1, hS2.p h.1.2.1, hN2⟩, h.2⟩
          obtain ⟨⟨r, S3⟩, e1, e2, e3, e4⟩ := also_S hPB hl q y z
          have e2 : r = bI (my T ne p d l s a) := e2
          subst e2
          cases w : my T ne p d l s a
          · refine go (s' := (v', nI (s + 1), S3)) ?_ y ⟨v', S3, rfl, hno (by rw [hst, z, w]; rfl), e3, hS2.tr e4⟩
            simp only [f_X4_fittingSets_L16, sh_t a (by omega), hb, z, bI_t, Option.bind_some, bnd, nI_1, e1, w]
            rw [if_neg hlt, if_neg (by decide)]
            rfl
          · refine go (s' := (v' ||| ((1 : Int32) <<< (nI (2 ^ a + s) &&& 31)), nI (s + 1), S3)) ?_ y ⟨_, S3, rfl, fun x hx => ?_, e3, hS2.tr e4⟩
            · have or' := or_t a ha4 s y
              rw [sh_t a (by omega)] at or'
              simp only [f_X4_fittingSets_L16, sh_t a (by omega), hb, z, bI_t, Option.bind_some, bnd, nI_1, e1, w, or']
              rw [if_neg hlt, if_neg (by decide)]
              rfl
            · rw [bt_set _ (by omega) hx, hv' x hx]
              by_cases u : x = 2 ^ a + s
              · rw [u, hst, z, w]
                simp
              · have : decide (x < 2 ^ a + s) = decide (x < 2 ^ a + (s + 1)) := decide_eq_decide.mpr ⟨fun _ => by omega, fun _ => by omega⟩
                rw [this]
                simp [u]
      · have : s = 2 ^ a := by omega
        subst this
        refine out (r := .inl (v', nI (a + 1), S2)) ?_ ⟨v', S2, rfl, fun x hx => ?_, hN2, hS2⟩
        · simp only [f_X4_fittingSets_L16, sh_t a (by omega), bnd, nI_1]
          rw [if_pos (nI_le (Nat.le_refl _) (by omega))]
        · rw [hv' x hx, pw1]
    · have : a = n := by omega
      subst this
      refine out (r := (v, S1)) ?_ ⟨hv, hN1, hS1⟩
      simp (disch := omega) only [f_X4_fittingSets_L6, nI_leI]
      rw [if_pos (Nat.le_refl _)]
