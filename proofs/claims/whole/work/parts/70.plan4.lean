/-! ===== pure part: plans: the class's choice ===== -/
/-- a whole row's given nights -/
def gvn (nl : Nat) (w : Nat → Nat) : Nat := mk4 (fun j => decide (w j < nl))
theorem full_t : ∀ n, n < 5 → ∀ j, j < 4 → (2 ^ n - 1).testBit j = decide (j < n) := by decide +kernel
theorem fullx : ∀ n, n < 5 → ∀ g, g < 2 ^ n → (2 ^ n - 1) ^^^ g < 16 ∧ g < 16 ∧ 2 ^ n - 1 < 16 := by decide +kernel
theorem g_top : ∀ n, n < 5 → ∀ g, g < 16 → (∀ j, j < 4 → n ≤ j → g.testBit j = false) → g < 2 ^ n := by decide +kernel
theorem FRow.part {m : Nat → Nat → Nat → Bool} {n nl : Nat} {w : Nat → Nat} (hn : n ≤ 4) (h24 : nl ≤ 24) (h : FRow m n nl w) : PRow m nl (gvn nl w) w ∧ gvn nl w < 2 ^ n ∧ (2 ^ n - 1) ^^^ gvn nl w = ms w 24 := by
  have hb : ∀ j, j < 4 → (gvn nl w).testBit j = decide (w j < nl) := fun j hj => mk4_bit _ hj
  have hlt : gvn nl w < 2 ^ n := by
    refine g_top n (by omega) _ (mk4_lt _) (fun j hj hnj => ?_)
    rw [hb j hj, h.2.1 j hnj, decide_eq_false (by omega)]
  refine ⟨⟨fun j hj => ?_, h.2.2⟩, hlt, ?_⟩
  · rw [hb j hj]
    refine ⟨fun z => by simpa using z, fun z => ?_⟩
    have z : ¬ w j < nl := by simpa using z
    rcases Nat.lt_or_ge j n with y | y
    · rcases h.1 j y with x | x <;> omega
    · rw [h.2.1 j y]
      omega
  · have fx := fullx n (by omega) _ hlt
    apply ext4 fx.1 (ms_lt _ _)
    intro j hj
    rw [xor_t _ fx.2.2 _ fx.2.1 j hj, full_t n (by omega) j hj, hb j hj, ms_bit w 24 hj]
    rcases Nat.lt_or_ge j n with y | y
    · rw [decide_eq_true y]
      rcases h.1 j y with x | x
      · rw [decide_eq_true x, decide_eq_false (by omega)]
        rfl
      · rw [decide_eq_false (by omega), decide_eq_true x]
        rfl
    · rw [h.2.1 j y, decide_eq_false (by omega), decide_eq_false (by omega), decide_eq_false (by omega)]
      rfl
theorem PRow.full {m : Nat → Nat → Nat → Bool} {h : Nat → Nat} {n nl g : Nat} {w : Nat → Nat} (hn : n ≤ 4) (h24 : nl ≤ 24) (hg : g < 2 ^ n) (hw : PRow m nl g w) : ∃ v, FRow m n nl v ∧ gvn nl v = g ∧ pco h n nl v = pco h n nl w := by
  have fx := fullx n (by omega) _ hg
  have hgn : ∀ j, j < 4 → g.testBit j = true → j < n := fun j hj hb => sub_bits n (by omega) g hg j hj hb
  have hms : ∀ k, k < nl → ms (fun j => if j < n then (if g.testBit j then w j else 24) else 99) k = ms w k := by
    intro k hk
    apply ext4 (ms_lt _ _) (ms_lt _ _)
    intro j hj
    rw [ms_bit _ _ hj, ms_bit _ _ hj]
    have c := hw.1 j hj
    cases q : g.testBit j
    · have := c.2 q
      apply decide_eq_decide.mpr
      simp only [Bool.false_eq_true, if_false]
      constructor
      · intro z
        split at z <;> omega
      · intro z
        omega
    · have := hgn j hj q
      apply decide_eq_decide.mpr
      simp only [if_pos this, if_true]
  refine ⟨fun j => if j < n then (if g.testBit j then w j else 24) else 99, ⟨fun j hj => ?_, fun j hj => ?_, fun k hk => ?_⟩, ?_, ?_⟩
  · simp only [if_pos hj]
    cases q : g.testBit j
    · exact Or.inr rfl
    · exact Or.inl ((hw.1 j (by omega)).1 q)
  · simp only [if_neg (show ¬ j < n by omega)]
  · rw [hms k hk]
    exact hw.2 k hk
  · apply ext4 (mk4_lt _) fx.2.1
    intro j hj
    rw [mk4_bit _ hj]
    show decide ((if j < n then (if g.testBit j then w j else 24) else 99) < nl) = g.testBit j
    cases q : g.testBit j
    · rw [decide_eq_false_iff_not]
      simp only [Bool.false_eq_true, if_false]
      split <;> omega
    · have := hgn j hj q
      rw [decide_eq_true_iff]
      simp only [if_pos this, if_true]
      exact (hw.1 j hj).1 q
  · unfold pco
    apply fb_sm_cong
    intro k hk
    rw [hms k hk]
theorem least_way {S : St} {m : Nat → Nat → Nat → Bool} {h : Nat → Nat} {n nl : Nat} (hn : n ≤ 4) (h24 : nl ≤ 24) (hh : ∀ k, k < nl → h k ≤ 6000) (hA : ∀ g, g < 2 ^ n → AI m h n nl g (gJ S g)) :
    ∃ w, FRow m n nl w ∧ f_X4_leastWay S (nI n) = some (lN (rcod h n nl w)) ∧ ∀ v, FRow m n nl v → rcod h n nl w ≤ rcod h n nl v := by
  have hN : 2 ^ n ≤ 16 := by
    have : 2 ^ n ≤ 2 ^ 4 := Nat.pow_le_pow_right (by omega) hn
    omega
  have hN1 : 1 ≤ 2 ^ n := Nat.one_le_two_pow
  have hall : f_X4_allNights (nI n) = some (nI (2 ^ n - 1)) := by
    unfold f_X4_allNights
    rw [sh_t n (by omega)]
    simp (disch := omega) only [NL0, NL1, NL2, NL3, NL4, NL5, NL6, NL7, NL8, NL9]
  have hcode : ∀ v, FRow m n nl v → rcod h n nl v = pco h n nl v + (pc (ms v 24) * 17592186044416 + ro 24 (ms v 24) n) := fun v hv => (code_sum hn h24 hv.1 hv.2.1).symm
  have hclt : ∀ v, FRow m n nl v → rcod h n nl v < 1000000000000000 := by
    intro v hv
    obtain ⟨a, b, c⟩ := code_lt hn h24 hh hv
    unfold rcod
    omega
  have key : Ok (f_X4_leastWay S (nI n)) (fun x => ∃ w, FRow m n nl w ∧ x = lN (rcod h n nl w) ∧ ∀ v, FRow m n nl v → rcod h n nl w ≤ rcod h n nl v) := by
    unfold f_X4_leastWay
    refine loop_ok (fun g t => ∃ x, t = (x, nI g) ∧ ((x = MX ∧ ∀ v, FRow m n nl v → ¬ gvn nl v < g) ∨ (∃ w, FRow m n nl w ∧ x = lN (rcod h n nl w) ∧ ∀ v, FRow m n nl v → gvn nl v < g → rcod h n nl w ≤ rcod h n nl v))) (2 ^ n) _ (by omega) ⟨MX, rfl, Or.inl ⟨rfl, fun v _ => by omega⟩⟩ ?_
    rintro g t hg ⟨x, rfl, hx⟩
    rcases Nat.lt_or_ge g (2 ^ n) with q | q
    · have fx := fullx n (by omega) g q
      have hle : ¬ nI (2 ^ n - 1) < nI g := by
        rw [nI_ltI (by omega) (by omega)]
        omega
      have hcN := costN_S (s := (2 ^ n - 1) ^^^ g) fx.1 hn
      rcases (hA g q).2 with a | ⟨w0, a1, a2⟩
      · have hcm : lg_cmp (gJ S g) 1152921504606846976 = 0 := (cmp0 _ _).mpr a
        have hno : ∀ v, FRow m n nl v → ¬ gvn nl v = g := by
          intro v hv z
          obtain ⟨b1, b2, b3⟩ := hv.part hn h24
          rw [z] at b1
          obtain ⟨c, e1, e2⟩ := (hA g q).1 v b1
          have := pco_lt (h := h) (n := n) (l := nl) (w := v) hn h24 hh
          rw [a] at e1
          exact lN_MX (c := c) (by omega) e1.symm
        refine go (s' := (x, nI (g + 1))) ?_ q ⟨x, rfl, ?_⟩
        · simp (disch := omega) only [f_X4_leastWay_L7, hall, Option.bind_some, gd_nI, nI_clamp, hcm, bnd, nI_1]
          rw [if_neg hle, if_pos trivial]
        · rcases hx with ⟨e1, e2⟩ | ⟨w, e1, e2, e3⟩
          · exact Or.inl ⟨e1, fun v hv z => by have := e2 v hv; have := hno v hv; omega⟩
          · exact Or.inr ⟨w, e1, e2, fun v hv z => e3 v hv (by have := hno v hv; omega)⟩
      · obtain ⟨u, u1, u2, u3⟩ := PRow.full (h := h) hn h24 q a1
        obtain ⟨b1, b2, b3⟩ := u1.part hn h24
        rw [u2] at b3
        have hu := hcode u u1
        have hul := hclt u u1
        rw [u3, ← b3] at hu
        have hcm : ¬ lg_cmp (gJ S g) 1152921504606846976 = 0 := by
          rw [cmp0, a2]
          exact lN_MX (by omega)
        have hmin : ∀ v, FRow m n nl v → gvn nl v = g → rcod h n nl u ≤ rcod h n nl v := by
          intro v hv z
          obtain ⟨c1, c2, c3⟩ := hv.part hn h24
          rw [z] at c1 c3
          obtain ⟨c, e1, e2⟩ := (hA g q).1 v c1
          have hb1 := pco_lt (h := h) (n := n) (l := nl) (w := v) hn h24 hh
          have hb2 := pco_lt (h := h) (n := n) (l := nl) (w := w0) hn h24 hh
          rw [a2, pk_lEQ (by omega) (by omega)] at e1
          rw [hu, hcode v hv, ← c3]
          omega
        have hbody : f_X4_leastWay_L7 S (nI n) (x, nI g) = some (.inl ((if lN (rcod h n nl u) < x then lN (rcod h n nl u) else x), nI (g + 1))) := by
          simp (disch := omega) only [f_X4_leastWay_L7, hall, Option.bind_some, gd_nI, nI_clamp, bnd, nI_1, fb_xorI, hcN, a2, lN_add]
          rw [a2] at hcm
          rw [if_neg hle, if_neg hcm, hu]
        rcases hx with ⟨e1, e2⟩ | ⟨w, e1, e2, e3⟩
        · have : lN (rcod h n nl u) < x := by
            rw [e1, MX_n, pk_lLT (by omega) (by omega)]
            omega
          rw [if_pos this] at hbody
          refine go hbody q ⟨_, rfl, Or.inr ⟨u, u1, rfl, fun v hv z => ?_⟩⟩
          have := e2 v hv
          exact hmin v hv (by omega)
        · have hwl := hclt w e1
          subst e2
          have hlt : (lN (rcod h n nl u) < lN (rcod h n nl w)) ↔ (rcod h n nl u < rcod h n nl w) := by rw [pk_lLT (by omega) (by omega)]
          by_cases z : rcod h n nl u < rcod h n nl w
          · rw [if_pos (hlt.mpr z)] at hbody
            refine go hbody q ⟨_, rfl, Or.inr ⟨u, u1, rfl, fun v hv y => ?_⟩⟩
            by_cases y2 : gvn nl v = g
            · exact hmin v hv y2
            · have := e3 v hv (by omega)
              omega
          · rw [if_neg (fun y => z (hlt.mp y))] at hbody
            refine go hbody q ⟨_, rfl, Or.inr ⟨w, e1, rfl, fun v hv y => ?_⟩⟩
            by_cases y2 : gvn nl v = g
            · have := hmin v hv y2
              omega
            · exact e3 v hv (by omega)
    · have : g = 2 ^ n := by omega
      subst this
      have hlt : nI (2 ^ n - 1) < nI (2 ^ n) := nI_lt (by omega) (by omega)
      have hfin : f_X4_leastWay_L7 S (nI n) (x, nI (2 ^ n)) = some (.inr x) := by
        simp only [f_X4_leastWay_L7, hall, Option.bind_some]
        rw [if_pos hlt]
      rcases hx with ⟨e1, e2⟩ | ⟨w, e1, e2, e3⟩
      · exfalso
        have hnone : FRow m n nl (fun j => if j < n then 24 else 99) := by
          refine ⟨fun j hj => Or.inr (if_pos hj), fun j hj => if_neg (by omega), fun k hk => ?_⟩
          have : ms (fun j => if j < n then 24 else 99) k = 0 := by
            apply ext4 (ms_lt _ _) (by omega)
            intro j hj
            rw [ms_bit _ _ hj, Nat.zero_testBit, decide_eq_false_iff_not]
            split <;> omega
          rw [this]
          exact ft_0 m k
        have := (hnone.part hn h24).2.1
        exact e2 _ hnone this
      · exact out hfin ⟨w, e1, e2, fun v hv => e3 v hv (hv.part hn h24).2.1⟩
  obtain ⟨x, e, w, h1, h2, h3⟩ := key
  exact ⟨w, h1, by rw [e, h2], h3⟩
/-- the nights given by a row -/
def rowT (T : St) (p d nl : Nat) (w : Nat → Nat) : Nat → St
  | 0 => T
  | j + 1 => if w j < nl then sM (rowT T p d nl w j) 11 (1000 * p + (d + j)) (nI (w j)) else rowT T p d nl w j
theorem rowT_same (T : St) (p d nl : Nat) (w : Nat → Nat) : ∀ j, SameD T (rowT T p d nl w j)
  | 0 => SameD.rf T
  | j + 1 => by
    unfold rowT
    split
    · exact (rowT_same T p d nl w j).tr SameD.sM
    · exact rowT_same T p d nl w j
theorem rowT_dt {T : St} {p d nl : Nat} {w : Nat → Nat} {q e : Nat} (he : e < 1000) : ∀ j, d + j ≤ 1000 → dt (rowT T p d nl w j) q e = if q = p ∧ d ≤ e ∧ e < d + j ∧ w (e - d) < nl then nI (w (e - d)) else dt T q e
  | 0, _ => by
    rw [if_neg (fun z => by omega)]
    rfl
  | j + 1, hb => by
    have ih := rowT_dt (T := T) (p := p) (d := d) (w := w) (nl := nl) (q := q) he j (by omega)
    unfold rowT
    by_cases a : w j < nl
    · rw [if_pos a, dt_up _ _ (by omega) he]
      by_cases b : q = p ∧ e = d + j
      · have e1 : e - d = j := by omega
        rw [if_pos b, if_pos ⟨b.1, by omega, by omega, by rw [e1]; exact a⟩, e1]
      · rw [if_neg b, ih]
        by_cases c : q = p ∧ d ≤ e ∧ e < d + j ∧ w (e - d) < nl
        · rw [if_pos c, if_pos ⟨c.1, c.2.1, by omega, c.2.2.2⟩]
        · rw [if_neg c, if_neg]
          intro z
          exact c ⟨z.1, z.2.1, by
            rcases Nat.lt_or_ge e (d + j) with y | y
            · exact y
            · exact absurd ⟨z.1, by omega⟩ b, z.2.2.2⟩
    · rw [if_neg a, ih]
      by_cases c : q = p ∧ d ≤ e ∧ e < d + j ∧ w (e - d) < nl
      · rw [if_pos c, if_pos ⟨c.1, c.2.1, by omega, c.2.2.2⟩]
      · rw [if_neg c, if_neg]
        intro z
        refine c ⟨z.1, z.2.1, ?_, z.2.2.2⟩
        rcases Nat.lt_or_ge e (d + j) with y | y
        · exact y
        · have : e - d = j := by omega
          rw [this] at z
          exact absurd z.2.2.2 a
/-- a given night's lawyer has no other duty on it -/
theorem row_free {T : St} {ne nl p d n : Nat} {w : Nat → Nat} (hn : n ≤ 4) (hdn : d + n ≤ 1000) (hw : FRow (my T ne p d) n nl w) {j : Nat} (hj : j < n) (hl : w j < nl) : ∀ q, q < 6 → q ≠ p → dt T q (d + j) ≠ nI (w j) := by
  have hf := ft_iff.mp (hw.2.2 (w j) hl) j (by omega) (by rw [ms_bit _ _ (by omega)]; simp)
  refine my_free (fun i hi hb => ?_) (by omega) hf
  have := mod_bits _ (ms_lt w (w j)) j (by omega) i hi hb
  omega
theorem dg_sm {k : Nat} (hk : k < 64) : ((lN k).toBitVec.smod 64).toNat = k := by
  rw [wb_tb, wb_sm k hk, BitVec.toNat_ofNat, Nat.mod_eq_of_lt (Nat.lt_trans hk (by decide))]
theorem dg_sh {x k : Nat} {y : Int32} (hy : y = nI k) (hk : k < 64) (hx : x < 2 ^ 62) : ((lN x) >>> (y.toInt64 &&& 63)).toInt32 &&& 31 = nI (x / 2 ^ k % 32) := by
  rw [hy, wb_c k hk, pf_shr (dg_sm hk) hx, lN_i]
  exact fa_mask _ 5
theorem dg_row {h : Nat → Nat} {m : Nat → Nat → Nat → Bool} {n nl j : Nat} {w : Nat → Nat} (hn : n ≤ 4) (h24 : nl ≤ 24) (hw : FRow m n nl w) (q : j < n) : rcod h n nl w / 2 ^ ((n - 1 - j) * 5) % 32 = w j := by
  have e5 : (2 : Nat) ^ ((n - 1 - j) * 5) = 32 ^ (n - 1 - j) := by
    rw [Nat.mul_comm, Nat.pow_mul]
  have e7 : j + 1 + (n - 1 - j) = n := by omega
  have e8 : 4 - n + n = 4 := by omega
  have e9 : (32 : Nat) ^ 4 = 1048576 := by decide
  have e6 : rcod h n nl w = ((cw w n 24 * 16777216 + sqA h nl w n) * 32 ^ (4 - n)) * 32 ^ (j + 1 + (n - 1 - j)) + rc w (j + 1 + (n - 1 - j)) := by
    rw [e7, Nat.mul_assoc, ← Nat.pow_add, e8, e9]
    unfold rcod
    omega
  have e10 := rc_dig (w := w) (j := j) (m := n - 1 - j) (fun i hi => hw.lt h24 (by omega)) ((cw w n 24 * 16777216 + sqA h nl w n) * 32 ^ (4 - n))
  rw [← e6, ← e5] at e10
  exact e10
theorem dg_all {h : Nat → Nat} {m : Nat → Nat → Nat → Bool} {n nl j : Nat} {w : Nat → Nat} (hn : n ≤ 4) (h24 : nl ≤ 24) (hh : ∀ k, k < nl → h k ≤ 6000) (hw : FRow m n nl w) (q : j < n) : ((lN (rcod h n nl w) >>> ((((nI n - 1) - nI j) * 5).toInt64 &&& 63)).toInt32) &&& 31 = nI (w j) := by
  have hcd : rcod h n nl w < 2 ^ 62 := by
    obtain ⟨a, b, c⟩ := code_lt hn h24 hh hw
    unfold rcod
    omega
  have e1 : ((nI n - 1) - nI j) * 5 = nI ((n - 1 - j) * 5) := by
    have e0 : nI n - 1 = nI (n - 1) := pk_sub (show 1 ≤ n by omega)
    rw [e0, pk_sub (show j ≤ n - 1 by omega)]
    exact pk_mul _ 5
  rw [dg_sh e1 (by omega) hcd, dg_row hn h24 hw q]
theorem give_row0 {ne nl p d n : Nat} {S T : St} {w : Nat → Nat} {V : Int64} (hB : PB ne nl p d n S T) (hV : ∀ j, j < n → ((V >>> ((((nI n - 1) - nI j) * 5).toInt64 &&& 63)).toInt32) &&& 31 = nI (w j)) (hn1 : 1 ≤ n) (hw : FRow (my T ne p d) n nl w) :
    Ok (f_X4_giveRow S (nI p) (nI d) (nI n) V) (fun r => r.1 = nI (cw w n 24) ∧ RN nl r.2 (rowT T p d nl w n) ∧ SameN S r.2) := by
  obtain ⟨hNB, hp, hn, hd', hdn, hcl⟩ := hB
  have h24 := hNB.2.1.1
  have hc0 : ((0 : Int32), (0 : Int32), S) = (nI (cw w 0 24), nI 0, S) := by
    have z : cw w 0 24 = 0 := rfl
    rw [z]
    rfl
  unfold f_X4_giveRow
  refine loop_ok (fun j t => ∃ S1, t = (nI (cw w j 24), nI j, S1) ∧ RN nl S1 (rowT T p d nl w j) ∧ SameN S S1) n _ (by omega) ⟨S, hc0, hNB.2.2, SameN.rf S⟩ ?_
  rintro j t hj ⟨S1, rfl, g1, g2⟩
  rcases Nat.lt_or_ge j n with q | q
  · have hdig := hV j q
    have hhas : f_X3_has S1 (nI (w j)) = some (bI (decide (w j < nl))) := by
      have h11 : gI S1 11 = nI nl := (g2.gI 11).trans hNB.2.1.2.1
      have hw32 := hw.lt h24 q
      unfold f_X3_has f_X7_isBelow
      rw [if_neg (nI_pos (by omega)), h11]
      by_cases z : w j < nl
      · rw [if_neg (nI_ge z (by omega)), decide_eq_true z]
        rfl
      · rw [if_pos (nI_le (by omega) (by omega)), decide_eq_false z]
        rfl
    by_cases z : w j < nl
    · have hfree : ∀ q', q' < 6 → q' ≠ p → dt (rowT T p d nl w j) q' (d + j) ≠ nI (w j) := by
        intro q' hq hqp
        rw [rowT_dt (by omega) j (by omega), if_neg (fun y => hqp y.1)]
        exact row_free hn hdn hw q z q' hq hqp
      obtain ⟨S2, e1, e2, e3⟩ := put_S g1 h24 (p := p) (d := d + j) (v := nI (w j)) hp (by omega) (Or.inr ⟨w j, z, rfl, hfree⟩)
      refine go (s' := (nI (cw w (j + 1) 24), nI (j + 1), S2)) ?_ q ⟨S2, rfl, ?_, g2.tr e3⟩
      · simp only [f_X4_giveRow_L6, bnd]
        rw [if_neg (nI_ge q (by omega)), hdig, hhas, Option.bind_some, decide_eq_true z, bI_t, if_neg (by decide), nI_add, e1, Option.bind_some, cw_succ, if_neg (by omega), Nat.add_zero, nI_1]
        try rfl
      · rw [rowT, if_pos z]
        exact e2
    · have z24 : w j = 24 := by
        rcases hw.1 j q with y | y
        · exact absurd y z
        · exact y
      refine go (s' := (nI (cw w (j + 1) 24), nI (j + 1), S1)) ?_ q ⟨S1, rfl, ?_, g2⟩
      · simp only [f_X4_giveRow_L6, bnd]
        rw [if_neg (nI_ge q (by omega)), hdig, hhas, Option.bind_some, decide_eq_false z, bI_f, if_pos rfl, cw_succ, if_pos z24, nI_1, nI_1]
      · rw [rowT, if_neg z]
        exact g1
  · have : j = n := by omega
    subst this
    refine out (r := (nI (cw w j 24), S1)) ?_ ⟨rfl, g1, g2⟩
    simp only [f_X4_giveRow_L6]
    rw [if_pos (nI_le (Nat.le_refl _) (by omega))]
theorem give_row {ne nl p d n : Nat} {S T : St} {h : Nat → Nat} {w : Nat → Nat} (hB : PB ne nl p d n S T) (hh : ∀ k, k < nl → h k ≤ 6000) (hn1 : 1 ≤ n) (hw : FRow (my T ne p d) n nl w) :
    Ok (f_X4_giveRow S (nI p) (nI d) (nI n) (lN (rcod h n nl w))) (fun r => r.1 = nI (cw w n 24) ∧ RN nl r.2 (rowT T p d nl w n) ∧ SameN S r.2) :=
  give_row0 hB (fun _ q => dg_all hB.2.2.1 hB.1.2.1.1 hh hw q) hn1 hw
/-- what the class's plan comes to -/
theorem plan_S {ne nl p d n : Nat} {S T : St} (hB : NB ne nl S T) (hp : p < 6) (hn1 : 1 ≤ n) (hn : n ≤ 4) (hd' : d < 1000) (hdn : d + n ≤ 1000) :
    ∃ T0 w S', SameD T T0 ∧ (∀ q e, q < 6 → e < 1000 → dt T0 q e = if q = p ∧ d ≤ e ∧ e < d + n then -1 else dt T q e) ∧ FRow (my T0 ne p d) n nl w ∧ (∀ v, FRow (my T0 ne p d) n nl v → rcod (fun l => dtn T0 l 1000) n nl w ≤ rcod (fun l => dtn T0 l 1000) n nl v) ∧
      f_X4_makePlan S (nI p) (nI d) (nI n) = some (nI (cw w n 24), S') ∧ RN nl S' (rowT T0 p d nl w n) ∧ Fr [] [17, 18, 19] S S' := by
  have h24 := hB.2.1.1
  have hN : 2 ^ n ≤ 16 := by
    have : 2 ^ n ≤ 2 ^ 4 := Nat.pow_le_pow_right (by omega) hn
    omega
  have hN1 : 1 ≤ 2 ^ n := Nat.one_le_two_pow
  have hall : f_X4_allNights (nI n) = some (nI (2 ^ n - 1)) := by
    unfold f_X4_allNights
    rw [sh_t n (by omega)]
    simp (disch := omega) only [NL0, NL1, NL2, NL3, NL4, NL5, NL6, NL7, NL8, NL9]
  have hbits : ∀ i, i < 4 → (2 ^ n - 1).testBit i = true → d + i < 1000 := by
    intro i hi hb
    rw [full_t n (by omega) i hi, decide_eq_true_iff] at hb
    omega
  obtain ⟨S1, e1, r1, q1⟩ := giveSet_S hB.2.2 h24 (v := -1) (s := 2 ^ n - 1) hp (by omega) hbits hd' (Or.inl rfl)
  have hdt : ∀ q e, q < 6 → e < 1000 → dt (giv T p d (2 ^ n - 1) (-1) 4) q e = if q = p ∧ d ≤ e ∧ e < d + n then -1 else dt T q e := by
    intro q e _ he
    rw [giv_dt he 4 hbits]
    by_cases c : q = p ∧ d ≤ e ∧ e < d + n
    · rw [if_pos c, if_pos ⟨c.1, c.2.1, by omega, by rw [full_t n (by omega) _ (by omega), decide_eq_true (by omega)]⟩]
    · rw [if_neg c, if_neg]
      intro z
      have := z.2.2.2
      rw [full_t n (by omega) _ (by omega), decide_eq_true_iff] at this
      exact c ⟨z.1, z.2.1, by omega⟩
  have hsT := giv_same T p d (2 ^ n - 1) (-1) 4
  generalize giv T p d (2 ^ n - 1) (-1) 4 = T0 at r1 hdt hsT
  have hB1 : NB ne nl S1 T0 := hB.up q1 hsT r1
  have hh : ∀ k, k < nl → (fun l => dtn T0 l 1000) k ≤ 6000 := fun k _ => dtn_le T0 k 1000
  -- with the longs laid out
  have hPB : ∀ S2, SameJ S1 S2 → PB ne nl p d n S2 T0 := by
    intro S2 hJ
    have c1 : ∀ k, k ≠ 12 → S2.1 k = S1.1 k := fun k _ => by rw [hJ.1]
    refine ⟨⟨hB1.1.cc c1 hJ.2.1, hB1.2.1.cc c1 hJ.2.1, hB1.2.2.cc hJ.2.1⟩, hp, hn, hd', hdn, fun j hj => ?_⟩
    rw [hdt p (d + j) hp (by omega), if_pos ⟨rfl, by omega, by omega⟩]
  have hloop : Ok (loopF (f_X4_makePlan_L31 (nI p) (nI d) (nI n)) FU (0, sJ (sJf S1 (fill0 (gJ S1) 16 1152921504606846976)) 0 0)) (fun r => ∃ w, FRow (my T0 ne p d) n nl w ∧ (∀ v, FRow (my T0 ne p d) n nl v → rcod (fun l => dtn T0 l 1000) n nl w ≤ rcod (fun l => dtn T0 l 1000) n nl v) ∧ r.1 = nI (cw w n 24) ∧ RN nl r.2 (rowT T0 p d nl w n) ∧ Fr [] [17, 18, 19] S1 r.2) := by
    refine loop_ok (fun l t => ∃ S2, t = (nI l, S2) ∧ RN nl S2 T0 ∧ Fr [] [17, 18, 19] S1 S2 ∧ (∀ g, g < 2 ^ n → AI (my T0 ne p d) (fun l => dtn T0 l 1000) n l g (gJ S2 g))) nl _ (by omega) ⟨_, rfl, r1.cc rfl, ⟨fun _ _ => rfl, fun _ _ => rfl, rfl, fun _ _ => rfl⟩, fun g hg => ?_⟩ ?_
    · rw [gJ_sJ]
      by_cases z : g = 0
      · subst z
        rw [pk_uLs]
        refine ⟨fun w _ => ⟨0, rfl, Nat.zero_le _⟩, Or.inr ⟨fun _ => 24, ⟨fun j hj => ⟨fun y => ?_, fun _ => Nat.le_refl _⟩, fun k hk => by omega⟩, rfl⟩⟩
        rw [Nat.zero_testBit] at y
        cases y
      · rw [pk_uLn z]
        have hx : gJ (sJf S1 (fill0 (gJ S1) 16 1152921504606846976)) g = MX := by
          show fill0 (gJ S1) 16 1152921504606846976 g = MX
          unfold fill0
          rw [if_pos (by omega)]
          rfl
        rw [hx]
        refine ⟨fun w hw => ?_, Or.inl rfl⟩
        exfalso
        apply z
        apply ext4 (show g < 16 by omega) (by omega)
        intro j hj
        rw [Nat.zero_testBit]
        cases y : g.testBit j
        · rfl
        · have := (hw.1 j hj).1 y
          omega
    · rintro l t hl ⟨S2, rfl, k1, k2, k3⟩
      have hPB2 : PB ne nl p d n S2 T0 := by
        refine ⟨⟨hB1.1.fr k2 (Fr.rf T0) (by decide), hB1.2.1.fr k2 (Fr.rf T0) (by decide), k1⟩, (hPB S1 (SameJ.rf S1)).2⟩
      have h11 : gI S2 11 = nI nl := hPB2.1.2.1.2.1
      rcases Nat.lt_or_ge l nl with q | q
      · have hon := isOn_S hPB2.1.2.1 q (p := p) (by omega)
        cases b : bt (gM T0 6 l) p
        · refine go (s' := (nI (l + 1), S2)) ?_ q ⟨S2, rfl, k1, k2, fun g hg => (k3 g hg).skip (by omega) (fun s hs hs0 => ?_)⟩
          · simp only [f_X4_makePlan_L31, h11, hon, b, bI_f, Option.bind_some, bnd, nI_1]
            rw [if_neg (nI_ge q (by omega)), if_pos trivial]
          · cases f : ft (my T0 ne p d) l s
            · rfl
            · exfalso
              apply hs0
              apply ext4 hs (by omega)
              intro j hj
              rw [Nat.zero_testBit]
              cases y : s.testBit j
              · rfl
              · have := ft_iff.mp f j hj y
                unfold my may at this
                rw [(giv_same T0 p d (s % 2 ^ j) (nI l) 4).2.1 6 (by omega), b] at this
                cases this
        · obtain ⟨⟨fits, S3⟩, f1, f2, f3, f4⟩ := fit_S hPB2 q
          have hJ3 : gJ S3 = gJ S2 := f4.gJ
          have h19 : gM S3 19 l = nI (dtn T0 l 1000) := f3.2.2.2 l (by omega)
          obtain ⟨S4, g1, g2, g3⟩ := offer_S (S := S3) (m := my T0 ne p d) (h := fun l => dtn T0 l 1000) (n := n) (l := l) (fits := fits) hn (by omega) (fun k _ => dtn_le T0 k 1000) h19 f2 (fun g hg => by rw [hJ3]; exact k3 g hg)
          refine go (s' := (nI (l + 1), S4)) ?_ q ⟨S4, rfl, f3.cc g2.2.1, ?_, g3⟩
          · simp only [f_X4_makePlan_L31, h11, hon, b, bI_t, f1, g1, Option.bind_some, bnd, nI_1]
            rw [if_neg (nI_ge q (by omega)), if_neg (by decide)]
          · have fj : Fr [] [] S3 S4 := ⟨fun k _ => congrFun g2.1 k, fun k _ => congrFun g2.2.1 k, congrArg (fun x => x.1) g2.2.2, fun i f => congrFun (congrFun (congrArg (fun x => x.2) g2.2.2) i) f⟩
            exact ((k2.tr f4.fr).tr fj).w (by decide) (by decide)
      · have : l = nl := by omega
        subst this
        obtain ⟨w, w1, w2, w3⟩ := least_way (S := S2) hn h24 hh k3
        obtain ⟨⟨r, S3⟩, g1, g2, g3, g4⟩ := give_row hPB2 hh hn1 w1
        refine out (r := (r, S3)) ?_ ⟨w, w1, w3, g2, g3, (k2.tr g4.fr).w (by decide) (by decide)⟩
        simp only [f_X4_makePlan_L31, h11, w2, g1, Option.bind_some]
        rw [if_pos (nI_le (Nat.le_refl _) (by omega))]
  obtain ⟨⟨r, S'⟩, l1, w, w1, w2, w3, w4, w5⟩ := hloop
  have w3 : r = nI (cw w n 24) := w3
  subst w3
  refine ⟨T0, w, S', hsT, hdt, w1, w2, ?_, w4, (q1.fr.tr w5).w (by decide) (by decide)⟩
  simp only [f_X4_makePlan, hall, Option.bind_some, e1, bnd]
  have z0 : (0 : Int32).toNatClampNeg = 0 := by decide
  rw [gd_in (show vp_in (0 : Int32) 16 from vp_in_nI (n := 0) (by omega) (by omega)), z0]
  exact l1
