/-! ===== pure part: a plan is made ===== -/
theorem plan_T {ne nl p d n : Nat} {T T0 : St} {w : Nat → Nat} (hG : RG ne T) (h24 : nl ≤ 24) (hL : gI T 10 = nI nl) (hp : p < 6) (hn1 : 1 ≤ n) (hn : n ≤ 4) (hdn : d + n ≤ 1000) (hsT : SameD T T0)
    (hdt : ∀ q e, q < 6 → e < 1000 → dt T0 q e = if q = p ∧ d ≤ e ∧ e < d + n then -1 else dt T q e) (hw : FRow (my T0 ne p d) n nl w) (hmin : ∀ v, FRow (my T0 ne p d) n nl v → rcod (fun l => dtn T0 l 1000) n nl w ≤ rcod (fun l => dtn T0 l 1000) n nl v) :
    Ok (loopF (f_X8_plan_L42 (nI p) (nI d) (nI n)) FU (0, T)) (fun r => r.1 = nI (cw w n 24) ∧ Fr [11, 12] [11, 12, 13, 14] T r.2 ∧ ∀ q e, q < 6 → e < 1000 → dt r.2 q e = dt (rowT T0 p d nl w n) q e) := by
  have hG0 : RG ne T0 := hsT.g hG
  have hL0 : gI T0 10 = nI nl := (hsT.gI 10).trans hL
  have hcl : ∀ j, j < n → dt T0 p (d + j) = -1 := fun j hj => by rw [hdt p (d + j) hp (by omega), if_pos ⟨rfl, by omega, by omega⟩]
  have hh : ∀ k, k < nl → (fun l => dtn T0 l 1000) k ≤ 6000 := fun k _ => dtn_le T0 k 1000
  have hx : ∀ v, ((1000 * nI p) + nI d) + nI v = nI (1000 * p + (d + v)) := by
    intro v
    have h0 : (1000 * nI p : Int32) = nI (1000 * p) := q_mul 1000 p
    rw [h0, nI_add, nI_add]
    exact kC (by omega)
  have hdtn : ∀ X : St, (∀ q e, q < 6 → e < 1000 → dt X q e = dt T0 q e) → ∀ l, dtn X l 1000 = dtn T0 l 1000 := by
    intro X hX l
    unfold dtn
    apply fb_sm_cong
    intro e he
    unfold c6
    apply fb_ct_cong
    intro q hq
    rw [hX q e hq he]
  -- fourth: the plan is written down
  have step4 : ∀ (X : St) (v : Nat → Nat), FRow (my T0 ne p d) n nl v → (∀ j, j < n → v j = w j) → XS T0 p d nl 0 w X → HasR n X (recO (fun l => dtn T0 l 1000) n nl (fb_sm (fun l => dtn T0 l 1000 * dtn T0 l 1000) nl) v) →
      Ok (loopF (f_X8_plan_L175 (nI p) (nI d) (nI n)) FU (0, X)) (fun t => ∃ X', t = .inr (.inr (.inr (nI (cw w n 24), X'))) ∧ Fr [11, 12] [11, 12, 13, 14] T0 X' ∧ ∀ q e, q < 6 → e < 1000 → dt X' q e = dt (rowT T0 p d nl w n) q e) := by
    intro X v hv hvw hX hR
    refine loop_ok (fun j t => ∃ X1, t = (nI j, X1) ∧ Fr [11, 12] [11, 12, 13, 14] T0 X1 ∧ gI X1 11 = nI (cw v n 24) ∧ (∀ i, i < n → gM X1 13 i = dg (w i)) ∧ ∀ q e, q < 6 → e < 1000 → dt X1 q e = if q = p ∧ d ≤ e ∧ e < d + j then dg (w (e - d)) else dt T0 q e) n _ (by omega) ⟨X, rfl, hX.1, hR.1, fun i hi => ?_, fun q e hq he => ?_⟩ ?_
    · rw [hR.2.2.1 i hi]
      show dg (v i) = dg (w i)
      rw [hvw i hi]
    · rw [hX.2.1 q e hq he, if_neg (fun z => by omega), if_neg (fun z => by omega)]
    · rintro j t hj ⟨X1, rfl, g1, g2, g3, g4⟩
      rcases Nat.lt_or_ge j n with q | q
      · refine go (s' := (nI (j + 1), sM X1 11 (1000 * p + (d + j)) (dg (w j)))) ?_ q ⟨_, rfl, (g1.tr Fr.m).w (by decide) (by decide), g2, fun i hi => ?_, fun q' e hq he => ?_⟩
        · simp (disch := omega) only [f_X8_plan_L175, nI_leI, gd_nI, nI_clamp, hx, bnd, g3 j q, nI_1]
          rw [if_neg (by omega)]
        · rw [gM_sM_n _ _ _ (by omega)]
          exact g3 i hi
        · rw [dt_up _ _ (by omega) he]
          by_cases a : q' = p ∧ e = d + j
          · have e2 : e - d = j := by omega
            rw [if_pos a, if_pos ⟨a.1, by omega, by omega⟩, e2]
          · rw [if_neg a, g4 q' e hq he]
            by_cases c : q' = p ∧ d ≤ e ∧ e < d + j
            · rw [if_pos c, if_pos ⟨c.1, c.2.1, by omega⟩]
            · rw [if_neg c, if_neg]
              intro z
              rcases Nat.lt_or_ge e (d + j) with y | y
              · exact c ⟨z.1, z.2.1, y⟩
              · exact a ⟨z.1, by omega⟩
      · have : j = n := by omega
        subst this
        refine out (r := .inr (.inr (.inr (nI (cw w j 24), X1)))) ?_ ⟨X1, rfl, g1, fun q' e hq he => ?_⟩
        · simp only [f_X8_plan_L175]
          rw [if_pos (nI_le (Nat.le_refl _) (by omega)), g2, cw_cg hvw 24]
        · rw [g4 q' e hq he, rowT_dt he j hdn]
          by_cases c : q' = p ∧ d ≤ e ∧ e < d + j
          · rw [if_pos c]
            rcases hw.1 (e - d) (by omega) with y | y
            · rw [if_pos ⟨c.1, c.2.1, c.2.2, y⟩]
              unfold dg
              rw [if_neg (by omega)]
            · rw [if_neg (fun z => by omega), hdt q' e hq he, if_pos c, y]
              rfl
          · rw [if_neg c, if_neg (fun z => c ⟨z.1, z.2.1, z.2.2.1⟩)]
  -- third: none is best yet; the search
  have hs0 : fb_sm (fun l => dtn T0 l 1000 * dtn T0 l 1000) nl ≤ 864000000 := by
    have h1 := fb_sm_bound (f := fun l => dtn T0 l 1000 * dtn T0 l 1000) (c := 36000000) (n := nl) (fun k hk => by
      have := dtn_le T0 k 1000
      show dtn T0 k 1000 * dtn T0 k 1000 ≤ 36000000
      have : dtn T0 k 1000 * dtn T0 k 1000 ≤ 6000 * 6000 := Nat.mul_le_mul (by omega) (by omega)
      omega)
    have h2 : nl * 36000000 ≤ 24 * 36000000 := Nat.mul_le_mul h24 (Nat.le_refl _)
    omega
  have step3 : ∀ X : St, Fr [11, 12] [11, 12, 13, 14] T0 X → (∀ q e, q < 6 → e < 1000 → dt X q e = dt T0 q e) → (∀ l, l < nl → gM X 14 l = nI (dtn T0 l 1000)) → gI X 11 = nI n → gI X 12 = nI 2147483647 →
      Ok (loopF (f_X8_plan_L141 (nI (fb_sm (fun l => dtn T0 l 1000 * dtn T0 l 1000) nl)) (nI p) (nI d) (nI n)) FU (0, X)) (fun t => ∃ X', t = .inr (.inr (nI (cw w n 24), X')) ∧ Fr [11, 12] [11, 12, 13, 14] T0 X' ∧ ∀ q e, q < 6 → e < 1000 → dt X' q e = dt (rowT T0 p d nl w n) q e) := by
    intro X hX hXd hX14 hX11 hX12
    refine loop_ok (fun j t => ∃ X1, t = (nI j, X1) ∧ Fr [11, 12] [11, 12, 13, 14] T0 X1 ∧ (∀ q e, q < 6 → e < 1000 → dt X1 q e = dt T0 q e) ∧ (∀ l, l < nl → gM X1 14 l = nI (dtn T0 l 1000)) ∧ gI X1 11 = nI n ∧ gI X1 12 = nI 2147483647 ∧ ∀ i, i < j → gM X1 13 i = -1) n _ (by omega) ⟨X, rfl, hX, hXd, hX14, hX11, hX12, fun i hi => by omega⟩ ?_
    rintro j t hj ⟨X1, rfl, g1, g2, g3, g4, g5, g6⟩
    rcases Nat.lt_or_ge j n with q | q
    · refine go (s' := (nI (j + 1), sM X1 13 j (-1))) ?_ q ⟨_, rfl, (g1.tr Fr.m).w (by decide) (by decide), fun q' e hq he => ?_, fun l hl => ?_, g4, g5, fun i hi => ?_⟩
      · simp (disch := omega) only [f_X8_plan_L141, nI_leI, gd_nI, nI_clamp, bnd, nI_1]
        rw [if_neg (by omega)]
      · have : dt (sM X1 13 j (-1)) q' e = dt X1 q' e := by
          unfold dt
          rw [gM_sM_n _ _ _ (by omega)]
        rw [this]
        exact g2 q' e hq he
      · rw [gM_sM_n _ _ _ (by omega)]
        exact g3 l hl
      · rw [gM_sM_s]
        by_cases z : i = j
        · rw [z, pk_us]
        · rw [pk_un z]
          exact g6 i (by omega)
    · have : j = n := by omega
      subst this
      have hXS : XS T0 p d nl 0 w X1 := by
        refine ⟨g1, fun q' e hq he => ?_, fun l hl => ?_, fun j hj => by omega⟩
        · rw [g2 q' e hq he, if_neg (fun z => by omega)]
        · have z : cw w 0 l = 0 := rfl
          rw [g3 l hl, z, Nat.add_zero]
      have hHR : HasR j X1 (j, 2147483647, fun _ => -1) := ⟨g4, g5, g6, hn, by show (2147483647 : Nat) < 2147483648; omega⟩
      have hsq0 : sqA (fun l => dtn T0 l 1000) nl w 0 = 0 := by
        unfold sqA
        show fb_sm (fun k => 0 * (2 * dtn T0 k 1000 + 0)) nl = 0
        have : ∀ n, fb_sm (fun k => 0 * (2 * dtn T0 k 1000 + 0)) n = 0 := by
          intro n
          induction n with
          | zero => rfl
          | succ n ih => rw [fb_sm_succ, ih]; omega
        exact this nl
      obtain ⟨X2, e1, e2, R', e3, e4⟩ := try_T (T0 := T0) (ne := ne) (nl := nl) (p := p) (d := d) (n := j) (s0 := fb_sm (fun l => dtn T0 l 1000 * dtn T0 l 1000) nl) hG0 h24 hL0 hp hn hdn hcl (by omega) j 0 w X1 _ 6 (by omega) (by omega) (fun j hj => by omega) hXS hHR
      have z24 : cw w 0 24 = 0 := rfl
      rw [hsq0, Nat.add_zero, z24] at e1
      have e1 : f_X8_tryNights 6 X1 (nI p) (nI d) (nI j) 0 0 (nI (fb_sm (fun l => dtn T0 l 1000 * dtn T0 l 1000) nl)) = some X2 := e1
      -- the best is a row
      have hbest : ∃ v, FRow (my T0 ne p d) j nl v ∧ R' = recO (fun l => dtn T0 l 1000) j nl (fb_sm (fun l => dtn T0 l 1000 * dtn T0 l 1000) nl) v ∧ ∀ i, i < j → v i = w i := by
        rcases e4 with ⟨_, a2⟩ | ⟨v, v1, v2, v3, v4⟩
        · exfalso
          have hnone : FRow (my T0 ne p d) j nl (fun i => if i < j then 24 else 99) := by
            refine ⟨fun i hi => Or.inr (if_pos hi), fun i hi => if_neg (by omega), fun k hk => ?_⟩
            have : ms (fun i => if i < j then 24 else 99) k = 0 := by
              apply ext4 (ms_lt _ _) (by omega)
              intro i hi
              rw [ms_bit _ _ hi, Nat.zero_testBit, decide_eq_false_iff_not]
              split <;> omega
            rw [this]
            exact ft_0 _ k
          refine a2 _ ⟨fun i hi => by omega, hnone⟩ ?_
          have hs := sqA_lt (w := fun i => if i < j then 24 else 99) (i := j) hh hn
          have hc : cw (fun i => if i < j then 24 else 99) j 24 ≤ j := fb_ct_le _ _
          show cw _ j 24 < j ∨ (cw _ j 24 = j ∧ _ < 2147483647)
          omega
        · refine ⟨v, v1.2, v2, fun i hi => ?_⟩
          have h1 := hmin v v1.2
          have h2 := v4 w ⟨fun i hi => by omega, hw⟩
          exact code_same hn h24 hh v1.2 hw (by omega) i hi
      obtain ⟨v, v1, rfl, v3⟩ := hbest
      obtain ⟨t, f1, X3, rfl, f3, f4⟩ := step4 X2 v v1 v3 e2 e3
      refine out (r := .inr (.inr (nI (cw w j 24), X3))) ?_ ⟨X3, rfl, f3, f4⟩
      simp only [f_X8_plan_L141]
      rw [if_pos (nI_le (Nat.le_refl _) (by omega)), e1, Option.bind_some]
      exact f1
  -- second: how many each has
  have step2 : ∀ X : St, Fr [] [11] T X → (∀ q e, q < 6 → e < 1000 → dt X q e = dt T0 q e) →
      Ok (loopF (f_X8_plan_L76 (nI p) (nI d) (nI n)) FU (0, 0, X)) (fun t => ∃ X', t = .inr (nI (cw w n 24), X') ∧ Fr [11, 12] [11, 12, 13, 14] T0 X' ∧ ∀ q e, q < 6 → e < 1000 → dt X' q e = dt (rowT T0 p d nl w n) q e) := by
    intro X hX hXd
    refine loop_ok (fun l t => ∃ X1, t = (nI (fb_sm (fun l => dtn T0 l 1000 * dtn T0 l 1000) l), nI l, X1) ∧ Fr [] [11, 14] T X1 ∧ (∀ q e, q < 6 → e < 1000 → dt X1 q e = dt T0 q e) ∧ ∀ k, k < l → gM X1 14 k = nI (dtn T0 k 1000)) nl _ (by omega) ⟨X, rfl, hX.w (by decide) (by decide), hXd, fun k hk => by omega⟩ ?_
    rintro l t hl ⟨X1, rfl, g1, g2, g3⟩
    have hL1 : gI X1 10 = nI nl := (g1.1 10 (by decide)).trans hL
    rcases Nat.lt_or_ge l nl with q | q
    · have hdd := duties_all X1 l
      rw [hdtn X1 g2 l] at hdd
      refine go (s' := (nI (fb_sm (fun l => dtn T0 l 1000 * dtn T0 l 1000) (l + 1)), nI (l + 1), sM X1 14 l (nI (dtn T0 l 1000)))) ?_ q ⟨_, rfl, (g1.tr Fr.m).w (by decide) (by decide), fun q' e hq he => ?_, fun k hk => ?_⟩
      · simp (disch := omega) only [f_X8_plan_L76, hL1, nI_leI, hdd, Option.bind_some, gd_nI, nI_clamp, bnd, gM_sM_s, pk_us, pk_mul, nI_add, nI_1, fb_sm_succ]
        rw [if_neg (by omega)]
      · have : dt (sM X1 14 l (nI (dtn T0 l 1000))) q' e = dt X1 q' e := by
          unfold dt
          rw [gM_sM_n _ _ _ (by omega)]
        rw [this]
        exact g2 q' e hq he
      · rw [gM_sM_s]
        by_cases z : k = l
        · rw [z, pk_us]
        · rw [pk_un z]
          exact g3 k (by omega)
    · have : l = nl := by omega
      subst this
      have fT0 : Fr [11, 12] [11, 12, 13, 14] T0 (sI (sI X1 11 (nI n)) 12 2147483647) := by
        refine ⟨fun k hk => ?_, fun k hk => ?_, ?_, fun i f => ?_⟩
        · have h1 : k ≠ 11 := fun z => hk (by rw [z]; decide)
          have h2 : k ≠ 12 := fun z => hk (by rw [z]; decide)
          rw [gI_sI_n _ _ h2, gI_sI_n _ _ h1, g1.1 k (by simp), ← hsT.gI k]
        · have h1 : k ≠ 11 := fun z => hk (by rw [z]; decide)
          have h2 : k ∉ [11, 14] := by
            intro z
            apply hk
            simp only [List.mem_cons, List.not_mem_nil, or_false] at z ⊢
            omega
          rw [gM_sI, gM_sI, g1.2.1 k h2, hsT.2.1 k h1]
        · have := hsT.fr
          exact (g1.2.2.1).trans this.2.2.1.symm
        · have := hsT.fr
          exact (g1.2.2.2 i f).trans (this.2.2.2 i f).symm
      obtain ⟨t, f1, X3, rfl, f3, f4⟩ := step3 (sI (sI X1 11 (nI n)) 12 2147483647) fT0 g2 g3 (by rw [gI_sI_n _ _ (by omega), gI_sI_s]) (gI_sI_s _ _ _)
      refine out (r := .inr (nI (cw w n 24), X3)) ?_ ⟨X3, rfl, f3, f4⟩
      simp only [f_X8_plan_L76, hL1, bnd]
      rw [if_pos (nI_le (Nat.le_refl _) (by omega))]
      exact f1
  -- first: the nights are nobody's
  refine loop_ok (fun j t => ∃ X1, t = (nI j, X1) ∧ Fr [] [11] T X1 ∧ ∀ q e, q < 6 → e < 1000 → dt X1 q e = if q = p ∧ d ≤ e ∧ e < d + j then -1 else dt T q e) n _ (by omega) ⟨T, rfl, (Fr.rf T).w (by decide) (by decide), fun q e hq he => by rw [if_neg (fun z => by omega)]⟩ ?_
  rintro j t hj ⟨X1, rfl, g1, g2⟩
  rcases Nat.lt_or_ge j n with q | q
  · refine go (s' := (nI (j + 1), sM X1 11 (1000 * p + (d + j)) (-1))) ?_ q ⟨_, rfl, (g1.tr Fr.m).w (by decide) (by decide), fun q' e hq he => ?_⟩
    · simp (disch := omega) only [f_X8_plan_L42, nI_leI, hx, gd_nI, nI_clamp, bnd, nI_1]
      rw [if_neg (by omega)]
    · rw [dt_up _ _ (by omega) he]
      by_cases a : q' = p ∧ e = d + j
      · rw [if_pos a, if_pos ⟨a.1, by omega, by omega⟩]
      · rw [if_neg a, g2 q' e hq he]
        by_cases c : q' = p ∧ d ≤ e ∧ e < d + j
        · rw [if_pos c, if_pos ⟨c.1, c.2.1, by omega⟩]
        · rw [if_neg c, if_neg]
          intro z
          rcases Nat.lt_or_ge e (d + j) with y | y
          · exact c ⟨z.1, z.2.1, y⟩
          · exact a ⟨z.1, by omega⟩
  · have : j = n := by omega
    subst this
    obtain ⟨t, f1, X3, rfl, f3, f4⟩ := step2 X1 g1 (fun q' e hq he => by rw [g2 q' e hq he, hdt q' e hq he])
    refine out (r := (nI (cw w j 24), X3)) ?_ ⟨rfl, (hsT.fr.tr f3).w (by decide) (by decide), f4⟩
    simp only [f_X8_plan_L42]
    rw [if_pos (nI_le (Nat.le_refl _) (by omega))]
    exact f1
theorem op_plan {S T : St} (h : Rel S T) (p1 p2 p3 : Int32) : ∃ (r : Int32) (S2 T2 : St), (f_X7_plan S p1 p2 p3 = some (r, S2)) ∧ (f_X8_plan T p1 p2 p3 = some (r, T2)) ∧ Rel S2 T2 := by
  have h0 := h
  obtain ⟨hT, hF, ne, nl, nc, hE, hP, hN, hA, hC⟩ := h
  unfold f_X7_plan f_X8_plan
  rcases below_cases p1 (b := 6) (c := 5) 6 rfl (by decide) (by omega) with ⟨a1, a2⟩ | ⟨p, hp, rfl, a1, a2⟩
  · rw [a1, a2]
    exact ⟨_, S, T, rfl, rfl, h0⟩
  rw [a1, a2, bT, bT]
  -- how many nights
  have hnn : (f_X8_in p3 1 4 = some 0 ∧ (p3 < 1 ∨ 4 < p3)) ∨ ∃ n, 1 ≤ n ∧ n ≤ 4 ∧ p3 = nI n ∧ f_X8_in p3 1 4 = some 1 := by
    unfold f_X8_in
    by_cases a : p3 < 1
    · left
      rw [if_pos a]
      exact ⟨rfl, Or.inl a⟩
    · rw [if_neg a]
      by_cases b : 4 < p3
      · left
        rw [if_pos b]
        exact ⟨rfl, Or.inr b⟩
      · right
        rw [if_neg b]
        have c : ¬ p3 < 0 := by
          rw [fa_lt] at a ⊢
          rw [Int32.toInt_zero]
          have : (1 : Int32).toInt = 1 := by decide
          omega
        obtain ⟨n, hn, rfl⟩ := nI_of c
        simp (disch := omega) only [NL0, NL1, NL2, NL3, NL4, NL5, NL6, NL7, NL8, NL9] at a b
        exact ⟨n, by omega, by omega, rfl, rfl⟩
  rcases hnn with ⟨b1, b2⟩ | ⟨n, n1, n4, rfl, b1⟩
  · refine ⟨-2, S, T, ?_, by rw [b1]; rfl, h0⟩
    rcases day_cases p2 with ⟨c1, c2⟩ | ⟨d, hd', rfl, c1, c2⟩
    · rw [c1]; rfl
    · rw [c1, bT]
      rcases b2 with b2 | b2
      · rw [if_pos b2]
      · by_cases z : p3 < 1
        · rw [if_pos z]
        · rw [if_neg z, if_pos b2]
  rw [b1, bT]
  rcases day_cases p2 with ⟨c1, c2⟩ | ⟨d, hd', rfl, c1, c2⟩
  · rw [c1, c2]
    exact ⟨_, S, T, rfl, rfl, h0⟩
  rw [c1, c2, bT, bT]
  have e1 : nI d + nI n - 1 = nI (d + n - 1) := by
    rw [nI_add]
    simp (disch := omega) only [NL0, NL1, NL2, NL3, NL4, NL5, NL6, NL7, NL8, NL9]
  rw [e1, nI_add]
  have hlast : f_X8_isDay (nI (d + n - 1)) = some (bI (decide (d + n ≤ 1000))) := by
    rw [← iI_nat (by omega), isDay_T (by omega) (by omega)]
    refine congrArg (fun b => some (bI b)) ?_
    exact decide_eq_decide.mpr ⟨fun _ => by omega, fun _ => by omega⟩
  rw [hlast]
  simp (disch := omega) only [NL0, NL1, NL2, NL3, NL4, NL5, NL6, NL7, NL8, NL9]
  rw [if_neg (by omega), if_neg (by omega)]
  by_cases g : d + n ≤ 1000
  · rw [if_pos g, decide_eq_true g, bI_t, bT]
    obtain ⟨T0, w, S', k1, k2, k3, k4, k5, k6, k7⟩ := plan_S ⟨hE, hP, hN⟩ hp n1 n4 hd' g
    obtain ⟨⟨r, X⟩, x1, x2, x3, x4⟩ := plan_T hE.1 hP.1 hP.2.2.1 hp n1 n4 g k1 k2 k3 k4
    have x2 : r = nI (cw w n 24) := x2
    subst x2
    refine ⟨_, S', X, by rw [k5]; rfl, x1, hT.fr k7 x3 (by decide), hF.fr k7 x3 (by decide), ne, nl, nc, hE.fr k7 x3 (by decide), hP.fr k7 x3 (by decide), k6.cg x4, hA.fr k7 x3 (by decide), hC.fr k7 x3 (by decide)⟩
  · rw [if_neg g, decide_eq_false g, bI_f]
    exact ⟨_, S, T, rfl, rfl, h0⟩
