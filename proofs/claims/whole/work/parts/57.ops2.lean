/-! ===== pure part: nights ===== -/
theorem Rel.nights {S S' T T' : St} {ne nl nc : Nat} (h : RT S T ∧ RF S T ∧ RE ne S T ∧ RP nl S T ∧ RN nl S T ∧ RA S T ∧ RC nc nl S T) (hS : SameN S S') (hT : SameD T T') (hN : RN nl S' T') : Rel S' T' := by
  obtain ⟨a1, a2, a3, a4, _, a6, a7⟩ := h
  exact ⟨a1.fr hS.fr hT.fr (by decide), a2.fr hS.fr hT.fr (by decide), ne, nl, nc, a3.fr hS.fr hT.fr (by decide), a4.fr hS.fr hT.fr (by decide), hN, a6.fr hS.fr hT.fr (by decide), a7.fr hS.fr hT.fr (by decide)⟩
theorem op_onDuty {S T : St} (h : Rel S T) (p1 p2 : Int32) : ∃ (r : Int32) (S2 T2 : St), (f_X7_onDuty S p1 p2 = some r ∧ S2 = S) ∧ (f_X8_onDuty T p1 p2 = some r ∧ T2 = T) ∧ Rel S2 T2 := by
  have h0 := h
  obtain ⟨hT, hF, ne, nl, nc, hE, hP, hN, hA, hC⟩ := h
  unfold f_X7_onDuty f_X8_onDuty
  rcases below_cases p1 (b := 6) (c := 5) 6 rfl (by decide) (by omega) with ⟨a1, a2⟩ | ⟨p, hp, rfl, a1, a2⟩
  · rw [a1, a2]
    exact ⟨_, S, T, ⟨rfl, rfl⟩, ⟨rfl, rfl⟩, h0⟩
  rw [a1, a2, bT, bT]
  rcases day_cases p2 with ⟨a1, a2⟩ | ⟨d, hd', rfl, a1, a2⟩
  · rw [a1, a2]
    exact ⟨_, S, T, ⟨rfl, rfl⟩, ⟨rfl, rfl⟩, h0⟩
  rw [a1, a2, bT, bT, holder_S hN hp hd']
  simp (disch := omega) only [NL0, NL1, NL2, NL3, NL4, NL5, NL6, NL7, NL8, NL9, q_m1, q_m1', q_m1t, q_m1t', q_m1l, q_m1l', nI_clamp, nI_leI, nI_ltI, nI_eq, nI_add, nI_z, pk_mul, pk_sub, gd_nI]
  exact ⟨_, S, T, ⟨rfl, rfl⟩, ⟨rfl, rfl⟩, h0⟩
theorem op_duty {S T : St} (h : Rel S T) (p1 p2 p3 : Int32) : ∃ (r : Int32) (S2 T2 : St), (f_X7_duty S p1 p2 p3 = some (r, S2)) ∧ (f_X8_duty T p1 p2 p3 = some (r, T2)) ∧ Rel S2 T2 := by
  have h0 := h
  obtain ⟨hT, hF, ne, nl, nc, hE, hP, hN, hA, hC⟩ := h
  have h24 := hP.1
  unfold f_X7_duty f_X8_duty
  rcases below_cases p1 (b := 6) (c := 5) 6 rfl (by decide) (by omega) with ⟨a1, a2⟩ | ⟨p, hp, rfl, a1, a2⟩
  · rw [a1, a2]
    exact ⟨_, S, T, rfl, rfl, h0⟩
  rw [a1, a2, bT, bT]
  rcases day_cases p2 with ⟨a1, a2⟩ | ⟨d, hd', rfl, a1, a2⟩
  · rw [a1, a2]
    exact ⟨_, S, T, rfl, rfl, h0⟩
  rw [a1, a2, bT, bT]
  have hc : (gI T 10 - 1).toInt = (nl : Int) - 1 := by
    rw [hP.2.2.1]
    exact pk_sub_toInt (a := nl) (b := 1) (by omega) (by omega)
  have hx : (1000 * nI p) + nI d = nI (1000 * p + d) := by rw [q_mul, nI_add]
  obtain ⟨S1, s1, s2, s3⟩ := put_S hN h24 (p := p) (d := d) (v := -1) hp hd' (Or.inl rfl)
  have hB1 : NB ne nl S1 (sM T 11 (1000 * p + d) (-1)) := NB.up ⟨hE, hP, hN⟩ s3 SameD.sM s2
  have hcl : (nI (1000 * p + d)).toNatClampNeg = 1000 * p + d := nI_clamp (by omega)
  have hgd : ∀ {β : Type} (f : Option β), gd (nI (1000 * p + d)) 6000 f = f := fun f => gd_nI (by omega) (by omega)
  rcases in_cases p3 (c := gI T 10 - 1) nl hc (by omega) with ⟨i1, i2⟩ | ⟨i1, i2⟩
  · rw [i1, Option.bind_some, if_pos rfl]
    have i3 : ¬ p3 = -1 := by
      rintro rfl
      rcases i2 with i2 | ⟨n, n1, n2, n3⟩
      · exact absurd i2 (by decide)
      · exact absurd n3.symm (by simp (disch := omega) only [q_m1, not_false_eq_true])
    rw [if_neg i3]
    rcases has_cases hP p3 with ⟨b1, _⟩ | ⟨l, hl, rfl, _, _⟩
    · rw [b1]
      exact ⟨_, S, T, rfl, rfl, h0⟩
    · exfalso
      rcases i2 with i2 | ⟨n, n1, n2, n3⟩
      · simp (disch := omega) only [q_m1t] at i2
      · have := nI_inj (by omega) n2 n3
        omega
  · rw [i1, bT]
    simp only [bnd, hx, hcl, hgd]
    rcases i2 with rfl | ⟨l, hl, rfl⟩
    · rw [if_pos rfl, if_pos rfl]
      obtain ⟨S2, r1, r2, r3⟩ := put_S hB1.2.2 h24 (p := p) (d := d) (v := -1) hp hd' (Or.inl rfl)
      refine ⟨dt T p d, S2, _, ?_, rfl, Rel.nights ⟨hT, hF, hE, hP, hN, hA, hC⟩ (s3.tr r3) (SameD.sM.tr SameD.sM) r2⟩
      simp only [f_X7_duty_J38, f_X7_duty_J91]
      rw [holder_S hN hp hd', Option.bind_some, s1, Option.bind_some, if_pos trivial, r1]
      rfl
    · have hm : ¬ nI l = -1 := by simp (disch := omega) only [q_m1, not_false_eq_true]
      rw [if_neg hm, if_neg hm]
      have hhas : f_X3_has S (nI l) = some 1 := by
        rcases has_cases hP (nI l) with ⟨b1, b2⟩ | ⟨l', _, _, b1, _⟩
        · exfalso
          unfold f_X3_has f_X7_isBelow at b1
          rw [if_neg (nI_pos (by omega)), hP.2.1, if_neg (nI_ge hl (by omega))] at b1
          exact absurd b1 (by decide)
        · exact b1
      rw [hhas, bT]
      simp only [f_X7_duty_J38, f_X7_duty_J91]
      rw [holder_S hN hp hd', Option.bind_some, s1, Option.bind_some, if_neg hm, mayHave_S hB1.1 hB1.2.1 hB1.2.2 hl hp hd', mayNight_T hB1.1.1 (by omega) hp hd', Option.bind_some, Option.bind_some]
      cases q : may (sM T 11 (1000 * p + d) (-1)) ne l p d
      · rw [bI_f, if_pos rfl, if_pos rfl]
        obtain ⟨S2, r1, r2, r3⟩ := put_S hB1.2.2 h24 (p := p) (d := d) (v := dt T p d) hp hd' (by
          rcases hN.1.1 p d hp hd' with z | ⟨b, b1, b2⟩
          · exact Or.inl z
          · refine Or.inr ⟨b, b1, b2, fun q hq hqp => ?_⟩
            rw [dt_up _ _ hd' hd', if_neg (fun y => hqp y.1)]
            intro y
            exact hqp (hN.1.2 q p d b hq hp hd' (by omega) y b2))
        refine ⟨-4, S2, _, ?_, rfl, Rel.nights ⟨hT, hF, hE, hP, hN, hA, hC⟩ (s3.tr r3) (SameD.sM.tr SameD.sM) r2⟩
        rw [r1]
        rfl
      · rw [bI_t, if_neg (by decide), if_neg (by decide)]
        obtain ⟨S2, r1, r2, r3⟩ := put_S hB1.2.2 h24 (p := p) (d := d) (v := nI l) hp hd' (Or.inr ⟨l, hl, rfl, fun q' hq _ => may_free q hd' q' hq⟩)
        refine ⟨dt T p d, S2, _, ?_, rfl, Rel.nights ⟨hT, hF, hE, hP, hN, hA, hC⟩ (s3.tr r3) (SameD.sM.tr SameD.sM) r2⟩
        rw [r1]
        rfl
theorem op_strike {S T : St} (h : Rel S T) (p1 p2 : Int32) : ∃ (r : Int32) (S2 T2 : St), (f_X7_strike S p1 p2 = some (r, S2)) ∧ (f_X8_strike T p1 p2 = some (r, T2)) ∧ Rel S2 T2 := by
  have h0 := h
  obtain ⟨hT, hF, ne, nl, nc, hE, hP, hN, hA, hC⟩ := h
  have h24 := hP.1
  unfold f_X7_strike f_X8_strike
  rcases has_cases hP p1 with ⟨a1, a2⟩ | ⟨l, hl, rfl, a1, a2⟩
  · rw [a1, a2]
    exact ⟨_, S, T, rfl, rfl, h0⟩
  rw [a1, a2, bT, bT]
  rcases day_cases p2 with ⟨a1, a2⟩ | ⟨d, hd', rfl, a1, a2⟩
  · rw [a1, a2]
    exact ⟨_, S, T, rfl, rfl, h0⟩
  rw [a1, a2, bT, bT, struck_S hP hl, struck_T T (by omega), Option.bind_some, Option.bind_some]
  cases sk T l d
  · rw [bI_f, if_pos rfl, if_pos rfl]
    simp (disch := omega) only [gd_nI, nI_clamp, bnd]
    have fS : Fr [] [13] S (sM S 13 l (nI d)) := Fr.m
    have fT : Fr [] [8] T (sM T 8 l (nI d)) := Fr.m
    have hP1 : RP nl (sM S 13 l (nI d)) (sM T 8 l (nI d)) := by
      obtain ⟨r1, r2, r3, r4, r5, r6, r7⟩ := hP
      refine ⟨r1, r2, r3, fun l' hl' => ?_, fun l' h1 h2 => ?_, r6, r7⟩
      · simp (disch := omega) only [gI_sI_s, gI_sI_n, gI_sM, gI_sF, gI_sC, gI_sJ, gM_sI, gM_sC, gM_sJ, gM_sM_s, gM_sM_n, gM_sF_s, gM_sF_n, gC_sI, gC_sM, gC_sF, gC_sJ, gC_sC_s, gC_sC_n, gC_sC_m, nC_sI, nC_sM, nC_sF, nC_sC, nC_sJ, gJ_sI, gJ_sM, gJ_sF, gJ_sC, gJ_sJ]
        by_cases q : l' = l
        · subst q
          rw [pk_us, pk_us]
          have := r4 l' hl'
          exact ⟨this.1, this.2.1, this.2.2.1, this.2.2.2.1, rfl, Or.inr ⟨d, hd', rfl⟩⟩
        · rw [pk_un q, pk_un q]
          exact r4 l' hl'
      · simp (disch := omega) only [gI_sI_s, gI_sI_n, gI_sM, gI_sF, gI_sC, gI_sJ, gM_sI, gM_sC, gM_sJ, gM_sM_s, gM_sM_n, gM_sF_s, gM_sF_n, gC_sI, gC_sM, gC_sF, gC_sJ, gC_sC_s, gC_sC_n, gC_sC_m, nC_sI, nC_sM, nC_sF, nC_sC, nC_sJ, gJ_sI, gJ_sM, gJ_sF, gJ_sC, gJ_sJ]
        rw [pk_un (by omega)]
        exact r5 l' h1 h2
    have hN1 : RN nl (sM S 13 l (nI d)) (sM T 8 l (nI d)) := hN.fr fS fT (by decide)
    have hE1 : RE ne (sM S 13 l (nI d)) (sM T 8 l (nI d)) := hE.fr fS fT (by decide)
    obtain ⟨r, S2, T2, e1, e2, g1, g2, g3⟩ := passOn (d := d) ⟨hE1, hP1, hN1⟩ hl hd' (by rw [gM_sM_s, pk_us])
    rw [e1, e2]
    exact ⟨r, S2, T2, rfl, rfl, Rel.nights ⟨hT.fr fS fT (by decide), hF.fr fS fT (by decide), hE1, hP1, hN1, hA.fr fS fT (by decide), hC.fr fS fT (by decide)⟩ g1 g2 g3⟩
  · rw [bI_t, if_neg (by decide), if_neg (by decide)]
    exact ⟨_, S, T, rfl, rfl, h0⟩
def ua (T : St) : Nat → Int32
  | 0 => 0
  | i + 1 => ua T i + nI (dtn T i 1000) * nI (dtn T i 1000)
theorem op_uneven {S T : St} (h : Rel S T) : ∃ (r : Int32) (S2 T2 : St), (f_X7_uneven S = some r ∧ S2 = S) ∧ (f_X8_uneven T = some r ∧ T2 = T) ∧ Rel S2 T2 := by
  have h0 := h
  obtain ⟨hT, hF, ne, nl, nc, hE, hP, hN, hA, hC⟩ := h
  have h24 := hP.1
  have e1 : f_X7_uneven S = some (ua T nl) := by
    unfold f_X7_uneven
    refine loop_eq (fun i => (ua T i, nI i)) nl rfl (by omega) ?_ ?_
    · intro i hi
      simp (disch := omega) only [f_X7_uneven_L4, hP.2.1, nI_leI, gd_nI, nI_clamp, bnd, hN.2.2.2 i (by omega), nI_1, ua]
      rw [if_neg (by omega)]
    · simp (disch := omega) only [f_X7_uneven_L4, hP.2.1, nI_leI]
      rw [if_pos (Nat.le_refl _)]
  have e2 : f_X8_uneven T = some (ua T nl) := by
    unfold f_X8_uneven
    refine loop_eq (fun i => (ua T i, nI i)) nl rfl (by omega) ?_ ?_
    · intro i hi
      simp (disch := omega) only [f_X8_uneven_L4, hP.2.2.1, nI_leI, duties_all, Option.bind_some, bnd, nI_1, ua]
      rw [if_neg (by omega)]
    · simp (disch := omega) only [f_X8_uneven_L4, hP.2.2.1, nI_leI]
      rw [if_pos (Nat.le_refl _)]
  exact ⟨_, S, T, ⟨e1, rfl⟩, ⟨e2, rfl⟩, h0⟩
/-! ===== pure part: bars told ===== -/
theorem or_same (x : Int32) {l : Nat} (hl : l < 32) : (x ||| ((1 : Int32) <<< (nI l &&& 31))) = x ↔ bt x l = true := by
  constructor
  · intro e
    have := bt_set x hl hl
    rw [e] at this
    simpa using this
  · intro e
    apply b_ext
    intro i hi
    rw [bt_set x hl hi]
    by_cases q : i = l
    · subst q
      rw [e]
      rfl
    · simp [q]
theorem op_against {S T : St} (h : Rel S T) (p1 p2 : Int32) : ∃ (r : Int32) (S2 T2 : St), (f_X7_against S p1 p2 = some (r, S2)) ∧ (f_X8_against T p1 p2 = some (r, T2)) ∧ Rel S2 T2 := by
  have h0 := h
  obtain ⟨hT, hF, ne, nl, nc, hE, hP, hN, hA, hC⟩ := h
  have h24 := hP.1
  unfold f_X7_against f_X8_against
  rcases has_cases hP p1 with ⟨a1, a2⟩ | ⟨l, hl, rfl, a1, a2⟩
  · rw [a1, a2]
    exact ⟨_, S, T, rfl, rfl, h0⟩
  rw [a1, a2, bT, bT]
  rcases below_cases p2 (b := 100) (c := 99) 100 rfl (by decide) (by omega) with ⟨a1, a2⟩ | ⟨c, hc, rfl, a1, a2⟩
  · rw [a1, a2]
    exact ⟨_, S, T, rfl, rfl, h0⟩
  rw [a1, a2, bT, bT]
  have ha := hA.1 l c (by omega) hc
  simp (disch := omega) only [NL0, NL1, NL2, NL3, NL4, NL5, NL6, NL7, NL8, NL9, q_m1, q_m1', q_m1t, q_m1t', q_m1l, q_m1l', nI_clamp, nI_leI, nI_ltI, nI_eq, nI_add, nI_z, pk_mul, pk_sub, gd_nI, bnd, gI_sI_s, gI_sI_n, gI_sM, gI_sF, gI_sC, gI_sJ, gM_sI, gM_sC, gM_sJ, gM_sM_s, gM_sM_n, gM_sF_s, gM_sF_n, gC_sI, gC_sM, gC_sF, gC_sJ, gC_sC_s, gC_sC_n, gC_sC_m, nC_sI, nC_sM, nC_sF, nC_sC, nC_sJ, gJ_sI, gJ_sM, gJ_sF, gJ_sC, gJ_sJ, pk_us, or_same, ha, nar_1, bI_0]
  have fS : Fr [] [23] S (sM S 23 c (gM S 23 c ||| ((1 : Int32) <<< (nI l &&& 31)))) := Fr.m
  have fT : Fr [] [30] T (sM T 30 (100 * l + c) (bI true)) := Fr.m
  have hR : Rel (sM S 23 c (gM S 23 c ||| ((1 : Int32) <<< (nI l &&& 31)))) (sM T 30 (100 * l + c) (bI true)) := by
    refine ⟨hT.fr fS fT (by decide), hF.fr fS fT (by decide), ne, nl, nc, hE.fr fS fT (by decide), hP.fr fS fT (by decide), hN.fr fS fT (by decide), ⟨fun l' c' hl' hc' => ?_, hA.2⟩, hC.fr fS fT (by decide)⟩
    rw [gM_sM_s, gM_sM_s]
    by_cases q : c' = c
    · subst q
      rw [pk_us, bt_set _ (by omega) (by omega)]
      by_cases q2 : l' = l
      · subst q2
        rw [pk_us]
        simp
      · rw [pk_un (by omega), hA.1 l' c' hl' hc']
        simp [q2]
    · rw [pk_un (by omega), pk_un q]
      exact hA.1 l' c' hl' hc'
  cases q : bt (gM S 23 c) l
  · exact ⟨1, _, _, by simp, by simp, hR⟩
  · exact ⟨0, _, _, by simp, by simp, hR⟩
theorem op_waive {S T : St} (h : Rel S T) (p1 p2 : Int32) : ∃ (r : Int32) (S2 T2 : St), (f_X7_waive S p1 p2 = some (r, S2)) ∧ (f_X8_waive T p1 p2 = some (r, T2)) ∧ Rel S2 T2 := by
  have h0 := h
  obtain ⟨hT, hF, ne, nl, nc, hE, hP, hN, hA, hC⟩ := h
  unfold f_X7_waive f_X8_waive
  rcases below_cases p1 (b := 100) (c := 99) 100 rfl (by decide) (by omega) with ⟨a1, a2⟩ | ⟨c, hc, rfl, a1, a2⟩
  · rw [a1, a2]
    exact ⟨_, S, T, rfl, rfl, h0⟩
  rw [a1, a2, bT, bT]
  rcases below_cases p2 (b := 10) (c := 9) 10 rfl (by decide) (by omega) with ⟨a1, a2⟩ | ⟨l, hl, rfl, a1, a2⟩
  · rw [a1, a2]
    exact ⟨_, S, T, rfl, rfl, h0⟩
  rw [a1, a2, bT, bT]
  have ha := hA.2 c l hc hl
  simp (disch := omega) only [NL0, NL1, NL2, NL3, NL4, NL5, NL6, NL7, NL8, NL9, q_m1, q_m1', q_m1t, q_m1t', q_m1l, q_m1l', nI_clamp, nI_leI, nI_ltI, nI_eq, nI_add, nI_z, pk_mul, pk_sub, gd_nI, bnd, gI_sI_s, gI_sI_n, gI_sM, gI_sF, gI_sC, gI_sJ, gM_sI, gM_sC, gM_sJ, gM_sM_s, gM_sM_n, gM_sF_s, gM_sF_n, gC_sI, gC_sM, gC_sF, gC_sJ, gC_sC_s, gC_sC_n, gC_sC_m, nC_sI, nC_sM, nC_sF, nC_sC, nC_sJ, gJ_sI, gJ_sM, gJ_sF, gJ_sC, gJ_sJ, pk_us, or_same, ha, nar_1, bI_0]
  have fS : Fr [] [24] S (sM S 24 c (gM S 24 c ||| ((1 : Int32) <<< (nI l &&& 31)))) := Fr.m
  have fT : Fr [] [31] T (sM T 31 (10 * c + l) (bI true)) := Fr.m
  have hR : Rel (sM S 24 c (gM S 24 c ||| ((1 : Int32) <<< (nI l &&& 31)))) (sM T 31 (10 * c + l) (bI true)) := by
    refine ⟨hT.fr fS fT (by decide), hF.fr fS fT (by decide), ne, nl, nc, hE.fr fS fT (by decide), hP.fr fS fT (by decide), hN.fr fS fT (by decide), ⟨hA.1, fun c' l' hc' hl' => ?_⟩, hC.fr fS fT (by decide)⟩
    rw [gM_sM_s, gM_sM_s]
    by_cases q : c' = c
    · subst q
      rw [pk_us, bt_set _ (by omega) (by omega)]
      by_cases q2 : l' = l
      · subst q2
        rw [pk_us]
        simp
      · rw [pk_un (by omega), hA.2 c' l' hc' hl']
        simp [q2]
    · rw [pk_un (by omega), pk_un q]
      exact hA.2 c' l' hc' hl'
  cases q : bt (gM S 24 c) l
  · exact ⟨1, _, _, by simp, by simp, hR⟩
  · exact ⟨0, _, _, by simp, by simp, hR⟩
/-! ===== pure part: counts ===== -/
theorem taken_T {nc nl : Nat} {S T : St} (hC : RC nc nl S T) (l : Nat) : f_X8_taken T (nI l) = some (nI (tkn T nc l)) := by
  have h150 := hC.1
  unfold f_X8_taken tkn
  refine loop_eq (fun i => (nI (fb_ct (fun i => decide (gM T 24 i = nI l)) i), nI i)) nc rfl (by omega) ?_ ?_
  · intro i hi
    simp (disch := omega) only [f_X8_taken_L4, hC.2.2.2.1, NL0, NL1, NL2, NL3, NL4, NL5, NL6, NL7, NL8, NL9, q_m1, q_m1', q_m1t, q_m1t', q_m1l, q_m1l', nI_clamp, nI_leI, nI_ltI, nI_eq, nI_add, nI_z, pk_mul, pk_sub, gd_nI, bnd, fb_ct_succ]
    rw [if_neg (by omega)]
    by_cases q : gM T 24 i = nI l
    · rw [if_pos q, decide_eq_true q]
      rfl
    · rw [if_neg q, decide_eq_false q]
      rfl
  · simp (disch := omega) only [f_X8_taken_L4, hC.2.2.2.1, nI_leI]
    rw [if_pos (Nat.le_refl _)]
theorem op_lawyer {S T : St} (h : Rel S T) (p1 p2 : Int32) : ∃ (r : Int32) (S2 T2 : St), (f_X7_lawyer S p1 p2 = some r ∧ S2 = S) ∧ (f_X8_lawyer T p1 p2 = some r ∧ T2 = T) ∧ Rel S2 T2 := by
  have h0 := h
  obtain ⟨hT, hF, ne, nl, nc, hE, hP, hN, hA, hC⟩ := h
  have h24 := hP.1
  suffices H : ∃ r, f_X7_lawyer S p1 p2 = some r ∧ f_X8_lawyer T p1 p2 = some r by
    obtain ⟨r, e1, e2⟩ := H
    exact ⟨r, S, T, ⟨e1, rfl⟩, ⟨e2, rfl⟩, h0⟩
  unfold f_X7_lawyer f_X8_lawyer
  rcases has_cases hP p1 with ⟨a1, a2⟩ | ⟨l, hl, rfl, a1, a2⟩
  · rw [a1, a2]
    exact ⟨_, rfl, rfl⟩
  rw [a1, a2, bT, bT]
  have hp := hP.2.2.2.1 l hl
  simp (disch := omega) only [gd_nI, nI_clamp, duties_all, taken_T hC, Option.bind_some, hp.2.1, hp.2.2.1, hp.2.2.2.1, hp.2.2.2.2.1, hN.2.2.2 l (by omega), hC.2.2.2.2.2 l (by omega)]
  exact ⟨_, (Option.some_get (by repeat' (first | rfl | split))).symm, (Option.some_get _).symm⟩
theorem blocks_ct (q : Nat → Bool) : ∀ P, fb_ct q (1000 * P) = fb_sm (fun p => fb_ct (fun d => q (1000 * p + d)) 1000) P
  | 0 => rfl
  | P + 1 => by
    rw [fb_sm_succ, ← blocks_ct q P, Nat.mul_succ, fb_ct_split]
theorem swap_sm (f : Nat → Nat → Nat) (P : Nat) : ∀ D, fb_sm (fun p => fb_sm (fun d => f p d) D) P = fb_sm (fun d => fb_sm (fun p => f p d) P) D
  | 0 => by
    have : ∀ P, fb_sm (fun _ => 0) P = 0 := fun P => by rw [fb_sm_const]; omega
    exact this P
  | D + 1 => by
    rw [fb_sm_succ, ← swap_sm f P D, ← fb_sm_add]
    rfl
theorem one_ct {x : Int32} {n : Nat} (hn : n < 2 ^ 31) (h : x = -1 ∨ ∃ l, l < n ∧ x = nI l) : fb_ct (fun l => decide (x = nI l)) n = if decide (¬ x = -1) then 1 else 0 := by
  rcases h with rfl | ⟨l, hl, rfl⟩
  · have : fb_ct (fun l => decide ((-1 : Int32) = nI l)) n = 0 := by
      rw [fb_ct_zero]
      intro k hk
      simp (disch := omega) only [q_m1', decide_false]
    rw [this]
    rfl
  · have e : ¬ nI l = -1 := by simp (disch := omega) only [q_m1, not_false_eq_true]
    rw [decide_eq_true e, if_pos rfl]
    have h1 : ∀ m, m ≤ n → fb_ct (fun k => decide (nI l = nI k)) m = if l < m then 1 else 0 := by
      intro m
      induction m with
      | zero => intro _; rfl
      | succ m ih =>
        intro hm
        rw [fb_ct_succ, ih (by omega)]
        simp (disch := omega) only [nI_eq]
        by_cases a : l = m
        · subst a
          simp
        · by_cases b : l < m
          · simp [a, b]
            omega
          · have : ¬ l < m + 1 := by omega
            simp [a, b, this]
    rw [h1 n (Nat.le_refl n), if_pos hl]
theorem all_duties {nl : Nat} {T : St} (h24 : nl ≤ 24) (hD : RD nl T) : fb_sm (fun l => dtn T l 1000) nl = fb_ct (fun k => decide (¬ gM T 11 k = -1)) 6000 := by
  rw [show (6000 : Nat) = 1000 * 6 from rfl, blocks_ct, swap_ct (fun p d => decide (¬ gM T 11 (1000 * p + d) = -1)) 6 1000]
  unfold dtn
  rw [swap_sm (fun l d => c6 T l d) nl 1000]
  apply fb_sm_cong
  intro d hd'
  unfold c6
  rw [← swap_ct (fun p l => decide (dt T p d = nI l)) 6 nl]
  have h1 : ∀ P, P ≤ 6 → fb_sm (fun p => fb_ct (fun l => decide (dt T p d = nI l)) nl) P = fb_ct (fun p => decide (¬ gM T 11 (1000 * p + d) = -1)) P := by
    intro P
    induction P with
    | zero => intro _; rfl
    | succ P ih =>
      intro hP
      rw [fb_sm_succ, fb_ct_succ, ih (by omega), one_ct (by omega) (hD.1 P d (by omega) hd')]
      rfl
  exact h1 6 (Nat.le_refl 6)
theorem inState_S {nc nl : Nat} {S T : St} (hC : RC nc nl S T) (k : Int32) : f_X1_inState S k = some (nI (fb_ct (fun i => decide (gM T 21 i = k)) nc)) := by
  have h150 := hC.1
  unfold f_X1_inState
  refine loop_eq (fun i => (nI (fb_ct (fun i => decide (gM T 21 i = k)) i), nI i)) nc rfl (by omega) ?_ ?_
  · intro i hi
    have hi2 := (hC.2.2.2.2.1 i hi).2.2.2.2.2.2.1
    simp (disch := omega) only [f_X1_inState_L4, hC.2.2.1, hC.2.1, NL0, NL1, NL2, NL3, NL4, NL5, NL6, NL7, NL8, NL9, q_m1, q_m1', q_m1t, q_m1t', q_m1l, q_m1l', nI_clamp, nI_leI, nI_ltI, nI_eq, nI_add, nI_z, pk_mul, pk_sub, gd_nI, bnd, fb_ct_succ, hi2]
    rw [if_neg (by omega)]
    by_cases q : gM T 21 i = k
    · rw [if_pos q, decide_eq_true q]
      rfl
    · rw [if_neg q, decide_eq_false q]
      rfl
  · simp (disch := omega) only [f_X1_inState_L4, hC.2.2.1, nI_leI]
    rw [if_pos (Nat.le_refl _)]
theorem inState_T {nc nl : Nat} {S T : St} (hC : RC nc nl S T) (y : Int32) : f_X8_count_J103 T y 0 = some (nI (fb_ct (fun i => decide (gM T 21 i = y - 5)) nc)) := by
  have h150 := hC.1
  unfold f_X8_count_J103
  refine loop_eq (fun i => (nI (fb_ct (fun i => decide (gM T 21 i = y - 5)) i), nI i)) nc rfl (by omega) ?_ ?_
  · intro i hi
    simp (disch := omega) only [f_X8_count_L105, hC.2.2.2.1, NL0, NL1, NL2, NL3, NL4, NL5, NL6, NL7, NL8, NL9, q_m1, q_m1', q_m1t, q_m1t', q_m1l, q_m1l', nI_clamp, nI_leI, nI_ltI, nI_eq, nI_add, nI_z, pk_mul, pk_sub, gd_nI, bnd, fb_ct_succ]
    rw [if_neg (by omega)]
    by_cases q : gM T 21 i = y - 5
    · rw [if_pos q, decide_eq_true q]
      rfl
    · rw [if_neg q, decide_eq_false q]
      rfl
  · simp (disch := omega) only [f_X8_count_L105, hC.2.2.2.1, nI_leI]
    rw [if_pos (Nat.le_refl _)]
theorem count3_T {nl : Nat} {S T : St} (hP : RP nl S T) (hN : RN nl S T) : f_X2_allDuties S = some (nI (fb_sm (fun l => dtn T l 1000) nl)) ∧ loopF (f_X8_count_L65 T) FU (0, 0) = some (nI (fb_sm (fun l => dtn T l 1000) nl)) := by
  have h24 := hP.1
  constructor
  · unfold f_X2_allDuties
    refine loop_eq (fun i => (nI (fb_sm (fun l => dtn T l 1000) i), nI i)) nl rfl (by omega) ?_ ?_
    · intro i hi
      simp (disch := omega) only [f_X2_allDuties_L4, hP.2.1, NL0, NL1, NL2, NL3, NL4, NL5, NL6, NL7, NL8, NL9, q_m1, q_m1', q_m1t, q_m1t', q_m1l, q_m1l', nI_clamp, nI_leI, nI_ltI, nI_eq, nI_add, nI_z, pk_mul, pk_sub, gd_nI, bnd, fb_sm_succ, hN.2.2.2 i (by omega)]
      rw [if_neg (by omega)]
    · simp (disch := omega) only [f_X2_allDuties_L4, hP.2.1, nI_leI]
      rw [if_pos (Nat.le_refl _)]
  · rw [all_duties h24 hN.1]
    refine loop_eq (fun i => (nI (fb_ct (fun k => decide (¬ gM T 11 k = -1)) i), nI i)) 6000 rfl (by omega) ?_ ?_
    · intro i hi
      simp (disch := omega) only [f_X8_count_L65, NL0, NL1, NL2, NL3, NL4, NL5, NL6, NL7, NL8, NL9, q_m1, q_m1', q_m1t, q_m1t', q_m1l, q_m1l', nI_clamp, nI_leI, nI_ltI, nI_eq, nI_add, nI_z, pk_mul, pk_sub, gd_nI, bnd, fb_ct_succ]
      rw [if_neg (by omega)]
      by_cases q : gM T 11 i = -1
      · rw [if_pos q, decide_eq_false (fun z => z q)]
        rfl
      · rw [if_neg q, decide_eq_true q]
        rfl
    · simp (disch := omega) only [f_X8_count_L65, NL0, NL1, NL2, NL3, NL4, NL5, NL6, NL7, NL8, NL9, q_m1, q_m1', q_m1t, q_m1t', q_m1l, q_m1l', nI_clamp, nI_leI, nI_ltI, nI_eq, nI_add, nI_z, pk_mul, pk_sub, gd_nI]
      rw [if_pos (Nat.le_refl _)]
theorem op_count {S T : St} (h : Rel S T) (p1 : Int32) : ∃ (r : Int32) (S2 T2 : St), (f_X7_count S p1 = some r ∧ S2 = S) ∧ (f_X8_count T p1 = some r ∧ T2 = T) ∧ Rel S2 T2 := by
  have h0 := h
  obtain ⟨hT, hF, ne, nl, nc, hE, hP, hN, hA, hC⟩ := h
  suffices H : ∃ r, f_X7_count S p1 = some r ∧ f_X8_count T p1 = some r by
    obtain ⟨r, e1, e2⟩ := H
    exact ⟨r, S, T, ⟨e1, rfl⟩, ⟨e2, rfl⟩, h0⟩
  obtain ⟨n, n1, n2, n3, _⟩ := hT
  have h3 := count3_T hP hN
  unfold f_X7_count f_X8_count
  rw [hP.2.1, hP.2.2.1, hE.2.1, hE.1.2.1, hC.2.2.1, hC.2.2.2.1, n2, n3, h3.1, h3.2]
  simp only [inState_S hC, inState_T hC, Option.bind_some]
  by_cases a : p1 = 0
  · simp only [if_pos a]; exact ⟨_, rfl, rfl⟩
  simp only [if_neg a]
  by_cases a : p1 = 1
  · simp only [if_pos a]; exact ⟨_, rfl, rfl⟩
  simp only [if_neg a]
  by_cases a : p1 = 2
  · simp only [if_pos a]; exact ⟨_, rfl, rfl⟩
  simp only [if_neg a]
  by_cases a : p1 = 3
  · simp only [if_pos a]; exact ⟨_, rfl, rfl⟩
  simp only [if_neg a]
  by_cases a : p1 = 4
  · simp only [if_pos a]; exact ⟨_, rfl, rfl⟩
  simp only [if_neg a]
  by_cases a : p1 = 5
  · simp only [if_pos a]
    subst a
    exact ⟨_, rfl, rfl⟩
  simp only [if_neg a]
  by_cases a : p1 = 6
  · simp only [if_pos a]
    subst a
    exact ⟨_, rfl, rfl⟩
  simp only [if_neg a]
  by_cases a : p1 = 7
  · simp only [if_pos a]
    subst a
    exact ⟨_, rfl, rfl⟩
  simp only [if_neg a]
  exact ⟨_, rfl, rfl⟩
