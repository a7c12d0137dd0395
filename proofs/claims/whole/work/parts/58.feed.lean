/-! ===== pure part: feed ===== -/
def byt (v : Int32) (j : Nat) : Int32 := vp_nar .byte ((v >>> (nI (24 - 8 * j) &&& 31)).toInt8.toInt32)
theorem byt_rng (v : Int32) (j : Nat) : -128 ≤ (byt v j).toInt ∧ (byt v j).toInt < 128 := by
  unfold byt
  rw [pk_vb, Int8.toInt_toInt32]
  have h1 := Int8.le_toInt (v >>> (nI (24 - 8 * j) &&& 31)).toInt8
  have h2 := Int8.toInt_lt (v >>> (nI (24 - 8 * j) &&& 31)).toInt8
  constructor
  · have e : (Int8.minValue.toInt) = -128 := by decide
    omega
  · omega
/-- four bytes come behind the first n -/
def fed (f : Nat → Int32) (n : Nat) (v : Int32) (k : Nat) : Nat → Int32 := fun j => if n ≤ j ∧ j < n + k then byt v (j - n) else f j
theorem fed_0 (f : Nat → Int32) (n : Nat) (v : Int32) : fed f n v 0 = f := by
  funext j
  unfold fed
  rw [if_neg (by omega)]
theorem fed_s (f : Nat → Int32) (n : Nat) (v : Int32) (k : Nat) : upd (fed f n v k) (n + k) (byt v k) = fed f n v (k + 1) := by
  funext j
  by_cases h : j = n + k
  · subst h
    rw [pk_us]
    unfold fed
    rw [if_pos (by omega)]
    exact congrArg (byt v) (by omega)
  · rw [pk_un h]
    unfold fed
    by_cases g : n ≤ j ∧ j < n + k
    · rw [if_pos g, if_pos (by omega)]
    · rw [if_neg g, if_neg (by omega)]
theorem fed_rng {f : Nat → Int32} {n : Nat} {v : Int32} {k j : Nat} (h : -128 ≤ (f j).toInt ∧ (f j).toInt < 128) : -128 ≤ (fed f n v k j).toInt ∧ (fed f n v k j).toInt < 128 := by
  unfold fed
  split
  · exact byt_rng _ _
  · exact h
theorem fed_cg {f g : Nat → Int32} {n : Nat} {v : Int32} {k j : Nat} (h : f j = g j) : fed f n v k j = fed g n v k j := by
  unfold fed
  rw [h]
theorem h_24 : (24 : Int32) = iI (24 - 8 * ((0 : Nat) : Int)) := by decide
theorem sh_24 : ∀ i : Nat, i < 4 → iI (24 - 8 * (i : Int)) = nI (24 - 8 * i) ∧ ¬ iI (24 - 8 * (i : Int)) < 0 ∧ iI (24 - 8 * (i : Int)) + (-8) = iI (24 - 8 * ((i + 1 : Nat) : Int)) := by decide +kernel
theorem append_S (S : St) (v : Int32) {n : Nat} (h0 : gI S 0 = nI n) (hn : n + 4 ≤ 1000) : Ok (f_X5_append S v) (fun S' => gI S' 0 = nI (n + 4) ∧ gM S' 7 = fed (gM S 7) n v 4 ∧ Fr [0] [7] S S') := by
  unfold f_X5_append
  refine loop_ok (fun i s => ∃ S1, s = (iI (24 - 8 * (i : Int)), S1) ∧ gI S1 0 = nI (n + i) ∧ gM S1 7 = fed (gM S 7) n v i ∧ Fr [0] [7] S S1) 4 _ (by omega) ⟨S, by rw [h_24], h0, (fed_0 _ _ _).symm, (Fr.rf S).w (by decide) (by decide)⟩ ?_
  rintro i s hi ⟨S1, rfl, g1, g2, g3⟩
  rcases Nat.lt_or_ge i 4 with h | h
  · obtain ⟨a1, a2, a3⟩ := sh_24 i h
    refine go (s' := (iI (24 - 8 * ((i + 1 : Nat) : Int)), sI (sM S1 7 (n + i) (byt v i)) 0 (nI (n + i + 1)))) ?_ h ⟨_, rfl, gI_sI_s _ _ _, ?_, ?_⟩
    · simp only [f_X5_append_L3]
      rw [if_neg a2, g1]
      have : ¬ (1000 : Int32) ≤ nI (n + i) := by
        simp (disch := omega) only [NL0, NL1, NL2, NL3, NL4, NL5, NL6, NL7, NL8, NL9]
        omega
      rw [if_neg this, gd_nI (by omega) (by omega)]
      simp only [bnd, gI_sM, g1, nI_1, a3]
      rw [nI_clamp (by omega), a1]
      rfl
    · rw [gM_sI, gM_sM_s, g2, fed_s]
    · exact (g3.tr (Fr.m.tr Fr.i)).w (by decide) (by decide)
  · have : i = 4 := by omega
    subst this
    refine out (r := S1) ?_ ⟨g1, g2, g3⟩
    simp only [f_X5_append_L3]
    rw [if_pos (by decide)]
theorem append_T (T : St) (i : Nat) (v : Int32) {n : Nat} (h0 : gI T 0 = nI n) (hn : n + 4 ≤ 1000) : Ok (f_X8_feed_J67 (nI i) v T) (fun r => ∃ T', r = .inl (nI (i + 1), T') ∧ gI T' 0 = nI (n + 4) ∧ gM T' 1 = fed (gM T 1) n v 4 ∧ Fr [0] [1] T T') := by
  unfold f_X8_feed_J67
  refine loop_ok (fun i s => ∃ S1, s = (iI (24 - 8 * (i : Int)), S1) ∧ gI S1 0 = nI (n + i) ∧ gM S1 1 = fed (gM T 1) n v i ∧ Fr [0] [1] T S1) 4 _ (by omega) ⟨T, by rw [h_24], h0, (fed_0 _ _ _).symm, (Fr.rf T).w (by decide) (by decide)⟩ ?_
  rintro j s hj ⟨S1, rfl, g1, g2, g3⟩
  rcases Nat.lt_or_ge j 4 with h | h
  · obtain ⟨a1, a2, a3⟩ := sh_24 j h
    refine go (s' := (iI (24 - 8 * ((j + 1 : Nat) : Int)), sI (sM S1 1 (n + j) (byt v j)) 0 (nI (n + j + 1)))) ?_ h ⟨_, rfl, gI_sI_s _ _ _, ?_, ?_⟩
    · simp only [f_X8_feed_L73]
      rw [if_neg a2, g1, gd_nI (by omega) (by omega)]
      simp only [bnd, gI_sM, g1, nI_1, a3]
      rw [nI_clamp (by omega), a1]
      rfl
    · rw [gM_sI, gM_sM_s, g2, fed_s]
    · exact (g3.tr (Fr.m.tr Fr.i)).w (by decide) (by decide)
  · have : j = 4 := by omega
    subst this
    refine out (r := .inl (nI (i + 1), S1)) ?_ ⟨S1, rfl, g1, g2, g3⟩
    simp only [f_X8_feed_L73, bnd]
    rw [if_pos (by decide), nI_1]
def arg5 (p1 p2 p3 p4 p5 : Int32) (i : Nat) : Int32 := if i = 0 then p1 else if i = 1 then p2 else if i = 2 then p3 else if i = 3 then p4 else p5
theorem op_feed {S T : St} (h : Rel S T) (p1 p2 p3 p4 p5 : Int32) : ∃ (r : Int32) (S2 T2 : St), (f_X7_feed S p1 p2 p3 p4 p5 = some (r, S2)) ∧ (f_X8_feed T p1 p2 p3 p4 p5 = some (r, T2)) ∧ Rel S2 T2 := by
  have h0 := h
  obtain ⟨hT, hF, ne, nl, nc, hE, hP, hN, hA, hC⟩ := h
  obtain ⟨n, n1, n2, n3, n4, n5⟩ := id hT
  unfold f_X7_feed f_X8_feed
  rw [n2, n3]
  simp (disch := omega) only [NL0, NL1, NL2, NL3, NL4, NL5, NL6, NL7, NL8, NL9]
  by_cases g : n + 20 ≤ 1000
  · rw [if_pos g, if_pos g]
    obtain ⟨S1, s1, a1, b1, f1⟩ := append_S S p1 (n := n) n2 (by omega)
    obtain ⟨S2, s2, a2, b2, f2⟩ := append_S S1 p2 (n := n + 4) a1 (by omega)
    obtain ⟨S3, s3, a3, b3, f3⟩ := append_S S2 p3 (n := n + 8) a2 (by omega)
    obtain ⟨S4, s4, a4, b4, f4⟩ := append_S S3 p4 (n := n + 12) a3 (by omega)
    obtain ⟨S5, s5, a5, b5, f5⟩ := append_S S4 p5 (n := n + 16) a4 (by omega)
    obtain ⟨_, t1, T1, rfl, c1, d1, k1⟩ := append_T T 0 p1 (n := n) n3 (by omega)
    obtain ⟨_, t2, T2, rfl, c2, d2, k2⟩ := append_T T1 1 p2 (n := n + 4) c1 (by omega)
    obtain ⟨_, t3, T3, rfl, c3, d3, k3⟩ := append_T T2 2 p3 (n := n + 8) c2 (by omega)
    obtain ⟨_, t4, T4, rfl, c4, d4, k4⟩ := append_T T3 3 p4 (n := n + 12) c3 (by omega)
    obtain ⟨_, t5, T5, rfl, c5, d5, k5⟩ := append_T T4 4 p5 (n := n + 16) c4 (by omega)
    have fS : Fr [0] [7] S S5 := ((((f1.tr f2).tr f3).tr f4).tr f5).w (by decide) (by decide)
    have fT : Fr [0] [1] T T5 := ((((k1.tr k2).tr k3).tr k4).tr k5).w (by decide) (by decide)
    refine ⟨nI (n + 20), S5, T5, ?_, ?_, ?_, hF.fr fS fT (by decide), ne, nl, nc, hE.fr fS fT (by decide), hP.fr fS fT (by decide), hN.fr fS fT (by decide), hA.fr fS fT (by decide), hC.fr fS fT (by decide)⟩
    · rw [s1, Option.bind_some, s2, Option.bind_some, s3, Option.bind_some, s4, Option.bind_some, s5, Option.bind_some, a5]
    · refine loop_eq (fun i => (nI i, if i = 0 then T else if i = 1 then T1 else if i = 2 then T2 else if i = 3 then T3 else if i = 4 then T4 else T5)) 5 rfl (by omega) ?_ ?_
      · intro i hi
        have : i = 0 ∨ i = 1 ∨ i = 2 ∨ i = 3 ∨ i = 4 := by omega
        rcases this with rfl | rfl | rfl | rfl | rfl
        · exact t1
        · exact t2
        · exact t3
        · exact t4
        · exact t5
      · show (some (.inr (gI T5 0, T5)) : Option ((Int32 × St) ⊕ (Int32 × St))) = _
        rw [c5]
    · refine ⟨n + 20, by omega, a5, c5, fun j hj => ?_, fun j hj => ?_⟩
      · rw [b5, b4, b3, b2, b1, d5, d4, d3, d2, d1]
        exact fed_cg (fed_cg (fed_cg (fed_cg (fed_cg (n4 j hj)))))
      · rw [d5, d4, d3, d2, d1]
        exact fed_rng (fed_rng (fed_rng (fed_rng (fed_rng (n5 j hj)))))
  · rw [if_neg g, if_neg g]
    exact ⟨_, S, T, rfl, rfl, h0⟩
