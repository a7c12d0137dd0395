/-! ===== pure part: two loops side by side ===== -/
theorem loop2F {σ ρ τ ω : Type} {b1 : σ → Option (σ ⊕ ρ)} {b2 : τ → Option (τ ⊕ ω)} {Q : ρ → ω → Prop} (I : Nat → σ → τ → Prop) (N : Nat)
    (step : ∀ i s t, i < N → I i s t → ∃ s' t', b1 s = some (.inl s') ∧ b2 t = some (.inl t') ∧ I (i + 1) s' t')
    (fin : ∀ s t, I N s t → ∃ r w, b1 s = some (.inr r) ∧ b2 t = some (.inr w) ∧ Q r w) :
    ∀ (F i : Nat) (s : σ) (t : τ), i ≤ N → N - i < F → I i s t → ∃ r w, loopF b1 F s = some r ∧ loopF b2 F t = some w ∧ Q r w
  | 0, _, _, _, _, h, _ => absurd h (by omega)
  | F + 1, i, s, t, hi, hF, hI => by
    rcases Nat.lt_or_ge i N with h | h
    · obtain ⟨s', t', e1, e2, h2⟩ := step i s t h hI
      simp only [loopF, e1, e2]
      exact loop2F I N step fin F (i + 1) s' t' (by omega) (by omega) h2
    · have : i = N := by omega
      subst this
      obtain ⟨r, w, e1, e2, h2⟩ := fin s t hI
      simp only [loopF, e1, e2]
      exact ⟨r, w, rfl, rfl, h2⟩
theorem loop2 {σ ρ τ ω : Type} {b1 : σ → Option (σ ⊕ ρ)} {b2 : τ → Option (τ ⊕ ω)} {Q : ρ → ω → Prop} (I : Nat → σ → τ → Prop) (N : Nat) (s : σ) (t : τ) (hN : N < 20000) (h0 : I 0 s t)
    (step : ∀ i s t, i < N → I i s t → ∃ s' t', b1 s = some (.inl s') ∧ b2 t = some (.inl t') ∧ I (i + 1) s' t')
    (fin : ∀ s t, I N s t → ∃ r w, b1 s = some (.inr r) ∧ b2 t = some (.inr w) ∧ Q r w) : ∃ r w, loopF b1 FU s = some r ∧ loopF b2 FU t = some w ∧ Q r w :=
  loop2F I N step fin FU 0 s t (Nat.zero_le N) (by unfold FU; omega) h0
/-! ===== pure part: duties counted, the least loaded ===== -/
theorem swap_ct (f : Nat → Nat → Bool) (P : Nat) : ∀ D, fb_sm (fun p => fb_ct (fun d => f p d) D) P = fb_sm (fun d => fb_ct (fun p => f p d) P) D
  | 0 => by
    have : ∀ P, fb_sm (fun _ => 0) P = 0 := fun P => by rw [fb_sm_const]; omega
    exact this P
  | D + 1 => by
    have h1 : ∀ P, fb_sm (fun p => if f p D then 1 else 0) P = fb_ct (fun p => f p D) P := by
      intro P
      induction P with
      | zero => rfl
      | succ P ih => rw [fb_sm_succ, fb_ct_succ, ih]
    rw [fb_sm_succ, ← swap_ct f P D, ← h1 P, ← fb_sm_add]
    rfl
theorem duties_T (T : St) {l D : Nat} (hD : D < 1000) : f_X8_duties T (nI l) (nI D) = some (nI (dtn T l (D + 1))) := by
  have e : dtn T l (D + 1) = fb_sm (fun p => fb_ct (fun d => decide (dt T p d = nI l)) (D + 1)) 6 := (swap_ct (fun p d => decide (dt T p d = nI l)) 6 (D + 1)).symm
  rw [e]
  unfold f_X8_duties
  refine loop_eq (fun i => (nI (fb_sm (fun p => fb_ct (fun d => decide (dt T p d = nI l)) (D + 1)) i), nI i)) 6 rfl (by omega) ?_ ?_
  · intro i hi
    simp (disch := omega) only [f_X8_duties_L5, NL0, NL1, NL2, NL3, NL4, NL5, NL6, NL7, NL8, NL9, q_m1, q_m1', q_m1t, q_m1t', q_m1l, q_m1l', nI_clamp, nI_leI, nI_ltI, nI_eq, nI_add, nI_z, pk_mul, pk_sub, gd_nI]
    rw [if_neg (by omega)]
    refine loop_eq (fun j => (nI (fb_sm (fun p => fb_ct (fun d => decide (dt T p d = nI l)) (D + 1)) i + fb_ct (fun d => decide (dt T i d = nI l)) j), nI j)) (D + 1) rfl (by omega) ?_ ?_
    · intro j hj
      simp (disch := omega) only [f_X8_duties_L15, NL0, NL1, NL2, NL3, NL4, NL5, NL6, NL7, NL8, NL9, q_m1, q_m1', q_m1t, q_m1t', q_m1l, q_m1l', nI_clamp, nI_leI, nI_ltI, nI_eq, nI_add, nI_z, pk_mul, pk_sub, gd_nI, bnd]
      rw [if_neg (by omega)]
      have e1 : gM T 11 (1000 * i + j) = dt T i j := rfl
      rw [e1, fb_ct_succ]
      by_cases h : dt T i j = nI l
      · rw [if_pos h, decide_eq_true h]
        rfl
      · rw [if_neg h, decide_eq_false h]
        rfl
    · simp (disch := omega) only [f_X8_duties_L15, NL0, NL1, NL2, NL3, NL4, NL5, NL6, NL7, NL8, NL9, q_m1, q_m1', q_m1t, q_m1t', q_m1l, q_m1l', nI_clamp, nI_leI, nI_ltI, nI_eq, nI_add, nI_z, pk_mul, pk_sub, gd_nI, bnd]
      rw [if_pos (by omega), fb_sm_succ]
  · simp (disch := omega) only [f_X8_duties_L5, NL0, NL1, NL2, NL3, NL4, NL5, NL6, NL7, NL8, NL9, q_m1, q_m1', q_m1t, q_m1t', q_m1l, q_m1l', nI_clamp, nI_leI, nI_ltI, nI_eq, nI_add, nI_z, pk_mul, pk_sub, gd_nI]
    rw [if_pos (Nat.le_refl _)]
theorem duties_all (T : St) (l : Nat) : f_X8_duties T (nI l) 999 = some (nI (dtn T l 1000)) := duties_T T (l := l) (D := 999) (by omega)
/-- the least loaded of the first lawyers that may -/
def lst (T : St) (ne p d : Nat) : Nat → Int32
  | 0 => -1
  | o + 1 => if may T ne o p d = true ∧ (lst T ne p d o = -1 ∨ dtn T o 1000 < dtn T (lst T ne p d o).toNatClampNeg 1000) then nI o else lst T ne p d o
theorem lst_or (T : St) (ne p d : Nat) : ∀ n, lst T ne p d n = -1 ∨ ∃ o, o < n ∧ lst T ne p d n = nI o ∧ may T ne o p d = true
  | 0 => Or.inl rfl
  | n + 1 => by
    unfold lst
    split
    · rename_i h
      exact Or.inr ⟨n, by omega, rfl, h.1⟩
    · rcases lst_or T ne p d n with h | ⟨o, h1, h2⟩
      · exact Or.inl h
      · exact Or.inr ⟨o, by omega, h2⟩
theorem least_S {ne nl : Nat} {S T : St} (hE : RE ne S T) (hP : RP nl S T) (hN : RN nl S T) {p d : Nat} (hp : p < 6) (hd' : d < 1000) : f_X2_leastLoaded S (nI p) (nI d) = some (lst T ne p d nl) := by
  have h24 := hP.1
  unfold f_X2_leastLoaded
  refine loop_eq (fun i => (lst T ne p d i, nI i)) nl rfl (by omega) ?_ ?_
  · intro i hi
    have hJ : ∀ b : Int32, f_X2_leastLoaded_J38 S (nI p) (nI d) b (nI i) = some (.inl ((if may T ne i p d = true then nI i else b), nI (i + 1))) := by
      intro b
      simp only [f_X2_leastLoaded_J38]
      rw [mayHave_S hE hP hN hi hp hd', Option.bind_some]
      simp only [bnd, nI_1]
      cases may T ne i p d <;> rfl
    have h6 := dtn_le T i 1000
    simp (disch := omega) only [f_X2_leastLoaded_L5, hP.2.1, nI_leI, hJ]
    rw [if_neg (by omega)]
    rcases lst_or T ne p d i with h | ⟨o, h1, h2, _⟩
    · rw [h, if_pos rfl]
      simp only [lst, h, true_or, and_true]
    · have hm1 : ¬ nI o = -1 := by simp (disch := omega) only [NL0, NL1, NL2, NL3, NL4, NL5, NL6, NL7, NL8, NL9, q_m1, q_m1', q_m1t, q_m1t', q_m1l, q_m1l', nI_clamp, nI_leI, nI_ltI, nI_eq, nI_add, nI_z, pk_mul, pk_sub, gd_nI, not_false_eq_true]
      have h7 := dtn_le T o 1000
      rw [h2, if_neg hm1]
      simp (disch := omega) only [NL0, NL1, NL2, NL3, NL4, NL5, NL6, NL7, NL8, NL9, q_m1, q_m1', q_m1t, q_m1t', q_m1l, q_m1l', nI_clamp, nI_leI, nI_ltI, nI_eq, nI_add, nI_z, pk_mul, pk_sub, gd_nI, hN.2.2.2 o (by omega), hN.2.2.2 i (by omega), lst, h2, bnd, false_or]
      by_cases g : dtn T o 1000 ≤ dtn T i 1000
      · rw [if_pos g]
        have : ¬ (may T ne i p d = true ∧ dtn T i 1000 < dtn T o 1000) := fun z => by omega
        rw [if_neg this]
      · rw [if_neg g]
        have g2 : dtn T i 1000 < dtn T o 1000 := by omega
        simp only [g2, and_true]
  · simp (disch := omega) only [f_X2_leastLoaded_L5, hP.2.1, nI_leI]
    rw [if_pos (Nat.le_refl _)]
theorem least_T {ne nl : Nat} {T : St} (hG : RG ne T) (h24 : nl ≤ 24) (hL : gI T 10 = nI nl) {p d : Nat} (c : Int32) (hp : p < 6) (hd' : d < 1000) : loopF (f_X8_strike_L99 (nI p) (nI d) (nI (1000 * p + d)) c T) FU ((-1), 0) = some (.inl (c, nI (p + 1), sM T 11 (1000 * p + d) (lst T ne p d nl))) := by
  refine loop_eq (fun i => (lst T ne p d i, nI i)) nl rfl (by omega) ?_ ?_
  · intro i hi
    simp (disch := omega) only [f_X8_strike_L99, hL, nI_leI, mayNight_T hG, Option.bind_some, bnd, nI_1]
    rw [if_neg (by omega)]
    cases hm : may T ne i p d
    · rw [bI_f, if_pos rfl]
      simp only [lst, hm, Bool.false_eq_true, false_and, if_false]
    · rw [bI_t, if_neg (by decide)]
      rcases lst_or T ne p d i with h | ⟨o, h1, h2, _⟩
      · rw [h, if_pos rfl]
        simp only [lst, hm, h, true_or, and_true, if_true]
      · have hm1 : ¬ nI o = -1 := by simp (disch := omega) only [NL0, NL1, NL2, NL3, NL4, NL5, NL6, NL7, NL8, NL9, q_m1, q_m1', q_m1t, q_m1t', q_m1l, q_m1l', nI_clamp, nI_leI, nI_ltI, nI_eq, nI_add, nI_z, pk_mul, pk_sub, gd_nI, not_false_eq_true]
        have h6 := dtn_le T i 1000
        have h7 := dtn_le T o 1000
        rw [h2, if_neg hm1, duties_all, duties_all, Option.bind_some, Option.bind_some]
        simp (disch := omega) only [NL0, NL1, NL2, NL3, NL4, NL5, NL6, NL7, NL8, NL9, q_m1, q_m1', q_m1t, q_m1t', q_m1l, q_m1l', nI_clamp, nI_leI, nI_ltI, nI_eq, nI_add, nI_z, pk_mul, pk_sub, gd_nI, lst, hm, h2, false_or, true_and]
        by_cases g : dtn T o 1000 ≤ dtn T i 1000
        · rw [if_pos g, if_neg (by omega)]
        · rw [if_neg g, if_pos (by omega)]
  · simp (disch := omega) only [f_X8_strike_L99, hL, nI_leI, gd_nI, nI_clamp, bnd, nI_1]
    rw [if_pos (Nat.le_refl _)]
/-- all but the reference's duties is the same -/
def SameD (T T' : St) : Prop := T'.1 = T.1 ∧ (∀ k, k ≠ 11 → gM T' k = gM T k) ∧ T'.2.2 = T.2.2
theorem SameD.rf (T : St) : SameD T T := ⟨rfl, fun _ _ => rfl, rfl⟩
theorem SameD.tr {S S' S'' : St} (h : SameD S S') (g : SameD S' S'') : SameD S S'' := ⟨g.1.trans h.1, fun k h1 => (g.2.1 k h1).trans (h.2.1 k h1), g.2.2.trans h.2.2⟩
theorem SameD.sM {T : St} {j : Nat} {v : Int32} : SameD T (sM T 11 j v) := ⟨rfl, fun k h => gM_sM_n T j v h, rfl⟩
theorem SameD.gI {T T' : St} (h : SameD T T') (k : Nat) : gI T' k = gI T k := congrFun h.1 k
theorem SameD.g {ne : Nat} {T T' : St} (h : SameD T T') (hG : RG ne T) : RG ne T' := by
  unfold RG at hG ⊢
  rw [h.gI, h.2.1 3 (by omega), h.2.1 2 (by omega)]
  exact hG
theorem SameD.e {ne : Nat} {S T T' : St} (h : SameD T T') (hE : RE ne S T) : RE ne S T' := by
  refine ⟨h.g hE.1, hE.2.1, ?_⟩
  rw [h.2.1 3 (by omega), h.2.1 2 (by omega)]
  exact hE.2.2
theorem SameD.p {nl : Nat} {S T T' : St} (h : SameD T T') (hP : RP nl S T) : RP nl S T' := by
  unfold RP at hP ⊢
  rw [h.gI, h.2.1 5 (by omega), h.2.1 6 (by omega), h.2.1 7 (by omega), h.2.1 8 (by omega), h.2.1 9 (by omega), h.2.1 10 (by omega)]
  exact hP
/-- what must be so to speak of nights -/
def NB (ne nl : Nat) (S T : St) : Prop := RE ne S T ∧ RP nl S T ∧ RN nl S T
theorem NB.up {ne nl : Nat} {S S' T T' : St} (h : NB ne nl S T) (hS : SameN S S') (hT : SameD T T') (hN : RN nl S' T') : NB ne nl S' T' := ⟨hS.e (hT.e h.1), hS.p (hT.p h.2.1), hN⟩
theorem may_free {T : St} {ne l p d : Nat} (h : may T ne l p d = true) (hd' : d < 1000) : ∀ q, q < 6 → dt T q d ≠ nI l := by
  intro q hq e
  unfold may at h
  simp only [Bool.and_eq_true] at h
  have h1 := h.2.2.2.1
  unfold restOk at h1
  rw [decide_eq_true_iff] at h1
  have h2 := rest_self h1
  unfold hs at h2
  rw [decide_eq_true (by omega)] at h2
  have h3 : hd T l (d : Int).toNat = true := (hd_iff T l _).mpr ⟨q, hq, e⟩
  rw [h3] at h2
  cases h2
theorem may_sk {T : St} {ne l p d : Nat} (h : may T ne l p d = true) : sk T l d = false := by
  unfold may at h
  simp only [Bool.and_eq_true] at h
  simpa using h.2.2.1
theorem passNight {ne nl l d c : Nat} {S T : St} (h : NB ne nl S T) (hl : l < nl) (hd' : d < 1000) (hsk : sk T l d = true) (hh : hd T l d = true) :
    ∃ S' T', f_X2_passOnNight S (nI l) (nI d) = some S' ∧ loopF (f_X8_strike_L50 (nI d) (nI l)) FU (nI c, 0, T) = some (.inl (nI (c + 1), nI (d + 1), T')) ∧ SameN S S' ∧ SameD T T' ∧ RN nl S' T' := by
  have h24 := h.2.1.1
  have key := loop2 (b1 := f_X2_passOnNight_L2 (nI l) (nI d)) (b2 := f_X8_strike_L50 (nI d) (nI l)) (Q := fun (r : St) (w : (Int32 × Int32 × St) ⊕ (Int32 × St)) => ∃ T', w = .inl (nI (c + 1), nI (d + 1), T') ∧ SameN S r ∧ SameD T T' ∧ RN nl r T')
    (fun i s t => ∃ (S1 T1 : St) (k : Nat), s = (nI i, S1) ∧ t = (nI (c + k), nI i, T1) ∧ SameN S S1 ∧ SameD T T1 ∧ RN nl S1 T1 ∧ ((k = 0 ∧ ∃ q, i ≤ q ∧ q < 6 ∧ dt T1 q d = nI l) ∨ (k = 1 ∧ ∀ q, q < 6 → dt T1 q d ≠ nI l))) 6 (0, S) (nI c, 0, T) (by omega)
    ⟨S, T, 0, rfl, rfl, SameN.rf S, SameD.rf T, h.2.2, Or.inl ⟨rfl, by
      obtain ⟨q, h1, h2⟩ := (hd_iff T l d).mp hh
      exact ⟨q, Nat.zero_le q, h1, h2⟩⟩⟩ ?_ ?_
  · obtain ⟨r, w, e1, e2, T', rfl, h1, h2, h3⟩ := key
    exact ⟨r, T', e1, e2, h1, h2, h3⟩
  · rintro i s t hi ⟨S1, T1, k, rfl, rfl, hS, hT, hN, hk⟩
    have hB : NB ne nl S1 T1 := h.up hS hT hN
    have hsk1 : sk T1 l d = true := by
      unfold sk at hsk ⊢
      rw [hT.2.1 8 (by omega)]
      exact hsk
    by_cases g : dt T1 i d = nI l
    · rcases hk with ⟨rfl, _⟩ | ⟨_, hk2⟩
      · obtain ⟨S2, p1, p2, p3⟩ := put_S hN h24 (p := i) (d := d) (v := -1) hi hd' (Or.inl rfl)
        have hB2 : NB ne nl S2 (sM T1 11 (1000 * i + d) (-1)) := hB.up p3 SameD.sM p2
        have hl2 := least_S hB2.1 hB2.2.1 hB2.2.2 hi hd'
        have hlt := least_T (c := nI (c + 1)) hB2.1.1 h24 hB2.2.1.2.2.1 hi hd'
        generalize hb : lst (sM T1 11 (1000 * i + d) (-1)) ne i d nl = b at hl2 hlt
        have hor := lst_or (sM T1 11 (1000 * i + d) (-1)) ne i d nl
        rw [hb] at hor
        obtain ⟨S3, r1, r2, r3⟩ := put_S hB2.2.2 h24 (p := i) (d := d) (v := b) hi hd' (by
          rcases hor with z | ⟨o, z1, z2, z3⟩
          · exact Or.inl z
          · exact Or.inr ⟨o, z1, z2, fun q hq _ => may_free z3 hd' q hq⟩)
        refine ⟨(nI (i + 1), S3), (nI (c + 1), nI (i + 1), sM (sM T1 11 (1000 * i + d) (-1)) 11 (1000 * i + d) b), ?_, ?_, S3, _, 1, rfl, rfl, (hS.tr p3).tr r3, (hT.tr SameD.sM).tr SameD.sM, r2, Or.inr ⟨rfl, fun q hq => ?_⟩⟩
        · simp (disch := omega) only [f_X2_passOnNight_L2, NL0, NL1, NL2, NL3, NL4, NL5, NL6, NL7, NL8, NL9, q_m1, q_m1', q_m1t, q_m1t', q_m1l, q_m1l', nI_clamp, nI_leI, nI_ltI, nI_eq, nI_add, nI_z, pk_mul, pk_sub, gd_nI, bnd]
          rw [if_neg (by omega), holder_S hN hi hd', Option.bind_some, if_pos g, p1, Option.bind_some, hl2, Option.bind_some, r1, Option.bind_some]
        · simp (disch := omega) only [f_X8_strike_L50, NL0, NL1, NL2, NL3, NL4, NL5, NL6, NL7, NL8, NL9, q_m1, q_m1', q_m1t, q_m1t', q_m1l, q_m1l', nI_clamp, nI_leI, nI_ltI, nI_eq, nI_add, nI_z, pk_mul, pk_sub, gd_nI, bnd]
          rw [if_neg (by omega)]
          have : gM T1 11 (1000 * i + d) = nI l := g
          rw [if_pos this]
          exact hlt
        · rw [dt_up _ b hd' hd']
          by_cases z : q = i ∧ d = d
          · rw [if_pos z]
            intro y
            rcases hor with w | ⟨o, w1, w2, w3⟩
            · rw [w] at y
              exact absurd y (by simp (disch := omega) only [NL0, NL1, NL2, NL3, NL4, NL5, NL6, NL7, NL8, NL9, q_m1, q_m1', q_m1t, q_m1t', q_m1l, q_m1l', nI_clamp, nI_leI, nI_ltI, nI_eq, nI_add, nI_z, pk_mul, pk_sub, gd_nI, not_false_eq_true])
            · have : o = l := nI_inj (by omega) (by omega) (w2.symm.trans y)
              subst this
              have := may_sk w3
              unfold sk at this hsk1
              rw [gM_sM_n _ _ _ (by omega)] at this
              rw [this] at hsk1
              cases hsk1
          · rw [if_neg z, dt_up _ _ hd' hd', if_neg z]
            intro y
            exact z ⟨hN.1.2 q i d l hq hi hd' (by omega) y g, rfl⟩
      · exact absurd g (hk2 i hi)
    · refine ⟨(nI (i + 1), S1), (nI (c + k), nI (i + 1), T1), ?_, ?_, S1, T1, k, rfl, rfl, hS, hT, hN, ?_⟩
      · simp (disch := omega) only [f_X2_passOnNight_L2, NL0, NL1, NL2, NL3, NL4, NL5, NL6, NL7, NL8, NL9, q_m1, q_m1', q_m1t, q_m1t', q_m1l, q_m1l', nI_clamp, nI_leI, nI_ltI, nI_eq, nI_add, nI_z, pk_mul, pk_sub, gd_nI, bnd]
        rw [if_neg (by omega), holder_S hN hi hd', Option.bind_some, if_neg g]
      · simp (disch := omega) only [f_X8_strike_L50, NL0, NL1, NL2, NL3, NL4, NL5, NL6, NL7, NL8, NL9, q_m1, q_m1', q_m1t, q_m1t', q_m1l, q_m1l', nI_clamp, nI_leI, nI_ltI, nI_eq, nI_add, nI_z, pk_mul, pk_sub, gd_nI, bnd]
        rw [if_neg (by omega)]
        have : ¬ gM T1 11 (1000 * i + d) = nI l := g
        rw [if_neg this]
      · rcases hk with ⟨rfl, q, z1, z2, z3⟩ | hk
        · refine Or.inl ⟨rfl, q, ?_, z2, z3⟩
          rcases Nat.lt_or_ge i q with y | y
          · omega
          · have : q = i := by omega
            subst this
            exact absurd z3 g
        · exact Or.inr hk
  · rintro s t ⟨S1, T1, k, rfl, rfl, hS, hT, hN, hk⟩
    rcases hk with ⟨_, q, z1, z2, _⟩ | ⟨rfl, _⟩
    · omega
    · refine ⟨S1, .inl (nI (c + 1), nI (d + 1), T1), ?_, ?_, T1, rfl, hS, hT, hN⟩
      · simp (disch := omega) only [f_X2_passOnNight_L2, NL0, NL1, NL2, NL3, NL4, NL5, NL6, NL7, NL8, NL9, q_m1, q_m1', q_m1t, q_m1t', q_m1l, q_m1l', nI_clamp, nI_leI, nI_ltI, nI_eq, nI_add, nI_z, pk_mul, pk_sub, gd_nI]
        rw [if_pos (by omega)]
      · simp (disch := omega) only [f_X8_strike_L50, NL0, NL1, NL2, NL3, NL4, NL5, NL6, NL7, NL8, NL9, q_m1, q_m1', q_m1t, q_m1t', q_m1l, q_m1l', nI_clamp, nI_leI, nI_ltI, nI_eq, nI_add, nI_z, pk_mul, pk_sub, gd_nI, bnd]
        rw [if_pos (by omega)]
theorem noNight {l d c : Nat} {T : St} (hd' : d < 1000) (hh : hd T l d = false) : loopF (f_X8_strike_L50 (nI d) (nI l)) FU (nI c, 0, T) = some (.inl (nI c, nI (d + 1), T)) := by
  refine loop_eq (fun i => (nI c, nI i, T)) 6 rfl (by omega) ?_ ?_
  · intro i hi
    simp (disch := omega) only [f_X8_strike_L50, NL0, NL1, NL2, NL3, NL4, NL5, NL6, NL7, NL8, NL9, q_m1, q_m1', q_m1t, q_m1t', q_m1l, q_m1l', nI_clamp, nI_leI, nI_ltI, nI_eq, nI_add, nI_z, pk_mul, pk_sub, gd_nI, bnd]
    rw [if_neg (by omega)]
    have : ¬ gM T 11 (1000 * i + d) = nI l := by
      intro e
      have := (hd_iff T l d).mpr ⟨i, hi, e⟩
      rw [hh] at this
      cases this
    rw [if_neg this]
  · simp (disch := omega) only [f_X8_strike_L50, NL0, NL1, NL2, NL3, NL4, NL5, NL6, NL7, NL8, NL9, q_m1, q_m1', q_m1t, q_m1t', q_m1l, q_m1l', nI_clamp, nI_leI, nI_ltI, nI_eq, nI_add, nI_z, pk_mul, pk_sub, gd_nI, bnd]
    rw [if_pos (by omega)]
theorem passOn {ne nl l d : Nat} {S T : St} (h : NB ne nl S T) (hl : l < nl) (hd' : d < 1000) (hsk : gM T 8 l = nI d) :
    ∃ r S' T', f_X2_passOn S (nI l) (nI d) = some (r, S') ∧ loopF (f_X8_strike_L39 (nI l)) FU (0, nI d, T) = some (r, T') ∧ SameN S S' ∧ SameD T T' ∧ RN nl S' T' := by
  have h24 := h.2.1.1
  have key := loop2 (b1 := f_X2_passOn_L5 (nI l)) (b2 := f_X8_strike_L39 (nI l)) (Q := fun (r : Int32 × St) (w : Int32 × St) => r.1 = w.1 ∧ SameN S r.2 ∧ SameD T w.2 ∧ RN nl r.2 w.2)
    (fun i s t => ∃ (S1 T1 : St) (c : Nat), s = (nI c, nI (d + i), S1) ∧ t = (nI c, nI (d + i), T1) ∧ SameN S S1 ∧ SameD T T1 ∧ RN nl S1 T1) (1000 - d) (0, nI d, S) (0, nI d, T) (by omega)
    ⟨S, T, 0, rfl, rfl, SameN.rf S, SameD.rf T, h.2.2⟩ ?_ ?_
  · obtain ⟨⟨r, S'⟩, ⟨w, T'⟩, e1, e2, h0, h1, h2, h3⟩ := key
    cases h0
    exact ⟨r, S', T', e1, e2, h1, h2, h3⟩
  · rintro i s t hi ⟨S1, T1, c, rfl, rfl, hS, hT, hN⟩
    have hB : NB ne nl S1 T1 := h.up hS hT hN
    have hb : f_X2_busyOn S1 (nI l) (nI (d + i)) = some (bI (hd T1 l (d + i))) := by
      rw [← iI_nat (n := d + i) (by omega), busyOn_S hN.2.2.1 (by omega) (by omega) (by omega)]
      unfold hs
      rw [decide_eq_true (by omega)]
      rfl
    cases q : hd T1 l (d + i)
    · refine ⟨(nI c, nI (d + (i + 1)), S1), (nI c, nI (d + (i + 1)), T1), ?_, ?_, S1, T1, c, rfl, rfl, hS, hT, hN⟩
      · simp (disch := omega) only [f_X2_passOn_L5, hb, q, NL0, NL1, NL2, NL3, NL4, NL5, NL6, NL7, NL8, NL9, q_m1, q_m1', q_m1t, q_m1t', q_m1l, q_m1l', nI_clamp, nI_leI, nI_ltI, nI_eq, nI_add, nI_z, pk_mul, pk_sub, gd_nI, bnd, Option.bind_some]
        rw [if_neg (by omega), bI_f, if_neg (by decide)]
        rfl
      · simp (disch := omega) only [f_X8_strike_L39, NL0, NL1, NL2, NL3, NL4, NL5, NL6, NL7, NL8, NL9, q_m1, q_m1', q_m1t, q_m1t', q_m1l, q_m1l', nI_clamp, nI_leI, nI_ltI, nI_eq, nI_add, nI_z, pk_mul, pk_sub, gd_nI]
        rw [if_neg (by omega), noNight (by omega) q]
        rfl
    · have hsk1 : sk T1 l (d + i) = true := by
        unfold sk
        rw [hT.2.1 8 (by omega), hsk]
        simp (disch := omega) only [NL0, NL1, NL2, NL3, NL4, NL5, NL6, NL7, NL8, NL9, q_m1, q_m1', q_m1t, q_m1t', q_m1l, q_m1l', nI_clamp, nI_leI, nI_ltI, nI_eq, nI_add, nI_z, pk_mul, pk_sub, gd_nI, decide_false, Bool.not_false, Bool.true_and]
        rw [decide_eq_false (by omega)]
        rfl
      obtain ⟨S2, T2, e1, e2, g1, g2, g3⟩ := passNight (c := c) hB hl (by omega) hsk1 q
      refine ⟨(nI (c + 1), nI (d + (i + 1)), S2), (nI (c + 1), nI (d + (i + 1)), T2), ?_, ?_, S2, T2, c + 1, rfl, rfl, hS.tr g1, hT.tr g2, g3⟩
      · simp (disch := omega) only [f_X2_passOn_L5, hb, q, NL0, NL1, NL2, NL3, NL4, NL5, NL6, NL7, NL8, NL9, q_m1, q_m1', q_m1t, q_m1t', q_m1l, q_m1l', nI_clamp, nI_leI, nI_ltI, nI_eq, nI_add, nI_z, pk_mul, pk_sub, gd_nI, bnd, Option.bind_some]
        rw [if_neg (by omega), bI_t, if_pos rfl, e1, Option.bind_some]
        rfl
      · simp (disch := omega) only [f_X8_strike_L39, NL0, NL1, NL2, NL3, NL4, NL5, NL6, NL7, NL8, NL9, q_m1, q_m1', q_m1t, q_m1t', q_m1l, q_m1l', nI_clamp, nI_leI, nI_ltI, nI_eq, nI_add, nI_z, pk_mul, pk_sub, gd_nI]
        rw [if_neg (by omega), e2]
        rfl
  · rintro s t ⟨S1, T1, c, rfl, rfl, hS, hT, hN⟩
    refine ⟨(nI c, S1), (nI c, T1), ?_, ?_, rfl, hS, hT, hN⟩
    · simp (disch := omega) only [f_X2_passOn_L5, NL0, NL1, NL2, NL3, NL4, NL5, NL6, NL7, NL8, NL9, q_m1, q_m1', q_m1t, q_m1t', q_m1l, q_m1l', nI_clamp, nI_leI, nI_ltI, nI_eq, nI_add, nI_z, pk_mul, pk_sub, gd_nI]
      rw [if_pos (by omega)]
    · simp (disch := omega) only [f_X8_strike_L39, NL0, NL1, NL2, NL3, NL4, NL5, NL6, NL7, NL8, NL9, q_m1, q_m1', q_m1t, q_m1t', q_m1l, q_m1l', nI_clamp, nI_leI, nI_ltI, nI_eq, nI_add, nI_z, pk_mul, pk_sub, gd_nI]
      rw [if_pos (by omega)]
