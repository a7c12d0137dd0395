/-! ===== pure part: a call comes, is refused, is taken, is paid ===== -/
theorem RT.cc {S S' T : St} (h1 : S'.1 0 = S.1 0) (h2 : S'.2.1 = S.2.1) (h : RT S T) : RT S' T := by
  unfold RT gI gM at h ⊢
  rw [h1, h2]
  exact h
theorem RF.cc {S S' T : St} (h1 : ∀ k, k ≠ 12 → S'.1 k = S.1 k) (h : RF S T) : RF S' T := by
  unfold RF gI at h ⊢
  rw [h1 8 (by omega), h1 9 (by omega)]
  exact h
theorem RE.cc {ne : Nat} {S S' T : St} (h1 : ∀ k, k ≠ 12 → S'.1 k = S.1 k) (h2 : S'.2.1 = S.2.1) (h : RE ne S T) : RE ne S' T := by
  unfold RE gI gM at h ⊢
  rw [h1 10 (by omega), h2]
  exact h
theorem RP.cc {nl : Nat} {S S' T : St} (h1 : ∀ k, k ≠ 12 → S'.1 k = S.1 k) (h2 : S'.2.1 = S.2.1) (h : RP nl S T) : RP nl S' T := by
  unfold RP gI gM at h ⊢
  rw [h1 11 (by omega), h2]
  exact h
theorem RN.cc {nl : Nat} {S S' T : St} (h2 : S'.2.1 = S.2.1) (h : RN nl S T) : RN nl S' T := by
  unfold RN gM at h ⊢
  rw [h2]
  exact h
theorem RA.cc {S S' T : St} (h2 : S'.2.1 = S.2.1) (h : RA S T) : RA S' T := by
  unfold RA gM at h ⊢
  rw [h2]
  exact h
theorem RI.cg {nl : Nat} {S S' T T' : St} {k : Nat} (hS : ∀ f, gC S' k f = gC S k f) (hT : ∀ m, 15 ≤ m → m ≤ 28 → gM T' m k = gM T m k) (h29 : ∀ l, l < 24 → gM T' 29 (24 * k + l) = gM T 29 (24 * k + l)) (h : RI nl S T k) : RI nl S' T' k := by
  unfold RI at h ⊢
  obtain ⟨h1, h2, h3, h4, h5, h6, h7, h8, h9, h10, h11, h12⟩ := h
  simp only [hS]
  rw [hT 15 (by omega) (by omega), hT 16 (by omega) (by omega), hT 17 (by omega) (by omega), hT 18 (by omega) (by omega), hT 19 (by omega) (by omega), hT 20 (by omega) (by omega), hT 21 (by omega) (by omega), hT 22 (by omega) (by omega), hT 23 (by omega) (by omega), hT 24 (by omega) (by omega), hT 25 (by omega) (by omega), hT 26 (by omega) (by omega), hT 27 (by omega) (by omega), hT 28 (by omega) (by omega)]
  exact ⟨h1, h2, h3, h4, h5, h6, h7, fun l hl => (h29 l hl).trans (h8 l hl), h9, h10, h11, h12⟩
theorem RIs.cg {nl : Nat} {S S' T T' : St} {k : Nat} (hS : ∀ f, f ≠ 9 → gC S' k f = gC S k f) (hT : ∀ m, 15 ≤ m → m ≤ 28 → m ≠ 22 → gM T' m k = gM T m k) (h29 : ∀ l, l < 24 → gM T' 29 (24 * k + l) = gM T 29 (24 * k + l)) (h : RIs nl S T k) : RIs nl S' T' k := by
  unfold RIs at h ⊢
  obtain ⟨h1, h2, h3, h4, h5, h6, h7, h8⟩ := h
  rw [hS 0 (by omega), hS 1 (by omega), hS 2 (by omega), hS 3 (by omega), hS 4 (by omega), hS 5 (by omega), hS 6 (by omega), hS 8 (by omega), hS 10 (by omega), hT 15 (by omega) (by omega) (by omega), hT 16 (by omega) (by omega) (by omega), hT 17 (by omega) (by omega) (by omega), hT 18 (by omega) (by omega) (by omega), hT 19 (by omega) (by omega) (by omega), hT 20 (by omega) (by omega) (by omega), hT 24 (by omega) (by omega) (by omega)]
  exact ⟨h1, h2, h3, h4, h5, h6, fun l hl => (h29 l hl).trans (h7 l hl), h8⟩
theorem nxS_fr (T : St) (i : Nat) (r : Int32) : Fr [] [23, 21, 29] T (nxS T i r) := by
  unfold nxS
  split
  · exact (Fr.m.tr Fr.m).w (by decide) (by decide)
  · exact ((Fr.m.tr Fr.m).tr Fr.m).w (by decide) (by decide)
theorem nxC_1 (S : St) (i : Nat) (r : Int32) : (nxC S i r).1 = S.1 ∧ (nxC S i r).2.1 = S.2.1 ∧ nC (nxC S i r) = nC S ∧ ∀ k f, k ≠ i → gC (nxC S i r) k f = gC S k f := by
  unfold nxC
  split
  · exact ⟨rfl, rfl, rfl, fun k f h => by rw [gC_sC_m _ _ _ _ h, gC_sC_m _ _ _ _ h]⟩
  · exact ⟨rfl, rfl, rfl, fun k f h => by rw [gC_sC_m _ _ _ _ h, gC_sC_m _ _ _ _ h]⟩
theorem nxS_o (T : St) {i k : Nat} {nl : Nat} {r : Int32} (h24 : nl ≤ 24) (hr : r = -1 ∨ ∃ l, l < nl ∧ r = nI l) (h : k ≠ i) : (∀ m, 15 ≤ m → m ≤ 28 → gM (nxS T i r) m k = gM T m k) ∧ ∀ l, l < 24 → gM (nxS T i r) 29 (24 * k + l) = gM T 29 (24 * k + l) := by
  have hup : ∀ (X : St) (a : Nat) (v : Int32) (m : Nat), gM (sM X a i v) m k = gM X m k := by
    intro X a v m
    by_cases q : m = a
    · subst q
      rw [gM_sM_s, pk_un h]
    · rw [gM_sM_n _ _ _ q]
  unfold nxS
  rcases hr with rfl | ⟨l0, hl0, rfl⟩
  · rw [if_pos rfl]
    refine ⟨fun m h1 h2 => by rw [hup, hup], fun l hl => ?_⟩
    rw [gM_sM_n _ _ _ (by omega), gM_sM_n _ _ _ (by omega)]
  · have hm : ¬ nI l0 = -1 := by simp (disch := omega) only [q_m1, not_false_eq_true]
    rw [if_neg hm, nI_clamp (by omega)]
    refine ⟨fun m h1 h2 => by rw [gM_sM_n _ _ _ (by omega), hup, hup], fun l hl => ?_⟩
    rw [gM_sM_s, pk_un (by omega), gM_sM_n _ _ _ (by omega), gM_sM_n _ _ _ (by omega)]
/-- the call itself, once the next is asked -/
theorem ask_self {nl i : Nat} {S T : St} {r : Int32} (h24 : nl ≤ 24) (hi : RIs nl S T i) (h6 : gC S i 6 = 0) (h24' : gM T 24 i = -1) (h9 : gC S i 9 = gM T 22 i) (h14 : gC S i 14 = gM T 28 i) (hr : r = -1 ∨ ∃ l, l < nl ∧ r = nI l) : RI nl (nxC S i r) (nxS T i r) i := by
  obtain ⟨g1, g2, g3, g4, g5, g6, g7, g8, g9, g10⟩ := hi
  rcases hr with rfl | ⟨l0, hl0, rfl⟩
  · unfold nxC nxS
    rw [if_pos rfl, if_pos rfl]
    unfold RI
    simp (disch := omega) only [gI_sI_s, gI_sI_n, gI_sM, gI_sF, gI_sC, gI_sJ, gM_sI, gM_sC, gM_sJ, gM_sM_s, gM_sM_n, gM_sF_s, gM_sF_n, gC_sI, gC_sM, gC_sF, gC_sJ, gC_sC_s, gC_sC_n, gC_sC_m, nC_sI, nC_sM, nC_sF, nC_sC, nC_sJ, gJ_sI, gJ_sM, gJ_sF, gJ_sC, gJ_sJ, pk_us]
    exact ⟨g1, g2, g3, g4, g5, g6, trivial, g7, h9, g8, h14, Or.inr (Or.inl ⟨trivial, h24', trivial⟩)⟩
  · have hm : ¬ nI l0 = -1 := by simp (disch := omega) only [q_m1, not_false_eq_true]
    unfold nxC nxS
    rw [if_neg hm, if_neg hm, nI_clamp (by omega)]
    unfold RI
    simp (disch := omega) only [gI_sI_s, gI_sI_n, gI_sM, gI_sF, gI_sC, gI_sJ, gM_sI, gM_sC, gM_sJ, gM_sM_s, gM_sM_n, gM_sF_s, gM_sF_n, gC_sI, gC_sM, gC_sF, gC_sJ, gC_sC_s, gC_sC_n, gC_sC_m, nC_sI, nC_sM, nC_sF, nC_sC, nC_sJ, gJ_sI, gJ_sM, gJ_sF, gJ_sC, gJ_sJ, pk_us]
    refine ⟨g1, g2, g3, g4, g5, g6, h6, fun l hl => ?_, h9, g8, h14, Or.inl ⟨trivial, h24', l0, hl0, rfl, rfl⟩⟩
    rw [bt_set _ (by omega) (by omega)]
    by_cases q : l = l0
    · subst q
      rw [pk_us]
      simp
    · rw [pk_un (by omega), g7 l hl]
      simp [q]
theorem tkn_cg {T T' : St} {nc : Nat} (h : ∀ k, k < nc → gM T' 24 k = gM T 24 k) (l : Nat) : tkn T' nc l = tkn T nc l := by
  unfold tkn
  apply fb_ct_cong
  intro k hk
  rw [h k hk]
/-- all together, once the next is asked -/
theorem asked_all {ne nl nc i : Nat} {S S1 T : St} (hT : RT S T) (hF : RF S T) (hE : RE ne S T) (hP : RP nl S T) (hN : RN nl S T) (hA : RA S T) (hC : RCs nc nl S T) (hi : i < nc) (f1 : Fr [] [20] S S1)
    (ho : ∀ k, k < nc → k ≠ i → RI nl S T k) (h6 : gC S i 6 = 0) (h24' : gM T 24 i = -1) (h9 : gC S i 9 = gM T 22 i) (h14 : gC S i 14 = gM T 28 i) {r : Int32} (hr : r = -1 ∨ ∃ l, l < nl ∧ r = nI l) : Rel (nxC S1 i r) (nxS T i r) := by
  have h24 := hP.1
  have fT := nxS_fr T i r
  have c := nxC_1 S1 i r
  have c1 : ∀ k, k ≠ 12 → (nxC S1 i r).1 k = S1.1 k := fun k _ => by rw [c.1]
  refine ⟨(hT.fr f1 fT (by decide)).cc (c1 0 (by omega)) c.2.1, (hF.fr f1 fT (by decide)).cc c1, ne, nl, nc, (hE.fr f1 fT (by decide)).cc c1 c.2.1, (hP.fr f1 fT (by decide)).cc c1 c.2.1, (hN.fr f1 fT (by decide)).cc c.2.1, (hA.fr f1 fT (by decide)).cc c.2.1, ?_⟩
  have o := fun k (hk : k ≠ i) => nxS_o T (nl := nl) (r := r) h24 hr hk
  refine ⟨hC.1, ?_, ?_, ?_, fun k hk => ?_, fun l hl => ?_⟩
  · rw [c.2.2.1, f1.2.2.1]
    exact hC.2.1
  · show (nxC S1 i r).1 12 = _
    rw [c.1]
    exact (f1.1 12 (by decide)).trans hC.2.2.1
  · exact (fT.1 13 (by decide)).trans hC.2.2.2.1
  · by_cases q : k = i
    · subst q
      have hS1 : RIs nl S1 T k := by
        refine (hC.2.2.2.2.1 k hk).cg (fun f _ => f1.2.2.2 k f) (fun _ _ _ _ => rfl) (fun _ _ => rfl)
      exact ask_self h24 hS1 ((f1.2.2.2 k 6).trans h6) h24' ((f1.2.2.2 k 9).trans h9) ((f1.2.2.2 k 14).trans h14) hr
    · exact (ho k hk q).cg (fun f => (c.2.2.2 k f q).trans (f1.2.2.2 k f)) (o k q).1 (o k q).2
  · have e14 : gM (nxC S1 i r) 14 = gM S 14 := by
      show (nxC S1 i r).2.1 14 = _
      rw [c.2.1]
      exact f1.2.1 14 (by decide)
    rw [e14, tkn_cg (T := T) (fun k _ => by rw [fT.2.1 24 (by decide)])]
    exact hC.2.2.2.2.2 l hl
theorem op_pay {S T : St} (h : Rel S T) (p1 : Int32) : ∃ (r : Int32) (S2 T2 : St), (f_X7_pay S p1 = some (r, S2)) ∧ (f_X8_pay T p1 = some (r, T2)) ∧ Rel S2 T2 := by
  have h0 := h
  obtain ⟨hT, hF, ne, nl, nc, hE, hP, hN, hA, hC⟩ := h
  have h150 := hC.1
  unfold f_X7_pay f_X8_pay
  rcases call_cases hC p1 with ⟨a1, a2⟩ | ⟨i, hi, rfl, a1, a2⟩
  · rw [a1, a2]
    exact ⟨_, S, T, rfl, rfl, h0⟩
  have hI := hC.2.2.2.2.1 i hi
  have h7 := hI.2.2.2.2.2.2.1
  have h14 := hI.2.2.2.2.2.2.2.2.2.2.1
  obtain ⟨d, d1, d2, d3⟩ := hI.1
  obtain ⟨k, k1, k2, k3⟩ := textNow_S hE (gC S i 0)
  have e15 : gC S i 0 = gM T 15 i := d2.trans d3.symm
  rw [e15] at k1 k3
  rw [a1, a2, bT, bT, get_S hC hi, Option.bind_some, hC.2.1, gn_p hi, e15, h7]
  simp (disch := omega) only [gd_nI, nI_clamp, bnd]
  by_cases st : gM T 21 i = 1
  · rw [if_pos st, if_pos st, k1, Option.bind_some, gk_p k2, due_S hC hi st k2 k3, hE.1.2.1, claim_T hE.1 (Nat.le_refl _) (by omega), Option.bind_some, Option.bind_some, gC_sC_s, h14, add4]
    have fT : Fr [] [28] T (sM T 28 i (clm T ne i)) := Fr.m
    refine ⟨_, _, _, rfl, rfl, (hT.fr (Fr.rf S) fT (by decide)).cc rfl rfl, (hF.fr (Fr.rf S) fT (by decide)).cc (fun _ _ => rfl), ne, nl, nc, (hE.fr (Fr.rf S) fT (by decide)).cc (fun _ _ => rfl) rfl, (hP.fr (Fr.rf S) fT (by decide)).cc (fun _ _ => rfl) rfl, (hN.fr (Fr.rf S) fT (by decide)).cc rfl, (hA.fr (Fr.rf S) fT (by decide)).cc rfl, hC.1, hC.2.1, hC.2.2.1, hC.2.2.2.1, fun j hj => ?_, fun l hl => ?_⟩
    · by_cases q : j = i
      · subst q
        obtain ⟨g1, g2, g3, g4, g5, g6, g7, g8, g9, g10, g11, g12⟩ := hI
        unfold RI
        simp (disch := omega) only [gI_sI_s, gI_sI_n, gI_sM, gI_sF, gI_sC, gI_sJ, gM_sI, gM_sC, gM_sJ, gM_sM_s, gM_sM_n, gM_sF_s, gM_sF_n, gC_sI, gC_sM, gC_sF, gC_sJ, gC_sC_s, gC_sC_n, gC_sC_m, nC_sI, nC_sM, nC_sF, nC_sC, nC_sJ, gJ_sI, gJ_sM, gJ_sF, gJ_sC, gJ_sJ, pk_us]
        exact ⟨g1, g2, g3, g4, g5, g6, g7, g8, g9, g10, trivial, g12⟩
      · refine (hC.2.2.2.2.1 j hj).cg (fun f => gC_sC_m _ _ _ _ q) (fun m h1 h2 => ?_) (fun l hl => ?_)
        · by_cases z : m = 28
          · subst z
            rw [gM_sM_s, pk_un q]
          · rw [gM_sM_n _ _ _ z]
        · rw [gM_sM_n _ _ _ (by omega)]
    · exact hC.2.2.2.2.2 l hl
  · rw [if_neg st, if_neg st]
    exact ⟨_, S, T, rfl, rfl, h0⟩
theorem op_answer {S T : St} (h : Rel S T) (p1 p2 : Int32) (hz : p2 = 0 ∨ p2 = 1) : ∃ (r : Int32) (S2 T2 : St), (f_X7_answer S p1 p2 = some (r, S2)) ∧ (f_X8_answer T p1 p2 = some (r, T2)) ∧ Rel S2 T2 := by
  have h0 := h
  obtain ⟨hT, hF, ne, nl, nc, hE, hP, hN, hA, hC⟩ := h
  have h150 := hC.1
  have h24 := hP.1
  unfold f_X7_answer f_X8_answer
  rcases call_cases hC p1 with ⟨a1, a2⟩ | ⟨i, hi, rfl, a1, a2⟩
  · rw [a1, a2]
    exact ⟨_, S, T, rfl, rfl, h0⟩
  have hI := hC.2.2.2.2.1 i hi
  have h7 := hI.2.2.2.2.2.2.1
  rw [a1, a2, bT, bT, get_S hC hi, Option.bind_some, hC.2.1, gn_p hi, h7]
  simp (disch := omega) only [gd_nI, nI_clamp, bnd]
  by_cases st : gM T 21 i = 0
  · rw [if_pos st, if_pos st]
    obtain ⟨⟨d, d1, d2, d3⟩, ⟨p, p1, p2', p3⟩, ⟨t, t1, t2, t3⟩, g4, ⟨c, c1, c2, c3⟩, ⟨a, b1, b2, b3⟩, _, g8, g9, g10, g11, g12⟩ := id hI
    have hst : gM T 24 i = -1 ∧ ∃ l, l < nl ∧ gM T 23 i = nI l ∧ gC S i 7 = nI l := by
      rcases g12 with ⟨_, y⟩ | ⟨y, _⟩ | ⟨y, _⟩
      · exact y
      · rw [y] at st
        exact absurd st (by decide)
      · rw [y] at st
        exact absurd st (by decide)
    obtain ⟨q24, l, hl, q23, q7⟩ := hst
    rcases hz with rfl | rfl
    · rw [if_pos rfl, if_pos rfl, Option.bind_some, gn_p hi, g9]
      generalize hv : gM T 22 i + 1 = v
      have fT : Fr [] [22] T (sM T 22 i v) := Fr.m
      have hT' : RT (sC S i 9 v) (sM T 22 i v) := (hT.fr (Fr.rf S) fT (by decide)).cc rfl rfl
      have hF' : RF (sC S i 9 v) (sM T 22 i v) := (hF.fr (Fr.rf S) fT (by decide)).cc (fun _ _ => rfl)
      have hE' : RE ne (sC S i 9 v) (sM T 22 i v) := (hE.fr (Fr.rf S) fT (by decide)).cc (fun _ _ => rfl) rfl
      have hP' : RP nl (sC S i 9 v) (sM T 22 i v) := (hP.fr (Fr.rf S) fT (by decide)).cc (fun _ _ => rfl) rfl
      have hN' : RN nl (sC S i 9 v) (sM T 22 i v) := (hN.fr (Fr.rf S) fT (by decide)).cc rfl
      have hA' : RA (sC S i 9 v) (sM T 22 i v) := (hA.fr (Fr.rf S) fT (by decide)).cc rfl
      have gf : ∀ k f, f ≠ 9 → gC (sC S i 9 v) k f = gC S k f := by
        intro k f hf
        by_cases q : k = i
        · rw [q, gC_sC_n _ _ _ hf]
        · rw [gC_sC_m _ _ _ _ q]
      have hC' : RCs nc nl (sC S i 9 v) (sM T 22 i v) := ⟨hC.1, hC.2.1, hC.2.2.1, hC.2.2.2.1, fun k hk => ((hC.2.2.2.2.1 k hk).s h24).cg (gf k) (fun m _ _ h => by rw [gM_sM_n _ _ _ h]) (fun _ _ => by rw [gM_sM_n _ _ _ (by omega)]), hC.2.2.2.2.2⟩
      obtain ⟨S1, f1, e1⟩ := askNext_S hE' hP' hN' hA' hC' hi
      have e2 := askNext_T hE' hP' hN' hC' hi
      have hr := nxt_or (ne := ne) hN' hC' hi
      rw [e1, e2, Option.bind_some, Option.bind_some]
      refine ⟨_, _, _, rfl, ?_, asked_all hT' hF' hE' hP' hN' hA' hC' hi f1 (fun k hk q => ?_) ?_ ?_ ?_ ?_ hr⟩
      · have e23 : ∀ r, gM (nxS (sM T 22 i v) i r) 23 i = r := by
          intro r
          unfold nxS
          split
          · rw [gM_sM_n _ _ _ (by omega), gM_sM_s, pk_us]
          · rw [gM_sM_n _ _ _ (by omega), gM_sM_n _ _ _ (by omega), gM_sM_s, pk_us]
        rw [e23]
      · refine (hC.2.2.2.2.1 k hk).cg (fun f => gC_sC_m _ _ _ _ q) (fun m h1 h2 => ?_) (fun l hl => ?_)
        · by_cases z : m = 22
          · subst z
            rw [gM_sM_s, pk_un q]
          · rw [gM_sM_n _ _ _ z]
        · rw [gM_sM_n _ _ _ (by omega)]
      · rw [gC_sC_n _ _ _ (by omega), h7, st]
      · rw [gM_sM_n _ _ _ (by omega), q24]
      · rw [gC_sC_s, gM_sM_s, pk_us]
      · rw [gC_sC_n _ _ _ (by omega), gM_sM_n _ _ _ (by omega), g11]
    · rw [if_neg (by decide), if_neg (by decide), q23]
      obtain ⟨⟨tl, tl1, tl2⟩, tl3, _⟩ := hP.2.2.2.1 l hl
      have htv := hP.2.2.2.2.2.2 (10 * tl + t) (by omega)
      have e1 : tl * 10 + t = 10 * tl + t := by omega
      have hmv : ∃ m, m ≤ 600 ∧ (if 0 < gM T 10 (10 * tl + t) then gM T 10 (10 * tl + t) else 0) = nI m ∧ (if gM T 10 (10 * tl + t) = -1 then 0 else gM T 10 (10 * tl + t)) = nI m := by
        rcases htv.2 with z | ⟨m, m1, m2⟩
        · rw [z]
          exact ⟨0, by omega, by decide, by decide⟩
        · rw [m2]
          refine ⟨m, m1, ?_, ?_⟩
          · by_cases q : m = 0
            · subst q
              decide
            · rw [if_pos]
              simp (disch := omega) only [NL0, NL1, NL2, NL3, NL4, NL5, NL6, NL7, NL8, NL9]
              omega
          · rw [if_neg]
            simp (disch := omega) only [q_m1, not_false_eq_true]
      obtain ⟨m, m1, m2, m3⟩ := hmv
      generalize hdl : nw T (gM T 15 i) ne 1 = ak
      generalize hdu : dt T p d = du
      have hmod : f_X8_answer_J103 (nI i) (nI l) (nI m) (nI i) (sM (sM T 21 i 1) 24 i (nI l)) = some (-1, sM (sM (sM (sM (sM T 21 i 1) 24 i (nI l)) 26 i (nI m)) 25 i (gM T 22 i * ak + nI m)) 27 i (bI (decide (du = nI l)))) := by
        have hG' : RG ne (sM (sM (sM T 21 i 1) 24 i (nI l)) 26 i (nI m)) := hE.1.fr ((Fr.m.tr Fr.m).tr Fr.m) (by decide)
        have hnow : f_X8_now (sM (sM (sM T 21 i 1) 24 i (nI l)) 26 i (nI m)) (nI d) 1 = some ak := by
          rw [← d3, now_T hG' (gM T 15 i) (x := 1) (r := 1) (by omega) rfl, ← hdl]
          rfl
        simp (disch := omega) only [f_X8_answer_J103, gd_nI, nI_clamp, bnd, gI_sI_s, gI_sI_n, gI_sM, gI_sF, gI_sC, gI_sJ, gM_sI, gM_sC, gM_sJ, gM_sM_s, gM_sM_n, gM_sF_s, gM_sF_n, gC_sI, gC_sM, gC_sF, gC_sJ, gC_sC_s, gC_sC_n, gC_sC_m, nC_sI, nC_sM, nC_sF, nC_sC, nC_sJ, gJ_sI, gJ_sM, gJ_sF, gJ_sC, gJ_sJ, pk_us, hnow, Option.bind_some, p3, d3, nI_add, NL0, NL1, NL2, NL3, NL4, NL5, NL6, NL7, NL8, NL9]
        have hdu' : gM T 11 (1000 * p + d) = du := hdu
        rw [hdu']
        by_cases q : du = nI l
        · rw [if_pos q, decide_eq_true q, nar_1]
        · rw [if_neg q, decide_eq_false q, nar_0]
      have hmod2 : (if gM T 10 (10 * tl + t) = -1 then f_X8_answer_J103 (nI i) (nI l) 0 (nI i) (sM (sM T 21 i 1) 24 i (nI l)) else f_X8_answer_J103 (nI i) (nI l) (gM T 10 (10 * tl + t)) (nI i) (sM (sM T 21 i 1) 24 i (nI l))) = f_X8_answer_J103 (nI i) (nI l) (nI m) (nI i) (sM (sM T 21 i 1) 24 i (nI l)) := by
        rw [← m3]
        split <;> rfl
      have hT3 : gM (sM (sM T 21 i 1) 24 i (nI l)) 5 = gM T 5 := by simp (disch := omega) only [gI_sI_s, gI_sI_n, gI_sM, gI_sF, gI_sC, gI_sJ, gM_sI, gM_sC, gM_sJ, gM_sM_s, gM_sM_n, gM_sF_s, gM_sF_n, gC_sI, gC_sM, gC_sF, gC_sJ, gC_sC_s, gC_sC_n, gC_sC_m, nC_sI, nC_sM, nC_sF, nC_sC, nC_sJ, gJ_sI, gJ_sM, gJ_sF, gJ_sC, gJ_sJ]
      have hT4 : gM (sM (sM T 21 i 1) 24 i (nI l)) 17 = gM T 17 := by simp (disch := omega) only [gI_sI_s, gI_sI_n, gI_sM, gI_sF, gI_sC, gI_sJ, gM_sI, gM_sC, gM_sJ, gM_sM_s, gM_sM_n, gM_sF_s, gM_sF_n, gC_sI, gC_sM, gC_sF, gC_sJ, gC_sC_s, gC_sC_n, gC_sC_m, nC_sI, nC_sM, nC_sF, nC_sC, nC_sJ, gJ_sI, gJ_sM, gJ_sF, gJ_sC, gJ_sJ]
      have hT5 : gM (sM (sM T 21 i 1) 24 i (nI l)) 10 = gM T 10 := by simp (disch := omega) only [gI_sI_s, gI_sI_n, gI_sM, gI_sF, gI_sC, gI_sJ, gM_sI, gM_sC, gM_sJ, gM_sM_s, gM_sM_n, gM_sF_s, gM_sF_n, gC_sI, gC_sM, gC_sF, gC_sJ, gC_sC_s, gC_sC_n, gC_sC_m, nC_sI, nC_sM, nC_sF, nC_sC, nC_sJ, gJ_sI, gJ_sM, gJ_sF, gJ_sC, gJ_sJ]
      simp (disch := omega) only [gd_nI, nI_clamp, hT3, hT4, hT5, tl2, t3, nI_add, NL0, NL1, NL2, NL3, NL4, NL5, NL6, NL7, NL8, NL9]
      rw [hmod2, hmod]
      -- the class
      obtain ⟨k, k1, k2, k3⟩ := textNow_S hE (gC S i 0)
      have e15 : gC S i 0 = gM T 15 i := d2.trans d3.symm
      rw [e15] at k1 k3
      have k31 := k3 1 (by omega)
      rw [hdl] at k31
      have hmin : f_X1_minutesTo (sC (sC (sC S i 6 1) i 7 (-1)) i 10 (nI l)) i (nI l) = some (gM T 10 (10 * tl + t)) := by
        simp (disch := omega) only [f_X1_minutesTo, f_X3_minutesBetween, gI_sI_s, gI_sI_n, gI_sM, gI_sF, gI_sC, gI_sJ, gM_sI, gM_sC, gM_sJ, gM_sM_s, gM_sM_n, gM_sF_s, gM_sF_n, gC_sI, gC_sM, gC_sF, gC_sJ, gC_sC_s, gC_sC_n, gC_sC_m, nC_sI, nC_sM, nC_sF, nC_sC, nC_sJ, gJ_sI, gJ_sM, gJ_sF, gJ_sC, gJ_sJ, hC.2.1, gn_p, NL0, NL1, NL2, NL3, NL4, NL5, NL6, NL7, NL8, NL9, q_m1, q_m1', q_m1t, q_m1t', q_m1l, q_m1l', nI_clamp, nI_leI, nI_ltI, nI_eq, nI_add, nI_z, pk_mul, pk_sub, gd_nI, tl3, tl2, t2, Option.bind_some, e1, htv.1]
      have htx : f_X6_textNow (sC (sC (sC (sC S i 6 1) i 7 (-1)) i 10 (nI l)) i 11 (nI m)) (gM T 15 i) = some k := k1
      have hho : ∀ w, f_X2_holder (sC (sC (sC (sC (sC S i 6 1) i 7 (-1)) i 10 (nI l)) i 11 (nI m)) i 12 w) (nI p) (gM T 15 i) = some du := by
        intro w
        rw [← hdu, d3]
        exact holder_S hN p1 d1
      have hcls : f_X1_take S (nI i) = some (sM (sC (sC (sC (sC (sC (sC S i 6 1) i 7 (-1)) i 10 (nI l)) i 11 (nI m)) i 12 (ak * gM T 22 i + nI m)) i 13 (bI (decide (du = nI l)))) 14 l (gM S 14 l + 1)) := by
        have hgt : gT (sC (sC (sC (sC S i 6 1) i 7 (-1)) i 10 (nI l)) i 11 (nI m)) k 1 = ak := k31
        simp (disch := omega) only [f_X1_take, gd_nI, nI_clamp, hC.2.1, bnd, q7, hmin, Option.bind_some, m2, gI_sI_s, gI_sI_n, gI_sM, gI_sF, gI_sC, gI_sJ, gM_sI, gM_sC, gM_sJ, gM_sM_s, gM_sM_n, gM_sF_s, gM_sF_n, gC_sI, gC_sM, gC_sF, gC_sJ, gC_sC_s, gC_sC_n, gC_sC_m, nC_sI, nC_sM, nC_sF, nC_sC, nC_sJ, gJ_sI, gJ_sM, gJ_sF, gJ_sC, gJ_sJ, e15, htx, gk_p k2, hgt, g9, p2', d2, NL0, NL1, NL2, NL3, NL4, NL5, NL6, NL7, NL8, NL9]
        rw [d3] at htx
        simp (disch := omega) only [htx, Option.bind_some, gk_p k2, hgt, hho, f_X1_take_J93, nC_sC, hC.2.1, gn_p, bnd, gz_0, gz_1, gd_nI, nI_clamp, gI_sI_s, gI_sI_n, gI_sM, gI_sF, gI_sC, gI_sJ, gM_sI, gM_sC, gM_sJ, gM_sM_s, gM_sM_n, gM_sF_s, gM_sF_n, gC_sI, gC_sM, gC_sF, gC_sJ, gC_sC_s, gC_sC_n, gC_sC_m, nC_sI, nC_sM, nC_sF, nC_sC, nC_sJ, gJ_sI, gJ_sM, gJ_sF, gJ_sC, gJ_sJ, NL0, NL1, NL2, NL3, NL4, NL5, NL6, NL7, NL8, NL9]
        by_cases q : du = nI l
        · rw [if_pos q, decide_eq_true q]
          rfl
        · rw [if_neg q, decide_eq_false q]
          rfl
      rw [hcls, Option.bind_some]
      have fT : Fr [] [21, 24, 26, 25, 27] T (sM (sM (sM (sM (sM T 21 i 1) 24 i (nI l)) 26 i (nI m)) 25 i (gM T 22 i * ak + nI m)) 27 i (bI (decide (du = nI l)))) := (((Fr.m.tr Fr.m).tr Fr.m).tr Fr.m).tr Fr.m
      have fS : Fr [] [14] S (sM S 14 l (gM S 14 l + 1)) := Fr.m
      refine ⟨-1, _, _, rfl, rfl, (hT.fr fS fT (by decide)).cc rfl rfl, (hF.fr fS fT (by decide)).cc (fun _ _ => rfl), ne, nl, nc, (hE.fr fS fT (by decide)).cc (fun _ _ => rfl) rfl, (hP.fr fS fT (by decide)).cc (fun _ _ => rfl) rfl, (hN.fr fS fT (by decide)).cc rfl, (hA.fr fS fT (by decide)).cc rfl, hC.1, hC.2.1, hC.2.2.1, hC.2.2.2.1, fun j hj => ?_, fun l' hl' => ?_⟩
      · by_cases q : j = i
        · subst q
          unfold RI
          simp (disch := omega) only [gI_sI_s, gI_sI_n, gI_sM, gI_sF, gI_sC, gI_sJ, gM_sI, gM_sC, gM_sJ, gM_sM_s, gM_sM_n, gM_sF_s, gM_sF_n, gC_sI, gC_sM, gC_sF, gC_sJ, gC_sC_s, gC_sC_n, gC_sC_m, nC_sI, nC_sM, nC_sF, nC_sC, nC_sJ, gJ_sI, gJ_sM, gJ_sF, gJ_sC, gJ_sJ, pk_us]
          refine ⟨⟨d, d1, d2, d3⟩, ⟨p, p1, p2', p3⟩, ⟨t, t1, t2, t3⟩, g4, ⟨c, c1, c2, c3⟩, ⟨a, b1, b2, b3⟩, trivial, g8, g9, trivial, g11, Or.inr (Or.inr ⟨trivial, trivial, ⟨l, hl, rfl⟩, ⟨m, m1, rfl, rfl⟩, ?_, trivial, ?_⟩)⟩
          · rw [Int32.mul_comm]
          · cases decide (du = nI l)
            · exact Or.inl rfl
            · exact Or.inr rfl
        · refine (hC.2.2.2.2.1 j hj).cg (fun f => ?_) (fun m' h1 h2 => ?_) (fun l' hl' => ?_)
          · rw [gC_sM, gC_sC_m _ _ _ _ q, gC_sC_m _ _ _ _ q, gC_sC_m _ _ _ _ q, gC_sC_m _ _ _ _ q, gC_sC_m _ _ _ _ q, gC_sC_m _ _ _ _ q]
          · have hup : ∀ (X : St) (b : Nat) (v : Int32), gM (sM X b i v) m' j = gM X m' j := by
              intro X b v
              by_cases z : m' = b
              · subst z
                rw [gM_sM_s, pk_un q]
              · rw [gM_sM_n _ _ _ z]
            rw [hup, hup, hup, hup, hup]
          · simp (disch := omega) only [gI_sI_s, gI_sI_n, gI_sM, gI_sF, gI_sC, gI_sJ, gM_sI, gM_sC, gM_sJ, gM_sM_s, gM_sM_n, gM_sF_s, gM_sF_n, gC_sI, gC_sM, gC_sF, gC_sJ, gC_sC_s, gC_sC_n, gC_sC_m, nC_sI, nC_sM, nC_sF, nC_sC, nC_sJ, gJ_sI, gJ_sM, gJ_sF, gJ_sC, gJ_sJ]
      · have e24 : tkn (sM (sM (sM (sM (sM T 21 i 1) 24 i (nI l)) 26 i (nI m)) 25 i (gM T 22 i * ak + nI m)) 27 i (bI (decide (du = nI l)))) nc l' = tkn T nc l' + if l' = l then 1 else 0 := by
          unfold tkn
          simp (disch := omega) only [gI_sI_s, gI_sI_n, gI_sM, gI_sF, gI_sC, gI_sJ, gM_sI, gM_sC, gM_sJ, gM_sM_s, gM_sM_n, gM_sF_s, gM_sF_n, gC_sI, gC_sM, gC_sF, gC_sJ, gC_sC_s, gC_sC_n, gC_sC_m, nC_sI, nC_sM, nC_sF, nC_sC, nC_sJ, gJ_sI, gJ_sM, gJ_sF, gJ_sC, gJ_sJ]
          have := fb_ct_upd (fun k => decide (gM T 24 k = nI l')) (decide (nI l = nI l')) hi
          have e3 : fb_ct (fun k => decide (upd (gM T 24) i (nI l) k = nI l')) nc = fb_ct (fun k => if k = i then decide (nI l = nI l') else decide (gM T 24 k = nI l')) nc := by
            apply fb_ct_cong
            intro k _
            by_cases z : k = i
            · subst z
              rw [pk_us, if_pos rfl]
            · rw [pk_un z, if_neg z]
          rw [e3]
          have e4 : decide (gM T 24 i = nI l') = false := by
            rw [q24]
            simp (disch := omega) only [q_m1', decide_false]
          have e5 : decide (nI l = nI l') = decide (l' = l) := by
            simp (disch := omega) only [nI_eq]
            exact decide_eq_decide.mpr ⟨fun z => z.symm, fun z => z.symm⟩
          rw [e4, e5] at this
          rw [e5]
          simpa using this
        rw [e24, gM_sM_s]
        have e6 : ∀ x, gM (sC (sC (sC (sC (sC (sC S i 6 1) i 7 (-1)) i 10 (nI l)) i 11 (nI m)) i 12 (ak * gM T 22 i + nI m)) i 13 (bI (decide (du = nI l)))) 14 x = gM S 14 x := fun x => rfl
        by_cases z : l' = l
        · subst z
          rw [pk_us, if_pos rfl, hC.2.2.2.2.2 l' hl', nI_1]
        · rw [pk_un z, if_neg z, e6]
          exact hC.2.2.2.2.2 l' hl'
  · rw [if_neg st, if_neg st]
    exact ⟨_, S, T, rfl, rfl, h0⟩
/-! a call comes -/
theorem clear_T (T : St) {i : Nat} (hi : i < 150) {Q : Int32 × St → Prop} (hQ : ∀ T1, Fr [] [29] T T1 → (∀ l, l < 24 → gM T1 29 (24 * i + l) = 0) → (∀ k, k < 24 * i ∨ 24 * i + 24 ≤ k → gM T1 29 k = gM T 29 k) → Ok ((f_X8_askNext (sI T1 13 (gI T1 13 + 1)) (nI i)).bind (fun S_33 => some (nI i, S_33))) Q) : Ok (loopF (f_X8_call_L197 (nI i)) FU (0, T)) Q := by
  refine loop_ok (fun j s => ∃ T1, s = (nI j, T1) ∧ Fr [] [29] T T1 ∧ (∀ l, l < j → gM T1 29 (24 * i + l) = 0) ∧ (∀ k, k < 24 * i ∨ 24 * i + 24 ≤ k → gM T1 29 k = gM T 29 k)) 24 _ (by omega) ⟨T, rfl, (Fr.rf T).w (by decide) (by decide), fun l hl => by omega, fun _ _ => rfl⟩ ?_
  rintro j s hj ⟨T1, rfl, g1, g2, g3⟩
  rcases Nat.lt_or_ge j 24 with h | h
  · refine go (s' := (nI (j + 1), sM T1 29 (24 * i + j) 0)) ?_ h ⟨_, rfl, (g1.tr Fr.m).w (by decide) (by decide), fun l hl => ?_, fun k hk => ?_⟩
    · simp (disch := omega) only [f_X8_call_L197, NL0, NL1, NL2, NL3, NL4, NL5, NL6, NL7, NL8, NL9, q_m1, q_m1', q_m1t, q_m1t', q_m1l, q_m1l', nI_clamp, nI_leI, nI_ltI, nI_eq, nI_add, nI_z, pk_mul, pk_sub, gd_nI, bnd, nar_0, bI_f]
      rw [if_neg (by omega)]
    · rw [gM_sM_s]
      by_cases q : l = j
      · subst q
        rw [pk_us]
      · rw [pk_un (by omega)]
        exact g2 l (by omega)
    · rw [gM_sM_s, pk_un (by omega)]
      exact g3 k hk
  · have : j = 24 := by omega
    subst this
    obtain ⟨r, e1, e2⟩ := hQ T1 g1 g2 g3
    refine out (r := r) ?_ e2
    simp (disch := omega) only [f_X8_call_L197, NL0, NL1, NL2, NL3, NL4, NL5, NL6, NL7, NL8, NL9, q_m1, q_m1', q_m1t, q_m1t', q_m1l, q_m1l', nI_clamp, nI_leI, nI_ltI, nI_eq, nI_add, nI_z, pk_mul, pk_sub, gd_nI, bnd]
    rw [if_pos (by omega)]
    obtain ⟨T2, e3, e4⟩ := bind_of e1
    rw [e3]
    cases e4
    rfl
theorem newcall {S T : St} {ne nl nc : Nat} (hT : RT S T) (hF : RF S T) (hE : RE ne S T) (hP : RP nl S T) (hN : RN nl S T) (hA : RA S T) (hC : RC nc nl S T) (hn : nc < 150) {d p t c a : Nat} {g : Int32} (hd' : d < 1000) (hp : p < 6) (ht : t < 10) (hg : g = -1 ∨ ∃ v, v < 8 ∧ g = nI v) (hc : c < 100) (ha : a < 10) :
    ∃ r S2 T2, f_call9 S (nI d) (nI p) (nI t) g (nI c) (nI a) = some (r, S2) ∧ f_X8_call_J99 (nI d) (nI p) (nI t) g (nI c) (nI a) T = some (r, T2) ∧ Rel S2 T2 := by
  have h24 := hP.1
  have e1 : gI S 12 + 1 - 1 = nI nc := by rw [hC.2.2.1, nI_1, nI_pred]
  unfold f_call9 f_X8_call_J99
  rw [hC.2.1, gn_p hn, e1, hC.2.2.1, hC.2.2.2.1]
  unfold gq
  rw [if_pos rfl]
  have hne : ¬ nI nc = 150 := by
    simp (disch := omega) only [NL0, NL1, NL2, NL3, NL4, NL5, NL6, NL7, NL8, NL9]
    omega
  rw [if_neg hne]
  simp (disch := omega) only [bnd, gd_nI, nI_clamp]
  suffices H : Ok (loopF (f_X8_call_L197 (nI nc)) FU (0, sM (sM (sM (sM (sM (sM (sM (sM (sM T 15 nc (nI d)) 16 nc (nI p)) 17 nc (nI t)) 18 nc g) 19 nc (nI c)) 20 nc (nI a)) 22 nc 0) 24 nc (-1)) 28 nc 0)) (fun w => ∃ S2, (f_X1_askNext (addC S (newF (nI d) (nI p) (nI t) g (nI c) (nI a))) (nI nc)).bind (fun x => some (nI nc, x.2)) = some (w.1, S2) ∧ Rel S2 w.2) by
    obtain ⟨⟨r, T2⟩, e2, S2, e3, e4⟩ := H
    exact ⟨r, S2, T2, e3, e2, e4⟩
  have fT0 : Fr [] [15, 16, 17, 18, 19, 20, 22, 24, 28] T (sM (sM (sM (sM (sM (sM (sM (sM (sM T 15 nc (nI d)) 16 nc (nI p)) 17 nc (nI t)) 18 nc g) 19 nc (nI c)) 20 nc (nI a)) 22 nc 0) 24 nc (-1)) 28 nc 0) := (((((((Fr.m.tr Fr.m).tr Fr.m).tr Fr.m).tr Fr.m).tr Fr.m).tr Fr.m).tr Fr.m).tr Fr.m
  have up0 : ∀ m k, k ≠ nc → gM (sM (sM (sM (sM (sM (sM (sM (sM (sM T 15 nc (nI d)) 16 nc (nI p)) 17 nc (nI t)) 18 nc g) 19 nc (nI c)) 20 nc (nI a)) 22 nc 0) 24 nc (-1)) 28 nc 0) m k = gM T m k := by
    intro m k hk
    have hup : ∀ (X : St) (b : Nat) (v : Int32), gM (sM X b nc v) m k = gM X m k := by
      intro X b v
      by_cases z : m = b
      · subst z
        rw [gM_sM_s, pk_un hk]
      · rw [gM_sM_n _ _ _ z]
    simp only [hup]
  generalize hT0 : sM (sM (sM (sM (sM (sM (sM (sM (sM T 15 nc (nI d)) 16 nc (nI p)) 17 nc (nI t)) 18 nc g) 19 nc (nI c)) 20 nc (nI a)) 22 nc 0) 24 nc (-1)) 28 nc 0 = T0 at fT0 up0
  have n15 : gM T0 15 nc = nI d := by rw [← hT0]; simp (disch := omega) only [gI_sI_s, gI_sI_n, gI_sM, gI_sF, gI_sC, gI_sJ, gM_sI, gM_sC, gM_sJ, gM_sM_s, gM_sM_n, gM_sF_s, gM_sF_n, gC_sI, gC_sM, gC_sF, gC_sJ, gC_sC_s, gC_sC_n, gC_sC_m, nC_sI, nC_sM, nC_sF, nC_sC, nC_sJ, gJ_sI, gJ_sM, gJ_sF, gJ_sC, gJ_sJ, pk_us]
  have n16 : gM T0 16 nc = nI p := by rw [← hT0]; simp (disch := omega) only [gI_sI_s, gI_sI_n, gI_sM, gI_sF, gI_sC, gI_sJ, gM_sI, gM_sC, gM_sJ, gM_sM_s, gM_sM_n, gM_sF_s, gM_sF_n, gC_sI, gC_sM, gC_sF, gC_sJ, gC_sC_s, gC_sC_n, gC_sC_m, nC_sI, nC_sM, nC_sF, nC_sC, nC_sJ, gJ_sI, gJ_sM, gJ_sF, gJ_sC, gJ_sJ, pk_us]
  have n17 : gM T0 17 nc = nI t := by rw [← hT0]; simp (disch := omega) only [gI_sI_s, gI_sI_n, gI_sM, gI_sF, gI_sC, gI_sJ, gM_sI, gM_sC, gM_sJ, gM_sM_s, gM_sM_n, gM_sF_s, gM_sF_n, gC_sI, gC_sM, gC_sF, gC_sJ, gC_sC_s, gC_sC_n, gC_sC_m, nC_sI, nC_sM, nC_sF, nC_sC, nC_sJ, gJ_sI, gJ_sM, gJ_sF, gJ_sC, gJ_sJ, pk_us]
  have n18 : gM T0 18 nc = g := by rw [← hT0]; simp (disch := omega) only [gI_sI_s, gI_sI_n, gI_sM, gI_sF, gI_sC, gI_sJ, gM_sI, gM_sC, gM_sJ, gM_sM_s, gM_sM_n, gM_sF_s, gM_sF_n, gC_sI, gC_sM, gC_sF, gC_sJ, gC_sC_s, gC_sC_n, gC_sC_m, nC_sI, nC_sM, nC_sF, nC_sC, nC_sJ, gJ_sI, gJ_sM, gJ_sF, gJ_sC, gJ_sJ, pk_us]
  have n19 : gM T0 19 nc = nI c := by rw [← hT0]; simp (disch := omega) only [gI_sI_s, gI_sI_n, gI_sM, gI_sF, gI_sC, gI_sJ, gM_sI, gM_sC, gM_sJ, gM_sM_s, gM_sM_n, gM_sF_s, gM_sF_n, gC_sI, gC_sM, gC_sF, gC_sJ, gC_sC_s, gC_sC_n, gC_sC_m, nC_sI, nC_sM, nC_sF, nC_sC, nC_sJ, gJ_sI, gJ_sM, gJ_sF, gJ_sC, gJ_sJ, pk_us]
  have n20 : gM T0 20 nc = nI a := by rw [← hT0]; simp (disch := omega) only [gI_sI_s, gI_sI_n, gI_sM, gI_sF, gI_sC, gI_sJ, gM_sI, gM_sC, gM_sJ, gM_sM_s, gM_sM_n, gM_sF_s, gM_sF_n, gC_sI, gC_sM, gC_sF, gC_sJ, gC_sC_s, gC_sC_n, gC_sC_m, nC_sI, nC_sM, nC_sF, nC_sC, nC_sJ, gJ_sI, gJ_sM, gJ_sF, gJ_sC, gJ_sJ, pk_us]
  have n22 : gM T0 22 nc = 0 := by rw [← hT0]; simp (disch := omega) only [gI_sI_s, gI_sI_n, gI_sM, gI_sF, gI_sC, gI_sJ, gM_sI, gM_sC, gM_sJ, gM_sM_s, gM_sM_n, gM_sF_s, gM_sF_n, gC_sI, gC_sM, gC_sF, gC_sJ, gC_sC_s, gC_sC_n, gC_sC_m, nC_sI, nC_sM, nC_sF, nC_sC, nC_sJ, gJ_sI, gJ_sM, gJ_sF, gJ_sC, gJ_sJ, pk_us]
  have n24 : gM T0 24 nc = -1 := by rw [← hT0]; simp (disch := omega) only [gI_sI_s, gI_sI_n, gI_sM, gI_sF, gI_sC, gI_sJ, gM_sI, gM_sC, gM_sJ, gM_sM_s, gM_sM_n, gM_sF_s, gM_sF_n, gC_sI, gC_sM, gC_sF, gC_sJ, gC_sC_s, gC_sC_n, gC_sC_m, nC_sI, nC_sM, nC_sF, nC_sC, nC_sJ, gJ_sI, gJ_sM, gJ_sF, gJ_sC, gJ_sJ, pk_us]
  have n28 : gM T0 28 nc = 0 := by rw [← hT0]; simp (disch := omega) only [gI_sI_s, gI_sI_n, gI_sM, gI_sF, gI_sC, gI_sJ, gM_sI, gM_sC, gM_sJ, gM_sM_s, gM_sM_n, gM_sF_s, gM_sF_n, gC_sI, gC_sM, gC_sF, gC_sJ, gC_sC_s, gC_sC_n, gC_sC_m, nC_sI, nC_sM, nC_sF, nC_sC, nC_sJ, gJ_sI, gJ_sM, gJ_sF, gJ_sC, gJ_sJ, pk_us]
  refine clear_T T0 hn ?_
  intro T1 g1 g2 g3
  have i13 : gI T1 13 + 1 = nI (nc + 1) := by
    rw [g1.1 13 (by decide), fT0.1 13 (by decide), hC.2.2.2.1, nI_1]
  rw [i13]
  have fT : Fr [13] [15, 16, 17, 18, 19, 20, 22, 24, 28, 29] T (sI T1 13 (nI (nc + 1))) := ((fT0.tr g1).tr Fr.i).w (by decide) (by decide)
  generalize hT2 : sI T1 13 (nI (nc + 1)) = T2 at fT
  have gT2 : ∀ m, gM T2 m = gM T1 m := fun m => by rw [← hT2]; rfl
  have gT0 : ∀ m, m ≠ 29 → gM T2 m = gM T0 m := fun m hm => by rw [gT2, g1.2.1 m (by simpa using hm)]
  have i13' : gI T2 13 = nI (nc + 1) := by rw [← hT2, gI_sI_s]
  generalize hS1 : addC S (newF (nI d) (nI p) (nI t) g (nI c) (nI a)) = S1
  have s1 : ∀ k, k ≠ 12 → S1.1 k = S.1 k := fun k hk => by rw [← hS1]; exact va_up_ne _ _ hk
  have s2 : S1.2.1 = S.2.1 := by rw [← hS1]; rfl
  have s3 : nC S1 = nc + 1 := by rw [← hS1]; show nC S + 1 = _; rw [hC.2.1]
  have s4 : gI S1 12 = nI (nc + 1) := by
    rw [← hS1]
    show va_up S.1 12 (S.1 12 + 1) 12 = _
    rw [va_up_self]
    show gI S 12 + 1 = _
    rw [hC.2.2.1, nI_1]
  have s5 : ∀ k f, k ≠ nc → gC S1 k f = gC S k f := by
    intro k f hk
    rw [← hS1]
    show va_up S.2.2.2.2 S.2.2.2.1 _ k f = _
    have : k ≠ S.2.2.2.1 := fun z => hk (z.trans hC.2.1)
    rw [va_up_ne _ _ this]
    rfl
  have s6 : ∀ f, gC S1 nc f = newF (nI d) (nI p) (nI t) g (nI c) (nI a) f := by
    intro f
    rw [← hS1]
    show va_up S.2.2.2.2 S.2.2.2.1 _ nc f = _
    have : nc = S.2.2.2.1 := hC.2.1.symm
    rw [this, va_up_self]
  have hT' : RT S1 T2 := (hT.fr (Fr.rf S) fT (by decide)).cc (s1 0 (by omega)) s2
  have hF' : RF S1 T2 := (hF.fr (Fr.rf S) fT (by decide)).cc s1
  have hE' : RE ne S1 T2 := (hE.fr (Fr.rf S) fT (by decide)).cc s1 s2
  have hP' : RP nl S1 T2 := (hP.fr (Fr.rf S) fT (by decide)).cc s1 s2
  have hN' : RN nl S1 T2 := (hN.fr (Fr.rf S) fT (by decide)).cc s2
  have hA' : RA S1 T2 := (hA.fr (Fr.rf S) fT (by decide)).cc s2
  have ho : ∀ k, k < nc → RI nl S1 T2 k := by
    intro k hk
    refine (hC.2.2.2.2.1 k hk).cg (fun f => s5 k f (by omega)) (fun m h1 h2 => ?_) (fun l hl => ?_)
    · rw [gT0 m (by omega), up0 m k (by omega)]
    · rw [gT2, g3 _ (by omega), fT0.2.1 29 (by decide)]
  have hnew : RIs nl S1 T2 nc := by
    unfold RIs
    simp only [s6]
    rw [gT0 15 (by omega), gT0 16 (by omega), gT0 17 (by omega), gT0 18 (by omega), gT0 19 (by omega), gT0 20 (by omega), gT0 24 (by omega), n15, n16, n17, n18, n19, n20, n24]
    refine ⟨⟨d, hd', rfl, rfl⟩, ⟨p, hp, rfl, rfl⟩, ⟨t, ht, rfl, rfl⟩, ⟨rfl, hg⟩, ⟨c, hc, rfl, rfl⟩, ⟨a, ha, rfl, rfl⟩, fun l hl => ?_, rfl, Or.inl rfl, ?_⟩
    · rw [gT2, g2 l hl]
      show 0 = bI (bt 0 l)
      rw [b_0]
      rfl
    · show (0 : Int32) = 1 ↔ _
      exact ⟨fun z => absurd z (by decide), fun z => absurd rfl z⟩
  have hC' : RCs (nc + 1) nl S1 T2 := by
    refine ⟨by omega, s3, s4, i13', fun k hk => ?_, fun l hl => ?_⟩
    · by_cases q : k = nc
      · rw [q]
        exact hnew
      · exact (ho k (by omega)).s h24
    · have e14 : gM S1 14 = gM S 14 := by
        show S1.2.1 14 = _
        rw [s2]
        rfl
      rw [e14, hC.2.2.2.2.2 l hl]
      unfold tkn
      rw [fb_ct_succ, gT0 24 (by omega), n24]
      have : decide ((-1 : Int32) = nI l) = false := by simp (disch := omega) only [q_m1', decide_false]
      rw [this]
      refine kC ?_
      have : fb_ct (fun i => decide (gM T0 24 i = nI l)) nc = fb_ct (fun i => decide (gM T 24 i = nI l)) nc := by
        apply fb_ct_cong
        intro k hk
        rw [up0 24 k (by omega)]
      rw [this]
      rfl
  obtain ⟨S2, f1, e3⟩ := askNext_S hE' hP' hN' hA' hC' (i := nc) (by omega)
  have e4 := askNext_T hE' hP' hN' hC' (i := nc) (by omega)
  have hr := nxt_or (ne := ne) hN' hC' (i := nc) (by omega)
  rw [e3, e4, Option.bind_some, Option.bind_some]
  refine Ok.sm ⟨_, rfl, asked_all hT' hF' hE' hP' hN' hA' hC' (i := nc) (by omega) f1 (fun k hk q => ho k (by omega)) ?_ ?_ ?_ ?_ hr⟩
  · rw [s6]; rfl
  · rw [gT0 24 (by omega), n24]
  · rw [s6, gT0 22 (by omega), n22]; rfl
  · rw [s6, gT0 28 (by omega), n28]; rfl
theorem op_call {S T : St} (h : Rel S T) (p1 p2 p3 p4 p5 p6 p7 : Int32) : ∃ (r : Int32) (S2 T2 : St), (f_X7_call S p1 p2 p3 p4 p5 p6 p7 = some (r, S2)) ∧ (f_X8_call T p1 p2 p3 p4 p5 p6 p7 = some (r, T2)) ∧ Rel S2 T2 := by
  have h0 := h
  obtain ⟨hT, hF, ne, nl, nc, hE, hP, hN, hA, hC⟩ := h
  have h150 := hC.1
  unfold f_X7_call f_X8_call
  rcases day_cases p1 with ⟨a1, a2⟩ | ⟨d, hd', rfl, a1, a2⟩
  · rw [a1, a2]
    exact ⟨_, S, T, rfl, rfl, h0⟩
  rw [a1, a2, bT, bT]
  rcases below_cases p2 (b := 1440) (c := 1439) 1440 rfl (by decide) (by omega) with ⟨a1, a2⟩ | ⟨mi, hmi, rfl, a1, a2⟩
  · rw [a1, a2]
    exact ⟨_, S, T, rfl, rfl, h0⟩
  rw [a1, a2, bT, bT]
  -- the day of the latest call, in both
  have hlat : ∃ x, f_X1_latestDay S = some x ∧ ∀ {β : Type} (f g : Option β), (gI T 13 ≤ 0 → x ≤ nI d) ∧ ((if gI T 13 ≤ 0 then f else gd (gI T 13 - 1) 150 (if gM T 15 (gI T 13 - 1).toNatClampNeg ≤ nI d then f else g)) = if x ≤ nI d then f else g) := by
    unfold f_X1_latestDay
    rw [hC.2.2.1, hC.2.2.2.1]
    by_cases q : nc = 0
    · subst q
      rw [if_pos nI_0]
      refine ⟨0, rfl, fun f g => ?_⟩
      have z1 : nI 0 ≤ 0 := by decide
      have z2 : (0 : Int32) ≤ nI d := nI_pos' (by omega)
      rw [if_pos z1, if_pos z2]
      exact ⟨fun _ => z2, rfl⟩
    · have z0 : ¬ nI nc = 0 := nI_ne0 (by omega) (by omega)
      have z1 : ¬ nI nc ≤ 0 := nI_nle (by omega) (by omega)
      obtain ⟨m, rfl⟩ : ∃ m, nc = m + 1 := ⟨nc - 1, by omega⟩
      rw [if_neg z0, nI_pred, gd_nI (by omega) (by omega), hC.2.1, gd_nI (by omega) (by omega)]
      simp only [bnd]
      rw [nI_clamp (by omega)]
      obtain ⟨v, v1, v2, v3⟩ := (hC.2.2.2.2.1 m (by omega)).1
      refine ⟨nI v, by rw [v2], fun f g => ?_⟩
      rw [if_neg z1, gd_nI (by omega) (by omega), v3]
      exact ⟨fun z => absurd z z1, rfl⟩
  obtain ⟨x, x1, x2⟩ := hlat
  rw [x1, Option.bind_some]
  by_cases q : x ≤ nI d
  · rw [if_pos q]
    rcases below_cases p3 (b := 6) (c := 5) 6 rfl (by decide) (by omega) with ⟨a1, a2⟩ | ⟨p, hp, rfl, a1, a2⟩
    · rw [a1, a2]
      exact ⟨_, S, T, rfl, rfl, h0⟩
    rw [a1, a2, bT, bT]
    rcases below_cases p4 (b := 10) (c := 9) 10 rfl (by decide) (by omega) with ⟨a1, a2⟩ | ⟨t, ht, rfl, a1, a2⟩
    · rw [a1, a2]
      exact ⟨_, S, T, rfl, rfl, h0⟩
    rw [a1, a2, bT, bT]
    have htail : ∀ g : Int32, (g = -1 ∨ ∃ v, v < 8 ∧ g = nI v) → ∃ (r : Int32) (S2 T2 : St), f_X7_call_J72 (nI d) (nI p) (nI t) g p6 p7 S = some (r, S2) ∧ ((f_X8_in p6 0 99).bind (fun r_62 => (if r_62 = 0 then some (((-2), T)) else (f_X8_in p7 0 9).bind (fun r_66 => (if r_66 = 0 then some (((-2), T)) else (if (gI T 13) ≤ 0 then f_X8_call_J99 (nI d) (nI p) (nI t) g p6 p7 T else gd ((gI T 13) - 1) 150 ((if (gM T 15 ((gI T 13) - 1).toNatClampNeg) ≤ nI d then f_X8_call_J99 (nI d) (nI p) (nI t) g p6 p7 T else some (((-2), T)))))))))) = some (r, T2) ∧ Rel S2 T2 := by
      intro g hg
      unfold f_X7_call_J72
      rcases below_cases p6 (b := 100) (c := 99) 100 rfl (by decide) (by omega) with ⟨a1, a2⟩ | ⟨c, hc, rfl, a1, a2⟩
      · rw [a1, a2]
        exact ⟨_, S, T, rfl, rfl, h0⟩
      rw [a1, a2, bT, bT]
      rcases below_cases p7 (b := 10) (c := 9) 10 rfl (by decide) (by omega) with ⟨a1, a2⟩ | ⟨a, ha, rfl, a1, a2⟩
      · rw [a1, a2]
        exact ⟨_, S, T, rfl, rfl, h0⟩
      rw [a1, a2, bT, bT, (x2 _ _).2, if_pos q, hC.2.2.1]
      simp (disch := omega) only [NL0, NL1, NL2, NL3, NL4, NL5, NL6, NL7, NL8, NL9]
      by_cases hn : nc < 150
      · rw [if_pos hn]
        exact newcall hT hF hE hP hN hA hC hn hd' hp ht hg hc ha
      · rw [if_neg hn]
        refine ⟨-3, S, T, rfl, ?_, h0⟩
        unfold f_X8_call_J99
        rw [hC.2.2.2.1, if_pos]
        simp (disch := omega) only [NL0, NL1, NL2, NL3, NL4, NL5, NL6, NL7, NL8, NL9]
        omega
    rcases in_cases p5 (c := 7) 8 (by decide) (by omega) with ⟨i1, i2⟩ | ⟨i1, i2⟩
    · rw [i1, Option.bind_some, if_pos rfl]
      have i3 : ¬ p5 = -1 := by
        rintro rfl
        rcases i2 with i2 | ⟨n, n1, n2, n3⟩
        · exact absurd i2 (by decide)
        · exact absurd n3.symm (by simp (disch := omega) only [q_m1, not_false_eq_true])
      rw [if_neg i3]
      rcases below_cases p5 (b := 8) (c := 7) 8 rfl (by decide) (by omega) with ⟨b1, _⟩ | ⟨v, hv, rfl, _, _⟩
      · rw [b1]
        exact ⟨_, S, T, rfl, rfl, h0⟩
      · exfalso
        rcases i2 with i2 | ⟨n, n1, n2, n3⟩
        · simp (disch := omega) only [q_m1t] at i2
        · have := nI_inj (by omega) n2 n3
          omega
    · rw [i1, bT]
      rcases i2 with rfl | ⟨v, hv, rfl⟩
      · rw [if_pos rfl]
        exact htail (-1) (Or.inl rfl)
      · have hm : ¬ nI v = -1 := by simp (disch := omega) only [q_m1, not_false_eq_true]
        rw [if_neg hm]
        rcases below_cases (nI v) (b := 8) (c := 7) 8 rfl (by decide) (by omega) with ⟨b1, b2⟩ | ⟨v', _, _, b1, _⟩
        · exfalso
          unfold f_X7_isBelow at b1
          rw [if_neg (nI_pos (by omega))] at b1
          simp (disch := omega) only [NL0, NL1, NL2, NL3, NL4, NL5, NL6, NL7, NL8, NL9] at b1
          rw [if_neg (by omega)] at b1
          exact absurd b1 (by decide)
        · rw [b1, bT]
          exact htail (nI v) (Or.inr ⟨v, hv, rfl⟩)
  · rw [if_neg q]
    refine ⟨-2, S, T, rfl, ?_, h0⟩
    rcases below_cases p3 (b := 6) (c := 5) 6 rfl (by decide) (by omega) with ⟨a1, a2⟩ | ⟨p, hp, rfl, a1, a2⟩
    · rw [a2]; rfl
    rw [a2, bT]
    rcases below_cases p4 (b := 10) (c := 9) 10 rfl (by decide) (by omega) with ⟨a1, a2⟩ | ⟨t, ht, rfl, a1, a2⟩
    · rw [a2]; rfl
    rw [a2, bT]
    rcases in_cases p5 (c := 7) 8 (by decide) (by omega) with ⟨i1, i2⟩ | ⟨i1, i2⟩
    · rw [i1]; rfl
    rw [i1, bT]
    rcases below_cases p6 (b := 100) (c := 99) 100 rfl (by decide) (by omega) with ⟨a1, a2⟩ | ⟨c, hc, rfl, a1, a2⟩
    · rw [a2]; rfl
    rw [a2, bT]
    rcases below_cases p7 (b := 10) (c := 9) 10 rfl (by decide) (by omega) with ⟨a1, a2⟩ | ⟨a, ha, rfl, a1, a2⟩
    · rw [a2]; rfl
    rw [a2, bT, (x2 _ _).2, if_neg q]
