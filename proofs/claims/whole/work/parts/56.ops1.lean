/-! ===== pure part: what a change leaves as it was ===== -/
def Fr (I M : List Nat) (S S' : St) : Prop := (∀ k, k ∉ I → gI S' k = gI S k) ∧ (∀ k, k ∉ M → gM S' k = gM S k) ∧ nC S' = nC S ∧ ∀ i f, gC S' i f = gC S i f
theorem Fr.rf (S : St) : Fr [] [] S S := ⟨fun _ _ => rfl, fun _ _ => rfl, rfl, fun _ _ => rfl⟩
theorem Fr.tr {I M I' M' : List Nat} {S S' S'' : St} (h : Fr I M S S') (g : Fr I' M' S' S'') : Fr (I ++ I') (M ++ M') S S'' :=
  ⟨fun k hk => (g.1 k (fun z => hk (List.mem_append.mpr (Or.inr z)))).trans (h.1 k (fun z => hk (List.mem_append.mpr (Or.inl z)))),
   fun k hk => (g.2.1 k (fun z => hk (List.mem_append.mpr (Or.inr z)))).trans (h.2.1 k (fun z => hk (List.mem_append.mpr (Or.inl z)))),
   g.2.2.1.trans h.2.2.1, fun i f => (g.2.2.2 i f).trans (h.2.2.2 i f)⟩
theorem Fr.w {I M I' M' : List Nat} {S S' : St} (h : Fr I M S S') (hI : ∀ k ∈ I, k ∈ I') (hM : ∀ k ∈ M, k ∈ M') : Fr I' M' S S' :=
  ⟨fun k hk => h.1 k (fun z => hk (hI k z)), fun k hk => h.2.1 k (fun z => hk (hM k z)), h.2.2⟩
theorem Fr.m {S : St} {k j : Nat} {v : Int32} : Fr [] [k] S (sM S k j v) := ⟨fun _ _ => rfl, fun i hi => gM_sM_n S j v (fun z => hi (by rw [z]; exact List.mem_singleton.mpr rfl)), rfl, fun _ _ => rfl⟩
theorem Fr.fn {S : St} {k : Nat} {f : Nat → Int32} : Fr [] [k] S (sF S k f) := ⟨fun _ _ => rfl, fun i hi => gM_sF_n S f (fun z => hi (by rw [z]; exact List.mem_singleton.mpr rfl)), rfl, fun _ _ => rfl⟩
theorem Fr.i {S : St} {k : Nat} {v : Int32} : Fr [k] [] S (sI S k v) := ⟨fun i hi => gI_sI_n S v (fun z => hi (by rw [z]; exact List.mem_singleton.mpr rfl)), fun _ _ => rfl, rfl, fun _ _ => rfl⟩
theorem Fr.j {S : St} {j : Nat} {v : Int64} : Fr [] [] S (sJ S j v) := ⟨fun _ _ => rfl, fun _ _ => rfl, rfl, fun _ _ => rfl⟩
theorem SameN.fr {S S' : St} (h : SameN S S') : Fr [] [17, 18, 19] S S' := ⟨fun k _ => h.gI k, fun k hk => h.2.1 k (fun z => hk (by rw [z]; decide)) (fun z => hk (by rw [z]; decide)) (fun z => hk (by rw [z]; decide)), h.nC, h.gC⟩
theorem SameD.fr {T T' : St} (h : SameD T T') : Fr [] [11] T T' := ⟨fun k _ => h.gI k, fun k hk => h.2.1 k (fun z => hk (by rw [z]; decide)), congrArg (fun x => x.2.1) h.2.2, fun i f => congrFun (congrFun (congrArg (fun x => x.2.2) h.2.2) i) f⟩
theorem RT.fr {I M I' M' : List Nat} {S S' T T' : St} (a : Fr I M S S') (b : Fr I' M' T T') (c : 0 ∉ I ∧ 7 ∉ M ∧ 0 ∉ I' ∧ 1 ∉ M') (h : RT S T) : RT S' T' := by
  unfold RT at h ⊢
  rw [a.1 0 c.1, a.2.1 7 c.2.1, b.1 0 c.2.2.1, b.2.1 1 c.2.2.2]
  exact h
theorem RF.fr {I M I' M' : List Nat} {S S' T T' : St} (a : Fr I M S S') (b : Fr I' M' T T') (c : 8 ∉ I ∧ 9 ∉ I ∧ 7 ∉ I' ∧ 8 ∉ I') (h : RF S T) : RF S' T' := by
  unfold RF at h ⊢
  rw [a.1 8 c.1, a.1 9 c.2.1, b.1 7 c.2.2.1, b.1 8 c.2.2.2]
  exact h
theorem RG.fr {I' M' : List Nat} {ne : Nat} {T T' : St} (b : Fr I' M' T T') (c : 9 ∉ I' ∧ 2 ∉ M' ∧ 3 ∉ M') (h : RG ne T) : RG ne T' := by
  unfold RG at h ⊢
  rw [b.1 9 c.1, b.2.1 2 c.2.1, b.2.1 3 c.2.2]
  exact h
theorem RE.fr {I M I' M' : List Nat} {ne : Nat} {S S' T T' : St} (a : Fr I M S S') (b : Fr I' M' T T') (c : (9 ∉ I' ∧ 2 ∉ M' ∧ 3 ∉ M') ∧ 10 ∉ I ∧ ∀ e, e < 20 → 25 + e ∉ M) (h : RE ne S T) : RE ne S' T' := by
  refine ⟨h.1.fr b c.1, by rw [a.1 10 c.2.1]; exact h.2.1, fun e he => ?_⟩
  have := h.1.1
  rw [a.2.1 (25 + e) (c.2.2 e (by omega)), b.2.1 2 c.1.2.1, b.2.1 3 c.1.2.2]
  exact h.2.2 e he
theorem RP.fr {I M I' M' : List Nat} {nl : Nat} {S S' T T' : St} (a : Fr I M S S') (b : Fr I' M' T T') (c : (11 ∉ I ∧ 10 ∉ I') ∧ (10 ∉ M ∧ 11 ∉ M ∧ 12 ∉ M ∧ 13 ∉ M ∧ 15 ∉ M ∧ 16 ∉ M) ∧ (5 ∉ M' ∧ 6 ∉ M' ∧ 7 ∉ M' ∧ 8 ∉ M' ∧ 9 ∉ M' ∧ 10 ∉ M')) (h : RP nl S T) : RP nl S' T' := by
  obtain ⟨⟨a1, b1⟩, ⟨m1, m2, m3, m4, m5, m6⟩, n1, n2, n3, n4, n5, n6⟩ := c
  unfold RP at h ⊢
  rw [a.1 11 a1, b.1 10 b1, a.2.1 10 m1, a.2.1 11 m2, a.2.1 12 m3, a.2.1 13 m4, a.2.1 15 m5, a.2.1 16 m6, b.2.1 5 n1, b.2.1 6 n2, b.2.1 7 n3, b.2.1 8 n4, b.2.1 9 n5, b.2.1 10 n6]
  exact h
theorem dt_fr {I' M' : List Nat} {T T' : St} (b : Fr I' M' T T') (c : 11 ∉ M') (p d : Nat) : dt T' p d = dt T p d := by
  unfold dt
  rw [b.2.1 11 c]
theorem c6_fr {I' M' : List Nat} {T T' : St} (b : Fr I' M' T T') (c : 11 ∉ M') (l d : Nat) : c6 T' l d = c6 T l d := by
  unfold c6 dt
  rw [b.2.1 11 c]
theorem hd_fr {I' M' : List Nat} {T T' : St} (b : Fr I' M' T T') (c : 11 ∉ M') (l d : Nat) : hd T' l d = hd T l d := by
  unfold hd
  rw [c6_fr b c]
theorem dtn_fr {I' M' : List Nat} {T T' : St} (b : Fr I' M' T T') (c : 11 ∉ M') (l D : Nat) : dtn T' l D = dtn T l D := by
  unfold dtn c6 dt
  rw [b.2.1 11 c]
theorem RD.fr {I' M' : List Nat} {nl : Nat} {T T' : St} (b : Fr I' M' T T') (c : 11 ∉ M') (h : RD nl T) : RD nl T' := by
  unfold RD dt at h ⊢
  rw [b.2.1 11 c]
  exact h
theorem RN.fr {I M I' M' : List Nat} {nl : Nat} {S S' T T' : St} (a : Fr I M S S') (b : Fr I' M' T T') (c : 17 ∉ M ∧ 18 ∉ M ∧ 19 ∉ M ∧ 11 ∉ M') (h : RN nl S T) : RN nl S' T' := by
  obtain ⟨m1, m2, m3, n1⟩ := c
  refine ⟨h.1.fr b n1, fun p d hp hd' => ?_, fun l d hl hd' => ?_, fun l hl => ?_⟩
  · rw [a.2.1 17 m1, dt_fr b n1]
    exact h.2.1 p d hp hd'
  · rw [a.2.1 18 m2, hd_fr b n1]
    exact h.2.2.1 l d hl hd'
  · rw [a.2.1 19 m3, dtn_fr b n1]
    exact h.2.2.2 l hl
theorem RA.fr {I M I' M' : List Nat} {S S' T T' : St} (a : Fr I M S S') (b : Fr I' M' T T') (c : 23 ∉ M ∧ 24 ∉ M ∧ 30 ∉ M' ∧ 31 ∉ M') (h : RA S T) : RA S' T' := by
  unfold RA at h ⊢
  rw [a.2.1 23 c.1, a.2.1 24 c.2.1, b.2.1 30 c.2.2.1, b.2.1 31 c.2.2.2]
  exact h
theorem RI.mono {nl nl' : Nat} {S T : St} {i : Nat} (h : nl ≤ nl') (hI : RI nl S T i) : RI nl' S T i := by
  obtain ⟨h1, h2, h3, h4, h5, h6, h7, h8, h9, h10, h11, h12⟩ := hI
  refine ⟨h1, h2, h3, h4, h5, h6, h7, h8, h9, h10, h11, ?_⟩
  rcases h12 with ⟨a, b, l, c, d⟩ | g | ⟨a, b, ⟨l, c, d⟩, e⟩
  · exact Or.inl ⟨a, b, l, by omega, d⟩
  · exact Or.inr (Or.inl g)
  · exact Or.inr (Or.inr ⟨a, b, ⟨l, by omega, d⟩, e⟩)
/-- the reference's rows that speak of calls -/
def clM : List Nat := [15, 16, 17, 18, 19, 20, 21, 22, 23, 24, 25, 26, 27, 28, 29]
theorem RI.fr {I M I' M' : List Nat} {nl : Nat} {S S' T T' : St} {i : Nat} (a : Fr I M S S') (b : Fr I' M' T T') (c : ∀ k ∈ clM, k ∉ M') (h : RI nl S T i) : RI nl S' T' i := by
  unfold RI at h ⊢
  simp only [a.2.2.2]
  rw [b.2.1 15 (c 15 (by decide)), b.2.1 16 (c 16 (by decide)), b.2.1 17 (c 17 (by decide)), b.2.1 18 (c 18 (by decide)), b.2.1 19 (c 19 (by decide)), b.2.1 20 (c 20 (by decide)), b.2.1 21 (c 21 (by decide)), b.2.1 22 (c 22 (by decide)), b.2.1 23 (c 23 (by decide)), b.2.1 24 (c 24 (by decide)), b.2.1 25 (c 25 (by decide)), b.2.1 26 (c 26 (by decide)), b.2.1 27 (c 27 (by decide)), b.2.1 28 (c 28 (by decide)), b.2.1 29 (c 29 (by decide))]
  exact h
theorem RC.fr {I M I' M' : List Nat} {nc nl : Nat} {S S' T T' : St} (a : Fr I M S S') (b : Fr I' M' T T') (c : 12 ∉ I ∧ 14 ∉ M ∧ 13 ∉ I' ∧ ∀ k ∈ clM, k ∉ M') (h : RC nc nl S T) : RC nc nl S' T' := by
  obtain ⟨h1, h2, h3, h4, h5, h6⟩ := h
  refine ⟨h1, a.2.2.1.trans h2, (a.1 12 c.1).trans h3, (b.1 13 c.2.2.1).trans h4, fun i hi => (h5 i hi).fr a b c.2.2.2, fun l hl => ?_⟩
  unfold tkn
  rw [a.2.1 14 c.2.1, b.2.1 24 (c.2.2.2 24 (by decide))]
  exact h6 l hl
/-! ===== pure part: range checks by kind ===== -/
theorem has_cases {nl : Nat} {S T : St} (hP : RP nl S T) (p : Int32) : (f_X3_has S p = some 0 ∧ f_X8_isLawyer T p = some 0) ∨ ∃ l, l < nl ∧ p = nI l ∧ f_X3_has S p = some 1 ∧ f_X8_isLawyer T p = some 1 := by
  have h24 := hP.1
  have hc : (gI T 10 - 1).toInt = (nl : Int) - 1 := by
    rw [hP.2.2.1]
    exact pk_sub_toInt (a := nl) (b := 1) (by omega) (by omega)
  unfold f_X3_has f_X8_isLawyer
  rcases below_cases p (b := gI S 11) (c := gI T 10 - 1) nl hP.2.1 hc (by omega) with ⟨h1, h2⟩ | ⟨n, hn, e, h1, h2⟩
  · left
    rw [h1, h2]
    exact ⟨rfl, rfl⟩
  · right
    refine ⟨n, hn, e, ?_, ?_⟩
    · rw [h1]; rfl
    · rw [h2]; rfl
theorem day_cases (p : Int32) : (f_X7_isBelow p 1000 = some 0 ∧ f_X8_isDay p = some 0) ∨ ∃ d, d < 1000 ∧ p = nI d ∧ f_X7_isBelow p 1000 = some 1 ∧ f_X8_isDay p = some 1 := by
  unfold f_X8_isDay
  rcases below_cases p (b := 1000) (c := 999) 1000 rfl (by decide) (by omega) with ⟨h1, h2⟩ | ⟨n, hn, e, h1, h2⟩
  · left
    rw [h1, h2]
    exact ⟨rfl, rfl⟩
  · right
    refine ⟨n, hn, e, h1, ?_⟩
    rw [h2]; rfl
theorem call_cases {nc nl : Nat} {S T : St} (hC : RC nc nl S T) (p : Int32) : (f_X1_has S p = some 0 ∧ f_X8_isCall T p = some 0) ∨ ∃ i, i < nc ∧ p = nI i ∧ f_X1_has S p = some 1 ∧ f_X8_isCall T p = some 1 := by
  have h150 := hC.1
  have hc : (gI T 13 - 1).toInt = (nc : Int) - 1 := by
    rw [hC.2.2.2.1]
    exact pk_sub_toInt (a := nc) (b := 1) (by omega) (by omega)
  unfold f_X1_has f_X8_isCall
  rcases below_cases p (b := gI S 12) (c := gI T 13 - 1) nc hC.2.2.1 hc (by omega) with ⟨h1, h2⟩ | ⟨n, hn, e, h1, h2⟩
  · left
    rw [h1, h2]
    exact ⟨rfl, rfl⟩
  · right
    refine ⟨n, hn, e, ?_, ?_⟩
    · rw [h1]; rfl
    · rw [h2]; rfl
theorem know_cases {ne : Nat} {S T : St} (hE : RE ne S T) (k : Int32) : (f_X6_canKnow S k = some 0 ∧ f_X8_in k 0 (gI T 9) = some 0) ∨ ∃ n, n ≤ ne ∧ k = nI n ∧ f_X6_canKnow S k = some 1 ∧ f_X8_in k 0 (gI T 9) = some 1 := by
  have h20 := hE.1.1
  unfold f_X6_canKnow f_X8_in
  rw [hE.2.1, hE.1.2.1]
  by_cases h : k < 0
  · left
    rw [if_pos h]
    exact ⟨rfl, rfl⟩
  · obtain ⟨n, hn, rfl⟩ := nI_of h
    rw [if_neg h]
    by_cases g : ne < n
    · left
      rw [if_pos (nI_lt g hn)]
      exact ⟨rfl, rfl⟩
    · right
      have : ¬ nI ne < nI n := by
        rw [nI_ltI (by omega) hn]
        exact g
      rw [if_neg this]
      exact ⟨n, by omega, rfl, rfl, rfl⟩
/-! ===== pure part: the smaller methods ===== -/
theorem op_end {S T : St} (h : Rel S T) (p1 : Int32) : ∃ (r : Int32) (S2 T2 : St), (f_X7_end S p1 = some (r, S2)) ∧ (f_X8_end T p1 = some (r, T2)) ∧ Rel S2 T2 := by
  obtain ⟨hT, hF, ne, nl, nc, hE, hP, hN, hA, hC⟩ := h
  obtain ⟨n, n1, n2, n3, n4, n5⟩ := id hT
  unfold f_X7_end f_X8_end
  rw [n2, n3]
  by_cases a : p1 < 0
  · rw [if_pos a]
    exact ⟨_, S, T, rfl, by rw [if_pos a], hT, hF, ne, nl, nc, hE, hP, hN, hA, hC⟩
  · rw [if_neg a, if_neg a]
    by_cases b : p1 ≤ nI n
    · rw [if_pos b, if_pos b]
      refine ⟨_, _, _, rfl, rfl, ?_, hF.fr Fr.i Fr.i (by decide), ne, nl, nc, hE.fr Fr.i Fr.i (by decide), hP.fr Fr.i Fr.i (by decide), hN.fr Fr.i Fr.i (by decide), hA.fr Fr.i Fr.i (by decide), hC.fr Fr.i Fr.i (by decide)⟩
      obtain ⟨m, hm, rfl⟩ := nI_of a
      rw [nI_leI hm (by omega)] at b
      refine ⟨m, by omega, gI_sI_s _ _ _, gI_sI_s _ _ _, n4, n5⟩
    · rw [if_neg b, if_neg b]
      exact ⟨_, S, T, rfl, rfl, hT, hF, ne, nl, nc, hE, hP, hN, hA, hC⟩
theorem op_enter {S T : St} (h : Rel S T) (p1 p2 p3 : Int32) : ∃ (r : Int32) (S2 T2 : St), (f_X7_enter S p1 p2 p3 = some (r, S2)) ∧ (f_X8_enter T p1 p2 p3 = some (r, T2)) ∧ Rel S2 T2 := by
  have h0 := h
  obtain ⟨hT, hF, ne, nl, nc, hE, hP, hN, hA, hC⟩ := h
  have h24 := hP.1
  unfold f_X7_enter f_X8_enter
  rcases below_cases p1 (b := 10) (c := 9) 10 rfl (by decide) (by omega) with ⟨a1, a2⟩ | ⟨t, ht, rfl, a1, a2⟩
  · rw [a1, a2]
    exact ⟨_, S, T, rfl, rfl, h0⟩
  rw [a1, a2, bT, bT]
  rcases below_cases p2 (b := 64) (c := 63) 64 rfl (by decide) (by omega) with ⟨a1, a2⟩ | ⟨pa, hpa, rfl, a1, a2⟩
  · rw [a1, a2]
    exact ⟨_, S, T, rfl, rfl, h0⟩
  rw [a1, a2, bT, bT]
  rcases below_cases p3 (b := 256) (c := 255) 256 rfl (by decide) (by omega) with ⟨a1, a2⟩ | ⟨tg, htg, rfl, a1, a2⟩
  · rw [a1, a2]
    exact ⟨_, S, T, rfl, rfl, h0⟩
  rw [a1, a2, bT, bT, hP.2.1, hP.2.2.1]
  simp (disch := omega) only [NL0, NL1, NL2, NL3, NL4, NL5, NL6, NL7, NL8, NL9]
  by_cases g : nl < 24
  · rw [if_pos g, if_neg (by omega)]
    simp (disch := omega) only [f_X3_add, bnd, hP.2.1, hP.2.2.1, NL0, NL1, NL2, NL3, NL4, NL5, NL6, NL7, NL8, NL9, q_m1, q_m1', q_m1t, q_m1t', q_m1l, q_m1l', nI_clamp, nI_leI, nI_ltI, nI_eq, nI_add, nI_z, pk_mul, pk_sub, gd_nI, gI_sI_s, gI_sI_n, gI_sM, gI_sF, gI_sC, gI_sJ, gM_sI, gM_sC, gM_sJ, gM_sM_s, gM_sM_n, gM_sF_s, gM_sF_n, gC_sI, gC_sM, gC_sF, gC_sJ, gC_sC_s, gC_sC_n, gC_sC_m, nC_sI, nC_sM, nC_sF, nC_sC, nC_sJ, gJ_sI, gJ_sM, gJ_sF, gJ_sC, gJ_sJ, Option.bind_some]
    refine ⟨_, _, _, rfl, rfl, ?_⟩
    have fS : Fr [11] [10, 11, 12] S (sI (sM (sM (sM S 10 nl (nI t)) 11 nl (nI pa)) 12 nl (nI tg)) 11 (nI (nl + 1))) := ((Fr.m.tr Fr.m).tr Fr.m).tr Fr.i
    have fT : Fr [10] [5, 6, 7, 8] T (sI (sM (sM (sM (sM T 5 nl (nI t)) 6 nl (nI pa)) 7 nl (nI tg)) 8 nl (-1)) 10 (nI (nl + 1))) := (((Fr.m.tr Fr.m).tr Fr.m).tr Fr.m).tr Fr.i
    refine ⟨hT.fr fS fT (by decide), hF.fr fS fT (by decide), ne, nl + 1, nc, hE.fr fS fT (by decide), ?_, ?_, hA.fr fS fT (by decide), ?_⟩
    · refine ⟨by omega, gI_sI_s _ _ _, gI_sI_s _ _ _, ?_, ?_, ?_, ?_⟩
      · intro l hl
        simp (disch := omega) only [gI_sI_s, gI_sI_n, gI_sM, gI_sF, gI_sC, gI_sJ, gM_sI, gM_sC, gM_sJ, gM_sM_s, gM_sM_n, gM_sF_s, gM_sF_n, gC_sI, gC_sM, gC_sF, gC_sJ, gC_sC_s, gC_sC_n, gC_sC_m, nC_sI, nC_sM, nC_sF, nC_sC, nC_sJ, gJ_sI, gJ_sM, gJ_sF, gJ_sC, gJ_sJ]
        by_cases q : l = nl
        · subst q
          simp only [pk_us]
          refine ⟨⟨t, ht, rfl⟩, trivial, trivial, trivial, ?_, Or.inl trivial⟩
          exact hP.2.2.2.2.1 l (Nat.le_refl _) g
        · simp (disch := omega) only [pk_un]
          exact hP.2.2.2.1 l (by omega)
      · intro l h1 h2
        simp (disch := omega) only [gI_sI_s, gI_sI_n, gI_sM, gI_sF, gI_sC, gI_sJ, gM_sI, gM_sC, gM_sJ, gM_sM_s, gM_sM_n, gM_sF_s, gM_sF_n, gC_sI, gC_sM, gC_sF, gC_sJ, gC_sC_s, gC_sC_n, gC_sC_m, nC_sI, nC_sM, nC_sF, nC_sC, nC_sJ, gJ_sI, gJ_sM, gJ_sF, gJ_sC, gJ_sJ]
        exact hP.2.2.2.2.1 l (by omega) h2
      · intro l d h1 h2
        simp (disch := omega) only [gI_sI_s, gI_sI_n, gI_sM, gI_sF, gI_sC, gI_sJ, gM_sI, gM_sC, gM_sJ, gM_sM_s, gM_sM_n, gM_sF_s, gM_sF_n, gC_sI, gC_sM, gC_sF, gC_sJ, gC_sC_s, gC_sC_n, gC_sC_m, nC_sI, nC_sM, nC_sF, nC_sC, nC_sJ, gJ_sI, gJ_sM, gJ_sF, gJ_sC, gJ_sJ]
        exact hP.2.2.2.2.2.1 l d h1 h2
      · intro k hk
        simp (disch := omega) only [gI_sI_s, gI_sI_n, gI_sM, gI_sF, gI_sC, gI_sJ, gM_sI, gM_sC, gM_sJ, gM_sM_s, gM_sM_n, gM_sF_s, gM_sF_n, gC_sI, gC_sM, gC_sF, gC_sJ, gC_sC_s, gC_sC_n, gC_sC_m, nC_sI, nC_sM, nC_sF, nC_sC, nC_sJ, gJ_sI, gJ_sM, gJ_sF, gJ_sC, gJ_sJ]
        exact hP.2.2.2.2.2.2 k hk
    · have hN' := hN.fr fS fT (by decide)
      refine ⟨⟨fun p d hp hd' => ?_, hN'.1.2⟩, hN'.2⟩
      rcases hN'.1.1 p d hp hd' with z | ⟨l, z1, z2⟩
      · exact Or.inl z
      · exact Or.inr ⟨l, by omega, z2⟩
    · have hC' := hC.fr fS fT (by decide)
      exact ⟨hC'.1, hC'.2.1, hC'.2.2.1, hC'.2.2.2.1, fun i hi => (hC'.2.2.2.2.1 i hi).mono (by omega), hC'.2.2.2.2.2⟩
  · rw [if_neg g, if_pos (by omega)]
    exact ⟨_, S, T, rfl, rfl, h0⟩
theorem op_away {S T : St} (h : Rel S T) (p1 p2 p3 : Int32) (hz : p3 = 0 ∨ p3 = 1) : ∃ (r : Int32) (S2 T2 : St), (f_X7_away S p1 p2 p3 = some (r, S2)) ∧ (f_X8_away T p1 p2 p3 = some (r, T2)) ∧ Rel S2 T2 := by
  have h0 := h
  obtain ⟨hT, hF, ne, nl, nc, hE, hP, hN, hA, hC⟩ := h
  have h24 := hP.1
  unfold f_X7_away f_X8_away
  rcases has_cases hP p1 with ⟨a1, a2⟩ | ⟨l, hl, rfl, a1, a2⟩
  · rw [a1, a2]
    exact ⟨_, S, T, rfl, rfl, h0⟩
  rw [a1, a2, bT, bT]
  rcases day_cases p2 with ⟨a1, a2⟩ | ⟨d, hd', rfl, a1, a2⟩
  · rw [a1, a2]
    exact ⟨_, S, T, rfl, rfl, h0⟩
  rw [a1, a2, bT, bT]
  obtain ⟨on, rfl⟩ : ∃ b, p3 = bI b := by
    rcases hz with rfl | rfl
    · exact ⟨false, rfl⟩
    · exact ⟨true, rfl⟩
  have ha := hP.2.2.2.2.2.1 l d (by omega) hd'
  simp (disch := omega) only [f_X3_isAway, f_X3_turnAway, NL0, NL1, NL2, NL3, NL4, NL5, NL6, NL7, NL8, NL9, q_m1, q_m1', q_m1t, q_m1t', q_m1l, q_m1l', nI_clamp, nI_leI, nI_ltI, nI_eq, nI_add, nI_z, pk_mul, pk_sub, gd_nI, bnd, hasBit_eq, Option.bind_some, bI_gz, ha, bI_inj, bI_nar]
  have fT : Fr [] [9] T (sM T 9 (1000 * l + d) (bI on)) := Fr.m
  by_cases g : bt (gM S 15 d) l = on
  · rw [if_pos g, if_pos g]
    refine ⟨_, _, _, rfl, rfl, hT.fr (Fr.rf S) fT (by decide), hF.fr (Fr.rf S) fT (by decide), ne, nl, nc, hE.fr (Fr.rf S) fT (by decide), ?_, hN.fr (Fr.rf S) fT (by decide), hA.fr (Fr.rf S) fT (by decide), hC.fr (Fr.rf S) fT (by decide)⟩
    obtain ⟨r1, r2, r3, r4, r5, r6, r7⟩ := hP
    refine ⟨r1, r2, r3, r4, r5, fun l' d' hl' hd2 => ?_, r7⟩
    rw [gM_sM_s]
    by_cases q : 1000 * l' + d' = 1000 * l + d
    · have q1 : l' = l := by omega
      have q2 : d' = d := by omega
      subst q1 q2
      rw [pk_us, g]
    · rw [pk_un q]
      exact r6 l' d' hl' hd2
  · rw [if_neg g, if_neg g]
    have fS : Fr [] [15] S (sM S 15 d (gM S 15 d ^^^ ((1 : Int32) <<< (nI l &&& 31)))) := Fr.m
    refine ⟨_, _, _, rfl, rfl, hT.fr fS fT (by decide), hF.fr fS fT (by decide), ne, nl, nc, hE.fr fS fT (by decide), ?_, hN.fr fS fT (by decide), hA.fr fS fT (by decide), hC.fr fS fT (by decide)⟩
    obtain ⟨r1, r2, r3, r4, r5, r6, r7⟩ := hP
    refine ⟨r1, r2, r3, r4, r5, fun l' d' hl' hd2 => ?_, r7⟩
    rw [gM_sM_s, gM_sM_s]
    by_cases q : d' = d
    · subst q
      rw [pk_us, bt_flip _ (by omega) (by omega)]
      by_cases q : l' = l
      · subst q
        rw [pk_us]
        cases u : bt (gM S 15 d') l' <;> cases w : on <;> simp_all [bI]
      · rw [pk_un (by omega), r6 l' d' hl' hd2]
        simp [q]
    · rw [pk_un (by omega), pk_un q]
      exact r6 l' d' hl' hd2
theorem op_travel {S T : St} (h : Rel S T) (p1 p2 p3 : Int32) : ∃ (r : Int32) (S2 T2 : St), (f_X7_travel S p1 p2 p3 = some (r, S2)) ∧ (f_X8_travel T p1 p2 p3 = some (r, T2)) ∧ Rel S2 T2 := by
  have h0 := h
  obtain ⟨hT, hF, ne, nl, nc, hE, hP, hN, hA, hC⟩ := h
  unfold f_X7_travel f_X8_travel
  rcases below_cases p1 (b := 10) (c := 9) 10 rfl (by decide) (by omega) with ⟨a1, a2⟩ | ⟨a, ha, rfl, a1, a2⟩
  · rw [a1, a2]
    exact ⟨_, S, T, rfl, rfl, h0⟩
  rw [a1, a2, bT, bT]
  rcases below_cases p2 (b := 10) (c := 9) 10 rfl (by decide) (by omega) with ⟨a1, a2⟩ | ⟨b, hb, rfl, a1, a2⟩
  · rw [a1, a2]
    exact ⟨_, S, T, rfl, rfl, h0⟩
  rw [a1, a2, bT, bT]
  by_cases g : nI a = nI b
  · rw [if_pos g, if_pos g]
    exact ⟨_, S, T, rfl, rfl, h0⟩
  rw [if_neg g, if_neg g]
  rcases in_cases p3 (c := 600) 601 (by decide) (by omega) with ⟨i1, i2⟩ | ⟨i1, i2⟩
  · rw [i1, Option.bind_some, if_pos rfl]
    rcases i2 with i2 | ⟨n, n1, n2, rfl⟩
    · rw [if_pos i2]
      exact ⟨_, S, T, rfl, rfl, h0⟩
    · have : ¬ nI n ≤ 600 := by
        simp (disch := omega) only [NL0, NL1, NL2, NL3, NL4, NL5, NL6, NL7, NL8, NL9]
        omega
      simp (disch := omega) only [q_m1t, if_false]
      rw [if_neg this]
      exact ⟨_, S, T, rfl, rfl, h0⟩
  · rw [i1, bT]
    have i3 : ¬ p3 < -1 ∧ p3 ≤ 600 ∧ (p3 = -1 ∨ ∃ m, m ≤ 600 ∧ p3 = nI m) := by
      rcases i2 with rfl | ⟨n, n1, rfl⟩
      · exact ⟨by decide, by decide, Or.inl rfl⟩
      · refine ⟨by simp (disch := omega) only [q_m1t, not_false_eq_true], ?_, Or.inr ⟨n, by omega, rfl⟩⟩
        simp (disch := omega) only [NL0, NL1, NL2, NL3, NL4, NL5, NL6, NL7, NL8, NL9]
        omega
    rw [if_neg i3.1, if_pos i3.2.1]
    have e1 : a * 10 + b = 10 * a + b := by omega
    have e2 : b * 10 + a = 10 * b + a := by omega
    simp (disch := omega) only [f_X3_minutesBetween, f_X3_setMinutes, NL0, NL1, NL2, NL3, NL4, NL5, NL6, NL7, NL8, NL9, q_m1, q_m1', q_m1t, q_m1t', q_m1l, q_m1l', nI_clamp, nI_leI, nI_ltI, nI_eq, nI_add, nI_z, pk_mul, pk_sub, gd_nI, bnd, Option.bind_some, e1, e2]
    have fS : Fr [] [16] S (sM (sM S 16 (10 * a + b) p3) 16 (10 * b + a) p3) := (Fr.m.tr Fr.m).w (by decide) (by decide)
    have fT : Fr [] [10] T (sM (sM T 10 (10 * a + b) p3) 10 (10 * b + a) p3) := (Fr.m.tr Fr.m).w (by decide) (by decide)
    rw [(hP.2.2.2.2.2.2 (10 * a + b) (by omega)).1]
    refine ⟨_, _, _, rfl, rfl, hT.fr fS fT (by decide), hF.fr fS fT (by decide), ne, nl, nc, hE.fr fS fT (by decide), ?_, hN.fr fS fT (by decide), hA.fr fS fT (by decide), hC.fr fS fT (by decide)⟩
    obtain ⟨r1, r2, r3, r4, r5, r6, r7⟩ := hP
    refine ⟨r1, r2, r3, r4, r5, r6, fun k hk => ?_⟩
    rw [gM_sM_s, gM_sM_s, gM_sM_s, gM_sM_s]
    by_cases q : k = 10 * b + a
    · subst q
      rw [pk_us, pk_us]
      exact ⟨rfl, i3.2.2⟩
    · rw [pk_un q, pk_un q]
      by_cases q2 : k = 10 * a + b
      · subst q2
        rw [pk_us, pk_us]
        exact ⟨rfl, i3.2.2⟩
      · rw [pk_un q2, pk_un q2]
        exact r7 k hk
theorem op_fault {S T : St} (h : Rel S T) (p1 : Int32) : ∃ (r : Int32) (S2 T2 : St), (f_X7_fault S p1 = some r ∧ S2 = S) ∧ (f_X8_fault T p1 = some r ∧ T2 = T) ∧ Rel S2 T2 := by
  unfold f_X7_fault f_X8_fault
  rw [h.2.1.1, h.2.1.2]
  exact ⟨_, S, T, ⟨(Option.some_get (x := if p1 = 0 then some (gI T 7) else if p1 = 1 then some (gI T 8) else some (-1)) (by split; rfl; split <;> rfl)).symm, rfl⟩, ⟨(Option.some_get _).symm, rfl⟩, h⟩
theorem op_inForce {S T : St} (h : Rel S T) (p1 p2 : Int32) : ∃ (r : Int32) (S2 T2 : St), (f_X7_inForce S p1 p2 = some r ∧ S2 = S) ∧ (f_X8_inForce T p1 p2 = some r ∧ T2 = T) ∧ Rel S2 T2 := by
  have h0 := h
  obtain ⟨hT, hF, ne, nl, nc, hE, hP, hN, hA, hC⟩ := h
  unfold f_X7_inForce f_X8_inForce
  rcases day_cases p1 with ⟨a1, a2⟩ | ⟨d, hd', rfl, a1, a2⟩
  · rw [a1, a2]
    exact ⟨_, S, T, ⟨rfl, rfl⟩, ⟨rfl, rfl⟩, h0⟩
  rw [a1, a2, bT, bT]
  rcases know_cases hE p2 with ⟨a1, a2⟩ | ⟨n, hn, rfl, a1, a2⟩
  · rw [a1, a2]
    exact ⟨_, S, T, ⟨rfl, rfl⟩, ⟨rfl, rfl⟩, h0⟩
  have h20 := hE.1.1
  have e1 := force_S (S := S) (fd := gM T 3) (nI d) hn h20 hE.2.1 (fun e he => ⟨(hE.2.2 e he).2, (hE.1.2.2 e he).1⟩)
  rw [a1, a2, bT, bT, e1, force_T T (nI d) (by omega)]
  exact ⟨_, S, T, ⟨rfl, rfl⟩, ⟨rfl, rfl⟩, h0⟩
theorem op_rule {S T : St} (h : Rel S T) (p1 p2 : Int32) : ∃ (r : Int32) (S2 T2 : St), (f_X7_rule S p1 p2 = some r ∧ S2 = S) ∧ (f_X8_rule T p1 p2 = some r ∧ T2 = T) ∧ Rel S2 T2 := by
  have h0 := h
  obtain ⟨hT, hF, ne, nl, nc, hE, hP, hN, hA, hC⟩ := h
  have h20 := hE.1.1
  suffices H : ∃ r, f_X7_rule S p1 p2 = some r ∧ f_X8_rule T p1 p2 = some r by
    obtain ⟨r, e1, e2⟩ := H
    exact ⟨r, S, T, ⟨e1, rfl⟩, ⟨e2, rfl⟩, h0⟩
  have e11 : nI 11 = (11 : Int32) := rfl
  unfold f_X7_rule f_X8_rule
  have hc : (gI T 9 - 1).toInt = (ne : Int) - 1 := by
    rw [hE.1.2.1]
    exact pk_sub_toInt (a := ne) (b := 1) (by omega) (by omega)
  rcases in_cases p1 (c := gI T 9 - 1) ne hc (by omega) with ⟨i1, i2⟩ | ⟨i1, i2⟩
  · rw [i1, Option.bind_some, if_pos rfl]
    refine ⟨-9, ?_, rfl⟩
    rcases below_cases p2 (b := 12) (c := 11) 12 rfl (by decide) (by omega) with ⟨a1, a2⟩ | ⟨w, hw, rfl, a1, a2⟩
    · rw [a1]; rfl
    · rw [a1, bT]
      rcases i2 with i2 | ⟨n, n1, n2, rfl⟩
      · rw [if_pos i2]
      · have : ¬ nI n < gI S 10 := by
          rw [hE.2.1, nI_ltI n2 (by omega)]
          omega
        rw [if_neg this]
        split <;> rfl
  · rw [i1, bT]
    rcases below_cases p2 (b := 12) (c := 11) 12 rfl (by decide) (by omega) with ⟨a1, a2⟩ | ⟨w, hw, rfl, a1, a2⟩
    · rw [a1, a2]
      exact ⟨_, rfl, rfl⟩
    rw [a1, a2, bT, bT]
    have hv : p1 = -1 ∨ ∃ e, e < 20 ∧ p1 = nI e := by
      rcases i2 with i2 | ⟨n, n1, n2⟩
      · exact Or.inl i2
      · exact Or.inr ⟨n, by omega, n2⟩
    rcases i2 with rfl | ⟨n, n1, rfl⟩
    · rw [if_neg (by decide), hE.2.1, if_pos (by simp (disch := omega) only [NL0, NL1, NL2, NL3, NL4, NL5, NL6, NL7, NL8, NL9, q_m1, q_m1', q_m1t, q_m1t', q_m1l, q_m1l', nI_clamp, nI_leI, nI_ltI, nI_eq, nI_add, nI_z, pk_mul, pk_sub, gd_nI])]
      have ht : f_X6_text S (-1) = some 45 := by
        unfold f_X6_text
        rw [if_pos (by decide)]
      rw [ht, Option.bind_some, gk_p (by omega), gd_nI hw (by omega), nI_clamp (by omega)]
      have e45 : gT S 45 w = plF w := rfl
      rw [e45]
      by_cases z : w = 11
      · subst z
        exact ⟨-1, by decide, by rw [if_pos e11, if_pos rfl]⟩
      · have : ¬ nI w = 11 := by
          simp (disch := omega) only [NL0, NL1, NL2, NL3, NL4, NL5, NL6, NL7, NL8, NL9]
          exact z
        rw [if_neg this, ruleOf_T T (Or.inl rfl) (by omega) rfl]
        exact ⟨_, rfl, rfl⟩
    · have l1 : ¬ nI n < -1 := by simp (disch := omega) only [NL0, NL1, NL2, NL3, NL4, NL5, NL6, NL7, NL8, NL9, q_m1, q_m1', q_m1t, q_m1t', q_m1l, q_m1l', nI_clamp, nI_leI, nI_ltI, nI_eq, nI_add, nI_z, pk_mul, pk_sub, gd_nI, not_false_eq_true]
      have l2 : nI n < nI ne := nI_lt n1 (by omega)
      rw [if_neg l1, hE.2.1, if_pos l2]
      have ht : f_X6_text S (nI n) = some (25 + n) := by
        simp (disch := omega) only [f_X6_text, hE.2.1, NL0, NL1, NL2, NL3, NL4, NL5, NL6, NL7, NL8, NL9, q_m1, q_m1', q_m1t, q_m1t', q_m1l, q_m1l', nI_clamp, nI_leI, nI_ltI, nI_eq, nI_add, nI_z, pk_mul, pk_sub, gd_nI, bnd]
        rw [if_neg (by omega), if_neg (by omega)]
      rw [ht, Option.bind_some, gk_p (by omega), gd_nI hw (by omega), nI_clamp (by omega)]
      have e45 : gT S (25 + n) w = gM S (25 + n) w := by
        unfold gT
        rw [if_neg (by omega)]
      rw [e45]
      by_cases z : w = 11
      · subst z
        have : ¬ nI n = -1 := by simp (disch := omega) only [NL0, NL1, NL2, NL3, NL4, NL5, NL6, NL7, NL8, NL9, q_m1, q_m1', q_m1t, q_m1t', q_m1l, q_m1l', nI_clamp, nI_leI, nI_ltI, nI_eq, nI_add, nI_z, pk_mul, pk_sub, gd_nI, not_false_eq_true]
        refine ⟨gM T 3 n, by rw [(hE.2.2 n n1).2], ?_⟩
        rw [if_pos e11, if_neg this, gd_nI (by omega) (by omega), nI_clamp (by omega)]
      · have : ¬ nI w = 11 := by
          simp (disch := omega) only [NL0, NL1, NL2, NL3, NL4, NL5, NL6, NL7, NL8, NL9]
          exact z
        rw [if_neg this, ruleOf_T T hv (by omega) rfl, (hE.2.2 n n1).1 w (by omega)]
        refine ⟨_, rfl, ?_⟩
        unfold rl
        have : ¬ nI n = -1 := by simp (disch := omega) only [NL0, NL1, NL2, NL3, NL4, NL5, NL6, NL7, NL8, NL9, q_m1, q_m1', q_m1t, q_m1t', q_m1l, q_m1l', nI_clamp, nI_leI, nI_ltI, nI_eq, nI_add, nI_z, pk_mul, pk_sub, gd_nI, not_false_eq_true]
        rw [if_neg this, nI_clamp (by omega)]
        rfl
