/-! ===== pure part: calls and claims ===== -/
theorem get_S {nc nl : Nat} {S T : St} (hC : RC nc nl S T) {i : Nat} (hi : i < nc) : f_X1_get S (nI i) = some i := by
  have h150 := hC.1
  simp (disch := omega) only [f_X1_get, gd_nI, hC.2.1, nI_clamp, bnd]
theorem op_asked {S T : St} (h : Rel S T) (p1 : Int32) : ∃ (r : Int32) (S2 T2 : St), (f_X7_asked S p1 = some r ∧ S2 = S) ∧ (f_X8_asked T p1 = some r ∧ T2 = T) ∧ Rel S2 T2 := by
  have h0 := h
  obtain ⟨hT, hF, ne, nl, nc, hE, hP, hN, hA, hC⟩ := h
  have h150 := hC.1
  suffices H : ∃ r, f_X7_asked S p1 = some r ∧ f_X8_asked T p1 = some r by
    obtain ⟨r, e1, e2⟩ := H
    exact ⟨r, S, T, ⟨e1, rfl⟩, ⟨e2, rfl⟩, h0⟩
  unfold f_X7_asked f_X8_asked
  rcases call_cases hC p1 with ⟨a1, a2⟩ | ⟨i, hi, rfl, a1, a2⟩
  · rw [a1, a2]
    exact ⟨_, rfl, rfl⟩
  rw [a1, a2, bT, bT, get_S hC hi, Option.bind_some, hC.2.1, gn_p hi]
  simp (disch := omega) only [gd_nI, nI_clamp]
  obtain ⟨_, _, _, _, _, _, _, _, _, _, _, h12⟩ := hC.2.2.2.2.1 i hi
  rcases h12 with ⟨a, b, l, c, d, e⟩ | ⟨a, b, c⟩ | ⟨a, b, c⟩
  · rw [a, if_pos rfl, d, e]
    exact ⟨_, rfl, rfl⟩
  · rw [a, if_neg (by decide), c]
    exact ⟨_, rfl, rfl⟩
  · rw [a, if_neg (by decide), b]
    exact ⟨_, rfl, rfl⟩
theorem op_barred {S T : St} (h : Rel S T) (p1 p2 : Int32) : ∃ (r : Int32) (S2 T2 : St), (f_X7_barred S p1 p2 = some r ∧ S2 = S) ∧ (f_X8_barred T p1 p2 = some r ∧ T2 = T) ∧ Rel S2 T2 := by
  have h0 := h
  obtain ⟨hT, hF, ne, nl, nc, hE, hP, hN, hA, hC⟩ := h
  have h150 := hC.1
  suffices H : ∃ r, f_X7_barred S p1 p2 = some r ∧ f_X8_barred T p1 p2 = some r by
    obtain ⟨r, e1, e2⟩ := H
    exact ⟨r, S, T, ⟨e1, rfl⟩, ⟨e2, rfl⟩, h0⟩
  unfold f_X7_barred f_X8_barred
  rcases call_cases hC p1 with ⟨a1, a2⟩ | ⟨i, hi, rfl, a1, a2⟩
  · rw [a1, a2]
    exact ⟨_, rfl, rfl⟩
  rw [a1, a2, bT, bT]
  rcases has_cases hP p2 with ⟨a1, a2⟩ | ⟨l, hl, rfl, a1, a2⟩
  · rw [a1, a2]
    exact ⟨_, rfl, rfl⟩
  have hCs := hC.s hP.1
  obtain ⟨d, d1, d2, d3⟩ := (hC.2.2.2.2.1 i hi).1
  obtain ⟨k, k1, k2, k3⟩ := textNow_S hE (gC S i 0)
  have e15 : gC S i 0 = gM T 15 i := d2.trans d3.symm
  rw [e15] at k1 k3
  rw [a1, a2, bT, bT, get_S hC hi, Option.bind_some, hC.2.1, gn_p hi, e15, k1, Option.bind_some, gk_p k2]
  simp (disch := omega) only [k3, reasons_S hE hP hA hCs hi hl, bars_T hE hP hCs hi hl, NL0, NL1, NL2, NL3, NL4, NL5, NL6, NL7, NL8, NL9]
  exact ⟨_, rfl, rfl⟩
theorem op_told {S T : St} (h : Rel S T) (p1 p2 : Int32) : ∃ (r : Int32) (S2 T2 : St), (f_X7_told S p1 p2 = some r ∧ S2 = S) ∧ (f_X8_told T p1 p2 = some r ∧ T2 = T) ∧ Rel S2 T2 := by
  have h0 := h
  obtain ⟨hT, hF, ne, nl, nc, hE, hP, hN, hA, hC⟩ := h
  have h150 := hC.1
  suffices H : ∃ r, f_X7_told S p1 p2 = some r ∧ f_X8_told T p1 p2 = some r by
    obtain ⟨r, e1, e2⟩ := H
    exact ⟨r, S, T, ⟨e1, rfl⟩, ⟨e2, rfl⟩, h0⟩
  unfold f_X7_told f_X8_told
  rcases call_cases hC p1 with ⟨a1, a2⟩ | ⟨i, hi, rfl, a1, a2⟩
  · rw [a1, a2]
    exact ⟨_, rfl, rfl⟩
  rw [a1, a2, bT, bT]
  have hw : f_X7_isBelow p2 6 = some 0 ∧ (¬ p2 = 0 ∧ ¬ p2 = 1 ∧ ¬ p2 = 2 ∧ ¬ p2 = 3 ∧ ¬ p2 = 4 ∧ ¬ p2 = 5) ∨ f_X7_isBelow p2 6 = some 1 ∧ (p2 = 0 ∨ p2 = 1 ∨ p2 = 2 ∨ p2 = 3 ∨ p2 = 4 ∨ p2 = 5) := by
    rcases below_cases p2 (b := 6) (c := 5) 6 rfl (by decide) (by omega) with ⟨b1, b2⟩ | ⟨w, hw, rfl, b1, b2⟩
    · left
      refine ⟨b1, ?_⟩
      refine ⟨?_, ?_, ?_, ?_, ?_, ?_⟩ <;> (rintro rfl; revert b1; decide)
    · right
      refine ⟨b1, ?_⟩
      have : w = 0 ∨ w = 1 ∨ w = 2 ∨ w = 3 ∨ w = 4 ∨ w = 5 := by omega
      rcases this with rfl | rfl | rfl | rfl | rfl | rfl <;> simp [nI] <;> decide
  rw [gd_nI (by omega) (by omega), nI_clamp (by omega)]
  obtain ⟨⟨d, d1, d2, d3⟩, _, _, _, _, _, h7, _, h9, h10, _, h12⟩ := hC.2.2.2.2.1 i hi
  rcases hw with ⟨b1, w0, w1, w2, w3, w4, w5⟩ | ⟨b1, hw⟩
  · refine ⟨-9, by rw [b1]; rfl, ?_⟩
    have : ∀ z, f_X8_told_J26 T (nI i) p2 z = some (-9) := by
      intro z
      simp only [f_X8_told_J26, if_neg w0, if_neg w1, if_neg w2, if_neg w3, if_neg w4, if_neg w5]
    rw [this, this]
    split <;> rfl
  · rw [b1, bT, get_S hC hi, Option.bind_some, hC.2.1, gn_p hi, h7, h9, h10]
    by_cases st : gM T 21 i = 1
    · rw [if_pos st, if_pos st]
      rcases h12 with ⟨a, _⟩ | ⟨a, _⟩ | ⟨a, b, c, m, q12, q13, q27⟩
      · rw [a] at st
        exact absurd st (by decide)
      · rw [a] at st
        exact absurd st (by decide)
      · obtain ⟨k, k1, k2, k3⟩ := textNow_S hE (gC S i 0)
        have e15 : gC S i 0 = gM T 15 i := d2.trans d3.symm
        rw [e15] at k1 k3
        have k30 := k3 0 (by omega)
        simp (disch := omega) only [f_X8_told_J26, gd_nI, nI_clamp, now_T hE.1 (gM T 15 i) (x := 0) (r := 0) (by omega) rfl, Option.bind_some, f_X0_isLate, e15, k1, gk_p k2, hC.2.1, gn_p, k30, q12, q13, NL0, NL1, NL2, NL3, NL4, NL5, NL6, NL7, NL8, NL9]
        rcases hw with rfl | rfl | rfl | rfl | rfl | rfl
        · exact ⟨_, rfl, rfl⟩
        · exact ⟨_, rfl, rfl⟩
        · exact ⟨_, rfl, rfl⟩
        · exact ⟨_, rfl, rfl⟩
        · simp only [show ¬ (4 : Int32) = 0 by decide, show ¬ (4 : Int32) = 1 by decide, show ¬ (4 : Int32) = 2 by decide, show ¬ (4 : Int32) = 3 by decide, show ¬ (1 : Int32) = 0 by decide, if_false, if_true]
          by_cases z : gM T 25 i ≤ nw T (gM T 15 i) ne 0
          · rw [if_pos z]
            exact ⟨_, rfl, rfl⟩
          · rw [if_neg z]
            exact ⟨_, rfl, rfl⟩
        · rcases q27 with z | z
          · rw [z]
            exact ⟨0, rfl, rfl⟩
          · rw [z]
            exact ⟨1, rfl, rfl⟩
    · rw [if_neg st, if_neg st]
      have ht : gM T 24 i = -1 := by
        rcases h12 with ⟨_, b, _⟩ | ⟨_, b, _⟩ | ⟨a, _⟩
        · exact b
        · exact b
        · exact absurd a st
      simp (disch := omega) only [f_X8_told_J26, gd_nI, nI_clamp, ht]
      rcases hw with rfl | rfl | rfl | rfl | rfl | rfl <;> exact ⟨_, rfl, rfl⟩
/-! claims -/
def ln0 (T : St) (n i : Nat) : Int32 := if gM T 27 i = 0 then 0 else nw T (gM T 15 i) n 4
def ln1 (T : St) (n i : Nat) : Int32 := nw T (gM T 15 i) n 5
def ln2 (T : St) (n i : Nat) : Int32 := nw T (gM T 15 i) n 6 * 2 * gM T 26 i
def ln3 (T : St) (n i : Nat) : Int32 := if gM T 25 i ≤ nw T (gM T 15 i) n 0 then 0 else -nw T (gM T 15 i) n 7
def lnS (T : St) (n i : Nat) : Int32 := ln0 T n i + ln1 T n i + ln2 T n i + ln3 T n i
def ln4 (T : St) (n i : Nat) : Int32 := if lnS T n i ≤ nw T (gM T 15 i) n 8 then 0 else nw T (gM T 15 i) n 8 - lnS T n i
theorem line_T {ne n i : Nat} {T : St} (hG : RG ne T) (hn : n ≤ ne) (hi : i < 150) (d : Nat) : f_X8_lineOf (d + 1) T (nI i) (nI n) 0 = some (ln0 T n i) ∧ f_X8_lineOf (d + 1) T (nI i) (nI n) 1 = some (ln1 T n i) ∧ f_X8_lineOf (d + 1) T (nI i) (nI n) 2 = some (ln2 T n i) ∧ f_X8_lineOf (d + 1) T (nI i) (nI n) 3 = some (ln3 T n i) := by
  have h20 := hG.1
  have hr : ∀ {x : Int32} {r : Nat}, r < 11 → x = nI r → f_X8_ruleOf T (frc (gM T 3) (gM T 15 i) n) x = some (nw T (gM T 15 i) n r) := fun h1 h2 => ruleOf_T T (frc_20 _ _ (by omega)) h1 h2
  have hr4 := hr (x := 4) (r := 4) (by omega) rfl
  have hr5 := hr (x := 5) (r := 5) (by omega) rfl
  have hr6 := hr (x := 6) (r := 6) (by omega) rfl
  have hr0 := hr (x := 0) (r := 0) (by omega) rfl
  have hr7 := hr (x := 7) (r := 7) (by omega) rfl
  refine ⟨?_, ?_, ?_, ?_⟩
  · simp (disch := omega) only [f_X8_lineOf, bnd, gd_nI, nI_clamp, force_T, Option.bind_some, hr4, if_true, ln0]
    split <;> rfl
  · simp (disch := omega) only [f_X8_lineOf, bnd, gd_nI, nI_clamp, force_T, Option.bind_some, hr5, if_true, ln1, show ¬ (1 : Int32) = 0 by decide, if_false]
  · simp (disch := omega) only [f_X8_lineOf, bnd, gd_nI, nI_clamp, force_T, Option.bind_some, hr6, if_true, ln2, show ¬ (2 : Int32) = 0 by decide, show ¬ (2 : Int32) = 1 by decide, if_false]
  · simp (disch := omega) only [f_X8_lineOf, bnd, gd_nI, nI_clamp, force_T, Option.bind_some, hr0, hr7, if_true, ln3, show ¬ (3 : Int32) = 0 by decide, show ¬ (3 : Int32) = 1 by decide, show ¬ (3 : Int32) = 2 by decide, if_false]
    split <;> rfl
theorem line4_T {ne n i : Nat} {T : St} (hG : RG ne T) (hn : n ≤ ne) (hi : i < 150) : f_X8_lineOf 2 T (nI i) (nI n) 4 = some (ln4 T n i) := by
  have h20 := hG.1
  have hr8 : f_X8_ruleOf T (frc (gM T 3) (gM T 15 i) n) 8 = some (nw T (gM T 15 i) n 8) := ruleOf_T T (frc_20 _ _ (by omega)) (r := 8) (by omega) rfl
  obtain ⟨l0, l1, l2, l3⟩ := line_T hG hn hi 0
  rw [f_X8_lineOf]
  simp (disch := omega) only [bnd, gd_nI, nI_clamp, force_T, Option.bind_some, hr8, ln4, lnS, show ¬ (4 : Int32) = 0 by decide, show ¬ (4 : Int32) = 1 by decide, show ¬ (4 : Int32) = 2 by decide, show ¬ (4 : Int32) = 3 by decide, if_false, l0, l1, l2, l3]
  exact its _ _
theorem add4 (x y : Int32) : x + (y - x) = y := by
  apply Int32.toBitVec_inj.mp
  show x.toBitVec + (y.toBitVec - x.toBitVec) = y.toBitVec
  rw [BitVec.add_comm, BitVec.sub_add_cancel]
theorem z_add (x : Int32) : 0 + x = x := Int32.zero_add x
theorem add_z (x : Int32) : x + 0 = x := Int32.add_zero x
def clm (T : St) (n i : Nat) : Int32 := if 0 ≤ (if lnS T n i ≤ nw T (gM T 15 i) n 8 then lnS T n i else nw T (gM T 15 i) n 8) then (if lnS T n i ≤ nw T (gM T 15 i) n 8 then lnS T n i else nw T (gM T 15 i) n 8) else 0
theorem claim_T {ne n i : Nat} {T : St} (hG : RG ne T) (hn : n ≤ ne) (hi : i < 150) : f_X8_claimOf T (nI i) (nI n) = some (clm T n i) := by
  obtain ⟨l0, l1, l2, l3⟩ := line_T hG hn hi 1
  have l4 := line4_T hG hn hi
  have hl : ∀ k, k < 5 → f_X8_lineOf 2 T (nI i) (nI n) (nI k) = some (if k = 0 then ln0 T n i else if k = 1 then ln1 T n i else if k = 2 then ln2 T n i else if k = 3 then ln3 T n i else ln4 T n i) := by
    intro k hk
    have : k = 0 ∨ k = 1 ∨ k = 2 ∨ k = 3 ∨ k = 4 := by omega
    rcases this with rfl | rfl | rfl | rfl | rfl
    · exact l0
    · exact l1
    · exact l2
    · exact l3
    · exact l4
  unfold f_X8_claimOf
  refine loop_eq (fun k => ((if k = 0 then 0 else if k = 1 then ln0 T n i else if k = 2 then ln0 T n i + ln1 T n i else if k = 3 then ln0 T n i + ln1 T n i + ln2 T n i else if k = 4 then lnS T n i else lnS T n i + ln4 T n i), nI k)) 5 rfl (by omega) ?_ ?_
  · intro k hk
    simp (disch := omega) only [f_X8_claimOf_L5, NL0, NL1, NL2, NL3, NL4, NL5, NL6, NL7, NL8, NL9, q_m1, q_m1', q_m1t, q_m1t', q_m1l, q_m1l', nI_clamp, nI_leI, nI_ltI, nI_eq, nI_add, nI_z, pk_mul, pk_sub, gd_nI, bnd, hl k hk, Option.bind_some]
    rw [if_neg (by omega)]
    have : k = 0 ∨ k = 1 ∨ k = 2 ∨ k = 3 ∨ k = 4 := by omega
    rcases this with rfl | rfl | rfl | rfl | rfl
    · simp [z_add]
    · simp
    · simp
    · simp [lnS]
    · simp
  · simp (disch := omega) only [f_X8_claimOf_L5, NL0, NL1, NL2, NL3, NL4, NL5, NL6, NL7, NL8, NL9, q_m1, q_m1', q_m1t, q_m1t', q_m1l, q_m1l', nI_clamp, nI_leI, nI_ltI, nI_eq, nI_add, nI_z, pk_mul, pk_sub, gd_nI]
    rw [if_pos (Nat.le_refl _)]
    have e : lnS T n i + ln4 T n i = if lnS T n i ≤ nw T (gM T 15 i) n 8 then lnS T n i else nw T (gM T 15 i) n 8 := by
      unfold ln4
      split
      · exact add_z _
      · exact add4 _ _
    simp only [show ¬ (5 : Nat) = 0 by omega, show ¬ (5 : Nat) = 1 by omega, show ¬ (5 : Nat) = 2 by omega, show ¬ (5 : Nat) = 3 by omega, show ¬ (5 : Nat) = 4 by omega, if_false, e]
    unfold clm
    exact its_r _ _
/-- a taken call's lines in the class -/
theorem lines_S {nc nl n k i : Nat} {S T : St} (hC : RC nc nl S T) (hi : i < nc) (hst : gM T 21 i = 1) (hk : 25 ≤ k ∧ k ≤ 45) (ht : ∀ r, r < 11 → gT S k r = nw T (gM T 15 i) n r) :
    (f_X0_lineBeforeCap S i k 0 = some (ln0 T n i) ∧ f_X0_lineBeforeCap S i k 1 = some (ln1 T n i) ∧ f_X0_lineBeforeCap S i k 2 = some (ln2 T n i) ∧ f_X0_lineBeforeCap S i k 3 = some (ln3 T n i)) ∧ f_X0_sumBeforeCap S i k = some (lnS T n i) := by
  obtain ⟨_, _, _, _, _, _, h7, _, h9, h10, _, h12⟩ := hC.2.2.2.2.1 i hi
  rcases h12 with ⟨a, _⟩ | ⟨a, _⟩ | ⟨a, b, c, ⟨m, m1, m2, m3⟩, q12, q13, q27⟩
  · rw [a] at hst
    exact absurd hst (by decide)
  · rw [a] at hst
    exact absurd hst (by decide)
  · have t0 := ht 0 (by omega)
    have t4 := ht 4 (by omega)
    have t5 := ht 5 (by omega)
    have t6 := ht 6 (by omega)
    have t7 := ht 7 (by omega)
    have l0 : f_X0_lineBeforeCap S i k 0 = some (ln0 T n i) := by
      simp (disch := omega) only [f_X0_lineBeforeCap, hC.2.1, gn_p, gk_p hk, if_true, q13, t4, ln0, NL0, NL1, NL2, NL3, NL4, NL5, NL6, NL7, NL8, NL9]
      split <;> rfl
    have l1 : f_X0_lineBeforeCap S i k 1 = some (ln1 T n i) := by
      simp (disch := omega) only [f_X0_lineBeforeCap, hC.2.1, gn_p, gk_p hk, if_true, t5, ln1, show ¬ (1 : Int32) = 0 by decide, if_false, NL0, NL1, NL2, NL3, NL4, NL5, NL6, NL7, NL8, NL9]
    have l2 : f_X0_lineBeforeCap S i k 2 = some (ln2 T n i) := by
      simp (disch := omega) only [f_X0_lineBeforeCap, hC.2.1, gn_p, gk_p hk, if_true, t6, ln2, show ¬ (2 : Int32) = 0 by decide, show ¬ (2 : Int32) = 1 by decide, if_false, m2, m3, NL0, NL1, NL2, NL3, NL4, NL5, NL6, NL7, NL8, NL9]
      rw [Int32.mul_assoc, Int32.mul_assoc, Int32.mul_comm (nI m) 2]
    have l3 : f_X0_lineBeforeCap S i k 3 = some (ln3 T n i) := by
      simp (disch := omega) only [f_X0_lineBeforeCap, f_X0_isLate, hC.2.1, gn_p, gk_p hk, if_true, t0, t7, ln3, show ¬ (3 : Int32) = 0 by decide, show ¬ (3 : Int32) = 1 by decide, show ¬ (3 : Int32) = 2 by decide, if_false, q12, NL0, NL1, NL2, NL3, NL4, NL5, NL6, NL7, NL8, NL9]
      split <;> rfl
    refine ⟨⟨l0, l1, l2, l3⟩, ?_⟩
    have hl : ∀ w, w < 4 → f_X0_lineBeforeCap S i k (nI w) = some (if w = 0 then ln0 T n i else if w = 1 then ln1 T n i else if w = 2 then ln2 T n i else ln3 T n i) := by
      intro w hw
      have : w = 0 ∨ w = 1 ∨ w = 2 ∨ w = 3 := by omega
      rcases this with rfl | rfl | rfl | rfl
      · exact l0
      · exact l1
      · exact l2
      · exact l3
    simp only [f_X0_sumBeforeCap, hC.2.1, gn_p hi, gk_p hk]
    refine loop_eq (fun w => ((if w = 0 then 0 else if w = 1 then ln0 T n i else if w = 2 then ln0 T n i + ln1 T n i else if w = 3 then ln0 T n i + ln1 T n i + ln2 T n i else lnS T n i), nI w)) 4 rfl (by omega) ?_ ?_
    · intro w hw
      simp (disch := omega) only [f_X0_sumBeforeCap_L4, NL0, NL1, NL2, NL3, NL4, NL5, NL6, NL7, NL8, NL9, q_m1, q_m1', q_m1t, q_m1t', q_m1l, q_m1l', nI_clamp, nI_leI, nI_ltI, nI_eq, nI_add, nI_z, pk_mul, pk_sub, gd_nI, bnd, hl w hw, Option.bind_some]
      rw [if_neg (by omega)]
      have : w = 0 ∨ w = 1 ∨ w = 2 ∨ w = 3 := by omega
      rcases this with rfl | rfl | rfl | rfl
      · simp [z_add]
      · simp
      · simp
      · simp [lnS]
    · simp (disch := omega) only [f_X0_sumBeforeCap_L4, NL0, NL1, NL2, NL3, NL4, NL5, NL6, NL7, NL8, NL9, q_m1, q_m1', q_m1t, q_m1t', q_m1l, q_m1l', nI_clamp, nI_leI, nI_ltI, nI_eq, nI_add, nI_z, pk_mul, pk_sub, gd_nI]
      rw [if_pos (Nat.le_refl _)]
      rfl
theorem due_S {nc nl n k i : Nat} {S T : St} (hC : RC nc nl S T) (hi : i < nc) (hst : gM T 21 i = 1) (hk : 25 ≤ k ∧ k ≤ 45) (ht : ∀ r, r < 11 → gT S k r = nw T (gM T 15 i) n r) : f_X0_sumDue S i k = some (clm T n i) := by
  have h := (lines_S hC hi hst hk ht).2
  have t8 := ht 8 (by omega)
  simp (disch := omega) only [f_X0_sumDue, hC.2.1, gn_p, gk_p hk, h, Option.bind_some, t8, NL0, NL1, NL2, NL3, NL4, NL5, NL6, NL7, NL8, NL9]
  unfold clm
  generalize lnS T n i = s
  generalize nw T (gM T 15 i) n 8 = c
  have e : (if c < s then c else s) = if s ≤ c then s else c := by
    by_cases q : c < s
    · rw [if_pos q, if_neg (fa_of_lt q).2.1]
    · rw [if_neg q, if_pos (fa_of_nlt q)]
  rw [e]
  generalize (if s ≤ c then s else c) = m
  apply congrArg some
  by_cases q : 0 < m
  · rw [if_pos q, if_pos (fa_of_lt q).1]
  · rw [if_neg q]
    by_cases q2 : 0 ≤ m
    · rw [if_pos q2]
      apply Int32.toInt_inj.mp
      rw [fa_lt] at q
      rw [fa_le] at q2
      omega
    · rw [if_neg q2]
theorem op_claim {S T : St} (h : Rel S T) (p1 p2 : Int32) : ∃ (r : Int32) (S2 T2 : St), (f_X7_claim S p1 p2 = some r ∧ S2 = S) ∧ (f_X8_claim T p1 p2 = some r ∧ T2 = T) ∧ Rel S2 T2 := by
  have h0 := h
  obtain ⟨hT, hF, ne, nl, nc, hE, hP, hN, hA, hC⟩ := h
  have h150 := hC.1
  suffices H : ∃ r, f_X7_claim S p1 p2 = some r ∧ f_X8_claim T p1 p2 = some r by
    obtain ⟨r, e1, e2⟩ := H
    exact ⟨r, S, T, ⟨e1, rfl⟩, ⟨e2, rfl⟩, h0⟩
  unfold f_X7_claim f_X8_claim
  rcases call_cases hC p1 with ⟨a1, a2⟩ | ⟨i, hi, rfl, a1, a2⟩
  · rw [a1, a2]
    exact ⟨_, rfl, rfl⟩
  rw [a1, a2, bT, bT]
  rcases know_cases hE p2 with ⟨a1, a2⟩ | ⟨n, hn, rfl, a1, a2⟩
  · rw [a1, a2]
    exact ⟨_, rfl, rfl⟩
  have h7 := (hC.2.2.2.2.1 i hi).2.2.2.2.2.2.1
  obtain ⟨d, d1, d2, d3⟩ := (hC.2.2.2.2.1 i hi).1
  obtain ⟨k, k1, k2, k3⟩ := textKnown_S hE (gC S i 0) hn
  have e15 : gC S i 0 = gM T 15 i := d2.trans d3.symm
  rw [e15] at k1 k3
  rw [a1, a2, bT, bT, get_S hC hi, Option.bind_some, hC.2.1, gn_p hi, e15, h7, gd_nI (by omega) (by omega), nI_clamp (by omega)]
  by_cases st : gM T 21 i = 1
  · rw [if_pos st, if_pos st, k1, Option.bind_some, gk_p k2, due_S hC hi st k2 k3, claim_T hE.1 hn (by omega)]
    exact ⟨_, rfl, rfl⟩
  · rw [if_neg st, if_neg st]
    exact ⟨_, rfl, rfl⟩
theorem sum_num {ne nc nl n i : Nat} {S T : St} (hE : RE ne S T) (hn : n ≤ ne) (hC : RC nc nl S T) (hi : i < nc) (hst : gM T 21 i = 1) : ∃ A B, A ≤ 13000000 ∧ B ≤ 9999 ∧ lnS T n i = nI A - nI B := by
  obtain ⟨_, _, _, _, _, _, h7, _, h9, h10, _, h12⟩ := hC.2.2.2.2.1 i hi
  rcases h12 with ⟨a, _⟩ | ⟨a, _⟩ | ⟨a, b, c, ⟨m, m1, m2, m3⟩, q12, q13, q27⟩
  · rw [a] at hst
    exact absurd hst (by decide)
  · rw [a] at hst
    exact absurd hst (by decide)
  · obtain ⟨v4, a4, b4⟩ := rl_num hE.1 (gM T 15 i) hn (r := 4) (by omega)
    obtain ⟨v5, a5, b5⟩ := rl_num hE.1 (gM T 15 i) hn (r := 5) (by omega)
    obtain ⟨v6, a6, b6⟩ := rl_num hE.1 (gM T 15 i) hn (r := 6) (by omega)
    obtain ⟨v7, a7, b7⟩ := rl_num hE.1 (gM T 15 i) hn (r := 7) (by omega)
    have x0 : ∃ w, w ≤ 9999 ∧ ln0 T n i = nI w := by
      unfold ln0
      split
      · exact ⟨0, by omega, rfl⟩
      · exact ⟨v4, a4, b4⟩
    have x2 : ln2 T n i = nI (v6 * 2 * m) := by
      unfold ln2
      rw [b6, m2, q_mul', pk_mul]
    have x3 : ∃ w, w ≤ 9999 ∧ ln3 T n i = -nI w := by
      unfold ln3
      split
      · exact ⟨0, by omega, rfl⟩
      · exact ⟨v7, a7, by rw [b7]⟩
    obtain ⟨w0, c0, e0⟩ := x0
    obtain ⟨w3, c3, e3⟩ := x3
    have hm : v6 * 2 * m ≤ 19998 * 600 := Nat.mul_le_mul (by omega) m1
    refine ⟨w0 + v5 + v6 * 2 * m, w3, by omega, c3, ?_⟩
    unfold lnS ln1
    rw [e0, b5, x2, e3, nI_add, nI_add]
    exact (Int32.sub_eq_add_neg _ _).symm
theorem line4_S {ne nc nl n k i : Nat} {S T : St} (hE : RE ne S T) (hn : n ≤ ne) (hC : RC nc nl S T) (hi : i < nc) (hst : gM T 21 i = 1) (hk : 25 ≤ k ∧ k ≤ 45) (ht : ∀ r, r < 11 → gT S k r = nw T (gM T 15 i) n r) : f_X0_lineDue S i k 4 = some (ln4 T n i) := by
  have h := (lines_S hC hi hst hk ht).2
  have t8 := ht 8 (by omega)
  simp (disch := omega) only [f_X0_lineDue, hC.2.1, gn_p, gk_p hk, h, Option.bind_some, t8, NL0, NL1, NL2, NL3, NL4, NL5, NL6, NL7, NL8, NL9]
  rw [if_pos (by decide)]
  unfold ln4
  obtain ⟨A, B, a1, b1, e⟩ := sum_num hE hn hC hi hst
  obtain ⟨C, c1, c2⟩ := rl_num hE.1 (gM T 15 i) hn (r := 8) (by omega)
  rw [e, c2]
  have hs : (nI A - nI B).toInt = (A : Int) - B := pk_sub_toInt (by omega) (by omega)
  have hd' : (nI C - (nI A - nI B)).toInt = (C : Int) - (A - B) := by
    rw [fb_subI]
    · rw [hs, nI_toInt (by omega)]
    · rw [hs, nI_toInt (by omega)]
      omega
    · rw [hs, nI_toInt (by omega)]
      omega
  have e1 : nI C - (nI A - nI B) < 0 ↔ ¬ (nI A - nI B ≤ nI C) := by
    rw [fa_lt, fa_le, hd', hs, nI_toInt (by omega), Int32.toInt_zero]
    omega
  by_cases q : nI A - nI B ≤ nI C
  · rw [if_pos q, if_neg (fun z => (e1.mp z) q)]
  · rw [if_neg q, if_pos (e1.mpr q)]
theorem op_line {S T : St} (h : Rel S T) (p1 p2 p3 : Int32) : ∃ (r : Int32) (S2 T2 : St), (f_X7_line S p1 p2 p3 = some r ∧ S2 = S) ∧ (f_X8_line T p1 p2 p3 = some r ∧ T2 = T) ∧ Rel S2 T2 := by
  have h0 := h
  obtain ⟨hT, hF, ne, nl, nc, hE, hP, hN, hA, hC⟩ := h
  have h150 := hC.1
  suffices H : ∃ r, f_X7_line S p1 p2 p3 = some r ∧ f_X8_line T p1 p2 p3 = some r by
    obtain ⟨r, e1, e2⟩ := H
    exact ⟨r, S, T, ⟨e1, rfl⟩, ⟨e2, rfl⟩, h0⟩
  unfold f_X7_line f_X8_line
  rcases call_cases hC p1 with ⟨a1, a2⟩ | ⟨i, hi, rfl, a1, a2⟩
  · rw [a1, a2]
    exact ⟨_, rfl, rfl⟩
  rw [a1, a2, bT, bT]
  rcases know_cases hE p2 with ⟨a1, a2⟩ | ⟨n, hn, rfl, a1, a2⟩
  · rw [a1, a2]
    exact ⟨_, rfl, rfl⟩
  have h7 := (hC.2.2.2.2.1 i hi).2.2.2.2.2.2.1
  obtain ⟨d, d1, d2, d3⟩ := (hC.2.2.2.2.1 i hi).1
  obtain ⟨k, k1, k2, k3⟩ := textKnown_S hE (gC S i 0) hn
  have e15 : gC S i 0 = gM T 15 i := d2.trans d3.symm
  rw [e15] at k1 k3
  rw [a1, a2, bT, bT, get_S hC hi, Option.bind_some, hC.2.1, gn_p hi, e15, h7, gd_nI (by omega) (by omega), nI_clamp (by omega)]
  by_cases st : gM T 21 i = 1
  · rw [if_pos st, if_pos st]
    rcases below_cases p3 (b := 5) (c := 4) 5 rfl (by decide) (by omega) with ⟨a1, a2⟩ | ⟨w, hw, rfl, a1, a2⟩
    · rw [a1, a2]
      exact ⟨_, rfl, rfl⟩
    rw [a1, a2, bT, bT, k1, Option.bind_some, gk_p k2]
    obtain ⟨⟨s0, s1, s2, s3⟩, _⟩ := lines_S hC hi st k2 k3
    obtain ⟨m0, m1, m2, m3⟩ := line_T hE.1 hn (i := i) (by omega) 1
    have hdue : ∀ x v, ¬ (4 : Int32) ≤ x → f_X0_lineBeforeCap S i k x = some v → f_X0_lineDue S i k x = some v := by
      intro x v hx he
      simp only [f_X0_lineDue, hC.2.1, gn_p hi, gk_p k2]
      rw [if_neg hx, he]
      rfl
    have : w = 0 ∨ w = 1 ∨ w = 2 ∨ w = 3 ∨ w = 4 := by omega
    rcases this with rfl | rfl | rfl | rfl | rfl
    · exact ⟨ln0 T n i, by rw [hdue (nI 0) _ (by decide) s0]; rfl, by rw [show f_X8_lineOf 2 T (nI i) (nI n) (nI 0) = _ from m0]; rfl⟩
    · exact ⟨ln1 T n i, by rw [hdue (nI 1) _ (by decide) s1]; rfl, by rw [show f_X8_lineOf 2 T (nI i) (nI n) (nI 1) = _ from m1]; rfl⟩
    · exact ⟨ln2 T n i, by rw [hdue (nI 2) _ (by decide) s2]; rfl, by rw [show f_X8_lineOf 2 T (nI i) (nI n) (nI 2) = _ from m2]; rfl⟩
    · exact ⟨ln3 T n i, by rw [hdue (nI 3) _ (by decide) s3]; rfl, by rw [show f_X8_lineOf 2 T (nI i) (nI n) (nI 3) = _ from m3]; rfl⟩
    · exact ⟨ln4 T n i, by rw [show f_X0_lineDue S i k (nI 4) = _ from line4_S hE hn hC hi st k2 k3]; rfl, by rw [show f_X8_lineOf 2 T (nI i) (nI n) (nI 4) = _ from line4_T hE.1 hn (by omega)]; rfl⟩
  · rw [if_neg st, if_neg st]
    exact ⟨_, rfl, rfl⟩
theorem op_paid {S T : St} (h : Rel S T) (p1 : Int32) : ∃ (r : Int32) (S2 T2 : St), (f_X7_paid S p1 = some r ∧ S2 = S) ∧ (f_X8_paid T p1 = some r ∧ T2 = T) ∧ Rel S2 T2 := by
  have h0 := h
  obtain ⟨hT, hF, ne, nl, nc, hE, hP, hN, hA, hC⟩ := h
  have h150 := hC.1
  suffices H : ∃ r, f_X7_paid S p1 = some r ∧ f_X8_paid T p1 = some r by
    obtain ⟨r, e1, e2⟩ := H
    exact ⟨r, S, T, ⟨e1, rfl⟩, ⟨e2, rfl⟩, h0⟩
  unfold f_X7_paid f_X8_paid
  rcases has_cases hP p1 with ⟨a1, a2⟩ | ⟨l, hl, rfl, a1, a2⟩
  · rw [a1, a2]
    exact ⟨_, rfl, rfl⟩
  rw [a1, a2, bT, bT]
  have key := loop2 (b1 := f_X1_settledFor_L4 S (nI l)) (b2 := f_X8_paid_L15 T (nI l)) (Q := fun r w => r = w) (fun i s t => s = t ∧ ∃ x, s = (x, nI i)) nc (0, 0) (0, 0) (by omega) ⟨rfl, 0, rfl⟩ ?_ ?_
  · obtain ⟨r, w, e1, e2, rfl⟩ := key
    unfold f_X1_settledFor
    rw [e1, e2]
    exact ⟨_, rfl, rfl⟩
  · rintro i s t hi ⟨rfl, x, rfl⟩
    obtain ⟨_, _, _, _, _, _, _, _, _, h10, h11, _⟩ := hC.2.2.2.2.1 i hi
    simp (disch := omega) only [f_X1_settledFor_L4, f_X8_paid_L15, hC.2.2.1, hC.2.2.2.1, hC.2.1, NL0, NL1, NL2, NL3, NL4, NL5, NL6, NL7, NL8, NL9, q_m1, q_m1', q_m1t, q_m1t', q_m1l, q_m1l', nI_clamp, nI_leI, nI_ltI, nI_eq, nI_add, nI_z, pk_mul, pk_sub, gd_nI, bnd, h10, h11]
    have hni : ¬ nc ≤ i := by omega
    simp only [if_neg hni]
    by_cases q : gM T 24 i = nI l
    · simp only [if_pos q]
      exact ⟨_, _, rfl, rfl, rfl, _, rfl⟩
    · simp only [if_neg q, add_z]
      exact ⟨_, _, rfl, rfl, rfl, _, rfl⟩
  · rintro s t ⟨rfl, x, rfl⟩
    simp (disch := omega) only [f_X1_settledFor_L4, f_X8_paid_L15, hC.2.2.1, hC.2.2.2.1, nI_leI]
    simp only [if_pos (Nat.le_refl nc)]
    exact ⟨_, _, rfl, rfl, rfl⟩
