/-! ===== pure part: what stands behind a line's first word ===== -/
/-- the class wants what word w asks for -/
def wantOf (w : Nat) : Int32 := if w = 10 then 3 else if w = 9 then 2 else 1
/-- a text's number is written in both -/
theorem RX.put {u : Nat → Nat} {n r : Nat} {v : Int32} {S T : St} (h : RX u n S T) (hr : r < 11) (hv : r < 9 → ∃ m, m ≤ 9999 ∧ v = nI m ∧ (r = 2 → m ≤ 9)) : RX u n (sI (sM S 8 r v) 5 4) (sM T 2 (220 + r) v) := by
  obtain ⟨h1, h2, h3, h4, h5, h6⟩ := h
  have fS : Fr [5] [8] S (sI (sM S 8 r v) 5 4) := Fr.m.tr Fr.i
  have fT : Fr [] [2] T (sM T 2 (220 + r) v) := Fr.m
  refine ⟨h1.fr fS (by decide), h2.fr fT (by decide), fun k hk => ?_, fun k hk => ?_, fun k hk => ?_, ?_⟩
  · rw [gM_sI, gM_sM_s, gM_sM_s]
    by_cases q : k = r
    · rw [q, pk_us, pk_us]
    · rw [pk_un q, pk_un (by omega)]
      exact h3 k hk
  · rw [gM_sM_n _ _ _ (by omega), gI_sI_n _ _ (by omega), gI_sM]
    exact h4 k hk
  · rw [gM_sI, gM_sM_s]
    by_cases q : k = r
    · rw [q, pk_us]
      obtain ⟨m, m1, m2, _⟩ := hv (by omega)
      exact ⟨m, m1, m2⟩
    · rw [pk_un q]
      exact h5 k hk
  · rw [gM_sI, gM_sM_s]
    by_cases q : 2 = r
    · rw [← q, pk_us]
      obtain ⟨m, m1, m2, m3⟩ := hv (by omega)
      exact ⟨m, m3 q.symm, m2⟩
    · rw [pk_un q]
      exact h6
/-- the reference's way on from its first word -/
def argT (w : Nat) (T : St) : Option (Int32 × St) := (f_X8_scan T).bind (fun S_33 => (if 9 ≤ nI w then
    (if nI w = 9 then
    (if (gI S_33 2) = 1 then
    (f_X8_in (gI S_33 3) 11 13).bind (fun r_66 => (if r_66 = 0 then
    (f_X8_wrong S_33 1).bind (fun (r_71, S_72) => gz r_71 (some ((r_71, S_72))))
  else
    gd 229 242 (bnd (sM S_33 2 ((229 : Int32).toNatClampNeg) ((gI S_33 3) - 11)) fun S_69 => f_X8_readLine_J245 S_69)))
  else
    (f_X8_wrong S_33 1).bind (fun (r_61, S_62) => gz r_61 (some ((r_61, S_62)))))
  else
    (if (gI S_33 2) = 1 then
    (if 14 ≤ (gI S_33 3) then
    bnd ((1 : Int32) <<< (((gI S_33 3) - 14) &&& 31)) fun x_43 => gd 230 242 ((if ((gM S_33 2 (230 : Int32).toNatClampNeg) &&& x_43) = 0 then
    gd 230 242 (gd 230 242 (bnd (sM S_33 2 ((230 : Int32).toNatClampNeg) ((gM S_33 2 (230 : Int32).toNatClampNeg) ||| x_43)) fun S_48 => f_X8_readLine_J245 S_48))
  else
    (f_X8_wrong S_33 3).bind (fun (r_50, S_51) => gz r_50 (some ((r_50, S_51))))))
  else
    (f_X8_wrong S_33 1).bind (fun (r_55, S_56) => gz r_55 (some ((r_55, S_56)))))
  else
    (f_X8_wrong S_33 1).bind (fun (r_38, S_39) => gz r_38 (some ((r_38, S_39))))))
  else
    (if (gI S_33 2) = 2 then
    (if nI w = 2 then
    (if 9 < (gI S_33 6) then
    (f_X8_wrong S_33 2).bind (fun (r_79, S_80) => gz r_79 (some ((r_79, S_80))))
  else
    f_X8_readLine_J88 (nI w) S_33)
  else
    f_X8_readLine_J88 (nI w) S_33)
  else
    (f_X8_wrong S_33 1).bind (fun (r_84, S_85) => gz r_84 (some ((r_84, S_85)))))))
/-- the token behind the first word: a fault, or what is told stands in both -/
theorem arg_tok {u : Nat → Nat} {n q w : Nat} {S T : St} (h : RX u n S T) (hw : w < 11) (hq : q ≤ n) (h1 : gI S 1 = nI q) (h5 : gI T 5 = nI q) (w5 : gI S 5 = wantOf w) (w6 : gI S 6 = nI w) (h8 : gI S 8 = 0) (h9 : gI S 9 = -1) (t7 : gI T 7 = 0) (t8 : gI T 8 = -1) :
    ∃ S1, f_X5_nextToken S = some S1 ∧
    ((∃ S' T', f_X5_takeToken S1 = some S' ∧ argT w T = some (0, T') ∧ FA S' T' ∧ FS S S' ∧ FT T T') ∨
    (∃ e S' T', q < e ∧ e ≤ n ∧ f_X5_takeToken S1 = some S' ∧ argT w T = f_X8_readLine_J245 T' ∧ RX u n S' T' ∧ FS S S' ∧ FT T T' ∧ gI S' 1 = nI e ∧ gI T' 5 = nI e ∧ gI S' 5 = 4 ∧ gI S' 8 = 0 ∧ gI S' 9 = -1 ∧ ¬ gI S' 2 = 4 ∧ gI T' 7 = 0 ∧ gI T' 8 = -1)) := by
  have hn := h.1.1
  obtain ⟨a, e, S1, T1, a1, a2, a3, s1, t1, s2, t2, hk, hR⟩ := both_tok h hq h1 h5
  have hs := kd_same u n a e
  have w1 : gI S1 5 = wantOf w := (s2.1 5 (by decide)).trans w5
  have w61 : gI S1 6 = nI w := (s2.1 6 (by decide)).trans w6
  have i2 := hk.2.2.2.1
  have j2 := hk.2.2.2.2.2.2.2.1
  have j3 := hk.2.2.2.2.2.2.2.2.2.1
  refine ⟨S1, s1, ?_⟩
  -- a fault of kind k, here
  have flt : ∀ k : Nat, 1 ≤ k → k ≤ 3 → f_X5_takeToken S1 = some (sI (sI S1 8 (nI k)) 9 (gI S1 3)) → argT w T = some (0, sI (sI T1 7 (nI k)) 8 (gI T1 4)) → (∃ S' T', f_X5_takeToken S1 = some S' ∧ argT w T = some (0, T') ∧ FA S' T' ∧ FS S S' ∧ FT T T') := by
    intro k k1 k2 e1 e2
    exact ⟨_, _, e1, e2, fault_FA hk k1 k2, (FS.of s2 (by decide)).tr (FS.of (Fr.i.tr Fr.i) (by decide)), (FT.of t2 (by decide)).tr (FT.of (Fr.i.tr Fr.i) (by decide))⟩
  -- all is well, and r is told to be v
  have fine : ∀ (r : Nat) (v : Int32), r < 11 → (r < 9 → ∃ m, m ≤ 9999 ∧ v = nI m ∧ (r = 2 → m ≤ 9)) → a < n → f_X5_takeToken S1 = some (sI (sM S1 8 r v) 5 4) → argT w T = f_X8_readLine_J245 (sM T1 2 (220 + r) v) → (∃ e S' T', q < e ∧ e ≤ n ∧ f_X5_takeToken S1 = some S' ∧ argT w T = f_X8_readLine_J245 T' ∧ RX u n S' T' ∧ FS S S' ∧ FT T T' ∧ gI S' 1 = nI e ∧ gI T' 5 = nI e ∧ gI S' 5 = 4 ∧ gI S' 8 = 0 ∧ gI S' 9 = -1 ∧ ¬ gI S' 2 = 4 ∧ gI T' 7 = 0 ∧ gI T' 8 = -1) := by
    intro r v hr hv han e1 e2
    have := a3 han
    refine ⟨e, _, _, by omega, hk.1.2, e1, e2, hR.put hr hv, (FS.of s2 (by decide)).tr (FS.of (Fr.m.tr Fr.i) (by decide)), (FT.of t2 (by decide)).tr (FT.m (by omega)), ?_, ?_, gI_sI_s _ _ _, ?_, ?_, ?_, ?_, ?_⟩
    · rw [gI_sI_n _ _ (by omega), gI_sM, hk.2.1]
    · rw [gI_sM, hk.2.2.2.2.2.1]
    · rw [gI_sI_n _ _ (by omega), gI_sM, s2.1 8 (by decide), h8]
    · rw [gI_sI_n _ _ (by omega), gI_sM, s2.1 9 (by decide), h9]
    · rw [gI_sI_n _ _ (by omega), gI_sM, i2]
      intro z
      have := hs.1.mp z
      omega
    · rw [gI_sM, t2.1 7 (by decide), t7]
    · rw [gI_sM, t2.1 8 (by decide), t8]
  by_cases w10 : w = 10
  · -- bar
    subst w10
    have hta : f_X5_takeToken S1 = (f_X5_takeBar S1).bind (fun x => some x) := by
      simp only [f_X5_takeToken, w1]
      rw [if_neg (by decide), if_neg (by decide), if_neg (by decide), if_pos (by decide)]
    have hT : argT 10 T = (if (gI T1 2) = 1 then (if 14 ≤ (gI T1 3) then bnd ((1 : Int32) <<< (((gI T1 3) - 14) &&& 31)) fun x_43 => gd 230 242 ((if ((gM T1 2 (230 : Int32).toNatClampNeg) &&& x_43) = 0 then gd 230 242 (gd 230 242 (bnd (sM T1 2 ((230 : Int32).toNatClampNeg) ((gM T1 2 (230 : Int32).toNatClampNeg) ||| x_43)) fun S_48 => f_X8_readLine_J245 S_48)) else (f_X8_wrong T1 3).bind (fun (r_50, S_51) => gz r_50 (some ((r_50, S_51)))))) else (f_X8_wrong T1 1).bind (fun (r_55, S_56) => gz r_55 (some ((r_55, S_56))))) else (f_X8_wrong T1 1).bind (fun (r_38, S_39) => gz r_38 (some ((r_38, S_39))))) := by
      unfold argT
      rw [t1, Option.bind_some, if_pos (by decide), if_neg (by decide)]
    have hb := bar_word hR hk
    by_cases g : wd u n a e < 17
    · have gT := hs.2.2.2.2.mpr g
      have j3' := j3 gT
      by_cases g2 : 14 ≤ wd u n a e
      · rw [if_pos ⟨g2, g⟩] at hb
        have hlt : wd u n a e - 14 < 3 := by omega
        have hm : ¬ nI (wd u n a e - 14) = -1 := by simp (disch := omega) only [q_m1, not_false_eq_true]
        have hx := hR.2.2.1 10 (by omega)
        have hcl : f_X5_takeBar S1 = if bt (gM S1 8 10) (wd u n a e - 14) = false then some (sI (sM S1 8 10 (gM S1 8 10 ||| ((1 : Int32) <<< (nI (wd u n a e - 14) &&& 31)))) 5 4) else some (sI (sI S1 8 (nI 3)) 9 (gI S1 3)) := by
          simp (disch := omega) only [f_X5_takeBar, hb, Option.bind_some, hasBit_eq, bI_0, bnd, fault_S, NL0, NL1, NL2, NL3, NL4, NL5, NL6, NL7, NL8, NL9]
          rw [if_neg hm]
          split <;> rfl
        have han : a < n := by
          rcases Nat.lt_or_ge a n with z | z
          · exact z
          · have : a = n := by omega
            rw [hs.2.1.mpr this] at gT
            exact absurd gT (by decide)
        by_cases g3 : bt (gM S1 8 10) (wd u n a e - 14) = false
        · right
          refine fine 10 (gM S1 8 10 ||| ((1 : Int32) <<< (nI (wd u n a e - 14) &&& 31))) (by omega) (fun z => by omega) han ?_ ?_
          · rw [hta, hcl, if_pos g3]
            rfl
          · rw [hT, j2, gT, if_pos rfl, j3']
            simp (disch := omega) only [NL0, NL1, NL2, NL3, NL4, NL5, NL6, NL7, NL8, NL9]
            rw [if_pos g2]
            simp (disch := omega) only [bnd, NL0, NL1, NL2, NL3, NL4, NL5, NL6, NL7, NL8, NL9]
            rw [← hx, if_pos ((bit0 _ (by omega)).mpr g3)]
        · left
          refine flt 3 (by omega) (by omega) ?_ ?_
          · rw [hta, hcl, if_neg g3]
            rfl
          · rw [hT, j2, gT, if_pos rfl, j3']
            simp (disch := omega) only [NL0, NL1, NL2, NL3, NL4, NL5, NL6, NL7, NL8, NL9]
            rw [if_pos g2]
            simp (disch := omega) only [bnd, NL0, NL1, NL2, NL3, NL4, NL5, NL6, NL7, NL8, NL9]
            rw [← hx, if_neg (fun z => g3 ((bit0 _ (by omega)).mp z))]
            exact fault_T T1 3
      · left
        rw [if_neg (fun z => g2 z.1)] at hb
        refine flt 1 (by omega) (by omega) ?_ ?_
        · rw [hta]
          simp only [f_X5_takeBar, hb, Option.bind_some, if_true, fault_S]
          rfl
        · rw [hT, j2, gT, if_pos rfl, j3']
          simp (disch := omega) only [NL0, NL1, NL2, NL3, NL4, NL5, NL6, NL7, NL8, NL9]
          rw [if_neg g2]
          exact fault_T T1 1
    · left
      have gT : ¬ kdT u n a e = 1 := fun z => g (hs.2.2.2.2.mp z)
      rw [if_neg (fun z => g z.2)] at hb
      refine flt 1 (by omega) (by omega) ?_ ?_
      · rw [hta]
        simp only [f_X5_takeBar, hb, Option.bind_some, if_true, fault_S]
        rfl
      · rw [hT, j2, if_neg gT]
        exact fault_T T1 1
  · by_cases w9 : w = 9
    · -- order
      subst w9
      have hta : f_X5_takeToken S1 = (f_X5_takeOrder S1).bind (fun x => some x) := by
        simp only [f_X5_takeToken, w1]
        rw [if_neg (by decide), if_neg (by decide), if_pos (by decide)]
      have hT : argT 9 T = (if (gI T1 2) = 1 then (f_X8_in (gI T1 3) 11 13).bind (fun r_66 => (if r_66 = 0 then (f_X8_wrong T1 1).bind (fun (r_71, S_72) => gz r_71 (some ((r_71, S_72)))) else gd 229 242 (bnd (sM T1 2 ((229 : Int32).toNatClampNeg) ((gI T1 3) - 11)) fun S_69 => f_X8_readLine_J245 S_69))) else (f_X8_wrong T1 1).bind (fun (r_61, S_62) => gz r_61 (some ((r_61, S_62))))) := by
        unfold argT
        rw [t1, Option.bind_some, if_pos (by decide), if_pos (by decide)]
      have hb := order_word hR hk
      by_cases g : wd u n a e < 17
      · have gT := hs.2.2.2.2.mpr g
        have j3' := j3 gT
        have han : a < n := by
          rcases Nat.lt_or_ge a n with z | z
          · exact z
          · have : a = n := by omega
            rw [hs.2.1.mpr this] at gT
            exact absurd gT (by decide)
        by_cases g2 : 11 ≤ wd u n a e ∧ wd u n a e < 14
        · right
          rw [if_pos g2] at hb
          have hm : ¬ nI (wd u n a e - 11) = -1 := by simp (disch := omega) only [q_m1, not_false_eq_true]
          refine fine 9 (nI (wd u n a e - 11)) (by omega) (fun z => by omega) han ?_ ?_
          · rw [hta]
            simp (disch := omega) only [f_X5_takeOrder, hb, Option.bind_some, bnd, NL0, NL1, NL2, NL3, NL4, NL5, NL6, NL7, NL8, NL9]
            rw [if_neg hm]
            rfl
          · rw [hT, j2, gT, if_pos rfl, j3']
            simp (disch := omega) only [f_X8_in, NL0, NL1, NL2, NL3, NL4, NL5, NL6, NL7, NL8, NL9]
            rw [if_neg (by omega), if_neg (by omega), Option.bind_some, if_neg (by decide)]
            simp (disch := omega) only [bnd, NL0, NL1, NL2, NL3, NL4, NL5, NL6, NL7, NL8, NL9]
        · left
          rw [if_neg g2] at hb
          refine flt 1 (by omega) (by omega) ?_ ?_
          · rw [hta]
            simp only [f_X5_takeOrder, hb, Option.bind_some, if_true, fault_S]
            rfl
          · rw [hT, j2, gT, if_pos rfl, j3']
            have hin : f_X8_in (nI (wd u n a e)) 11 13 = some 0 := by
              simp (disch := omega) only [f_X8_in, NL0, NL1, NL2, NL3, NL4, NL5, NL6, NL7, NL8, NL9]
              by_cases z : wd u n a e < 11
              · rw [if_pos z]
              · rw [if_neg z, if_pos (by omega)]
            rw [hin, Option.bind_some, if_pos rfl]
            exact fault_T T1 1
      · left
        have gT : ¬ kdT u n a e = 1 := fun z => g (hs.2.2.2.2.mp z)
        rw [if_neg (fun z => by omega)] at hb
        refine flt 1 (by omega) (by omega) ?_ ?_
        · rw [hta]
          simp only [f_X5_takeOrder, hb, Option.bind_some, if_true, fault_S]
          rfl
        · rw [hT, j2, if_neg gT]
          exact fault_T T1 1
    · -- a number
      have hw9 : w < 9 := by omega
      have hta : f_X5_takeToken S1 = (f_X5_takeNumber S1).bind (fun x => some x) := by
        simp only [f_X5_takeToken, w1, wantOf]
        rw [if_neg w10, if_neg w9, if_neg (by decide), if_pos (by decide)]
      have h9w : ¬ (9 : Int32) ≤ nI w := by
        simp (disch := omega) only [NL0, NL1, NL2, NL3, NL4, NL5, NL6, NL7, NL8, NL9]
        omega
      have hT : argT w T = (if (gI T1 2) = 2 then (if nI w = 2 then (if 9 < (gI T1 6) then (f_X8_wrong T1 2).bind (fun (r_79, S_80) => gz r_79 (some ((r_79, S_80)))) else f_X8_readLine_J88 (nI w) T1) else f_X8_readLine_J88 (nI w) T1) else (f_X8_wrong T1 1).bind (fun (r_84, S_85) => gz r_84 (some ((r_84, S_85))))) := by
        unfold argT
        rw [t1, Option.bind_some, if_neg h9w]
      by_cases g : kdS u n a e = 2
      · have gT := hs.2.2.2.1.mp g
        have i4 := hk.2.2.2.2.1 g
        have j6 := hk.2.2.2.2.2.2.2.2.1 gT
        have hv := hk.2.2.2.2.2.2.2.2.2.2 g
        have han : a < n := by
          rcases Nat.lt_or_ge a n with z | z
          · exact z
          · have : a = n := by omega
            rw [hs.1.mpr this] at g
            exact absurd g (by decide)
        generalize wor u a (e - a) = v at i4 j6 hv
        have hJ112 : f_X8_readLine_J112 (nI w) T1 = f_X8_readLine_J245 (sM T1 2 (220 + w) (nI v)) := by
          simp (disch := omega) only [f_X8_readLine_J112, gd_nI, nI_clamp, bnd, j6, NL0, NL1, NL2, NL3, NL4, NL5, NL6, NL7, NL8, NL9]
        have hcl : ∀ lo hi : Nat, lo < 100 → hi ≤ 9999 → f_X5_leastOf (nI w) = some (nI lo) → f_X5_greatestOf (nI w) = some (nI hi) → f_X5_takeNumber S1 = if lo ≤ v ∧ v ≤ hi then some (sI (sM S1 8 w (nI v)) 5 4) else some (sI (sI S1 8 (nI 2)) 9 (gI S1 3)) := by
          intro lo hi l1 l2 e1 e2
          simp (disch := omega) only [f_X5_takeNumber, i2, g, if_true, w61, e1, e2, i4, Option.bind_some, nI_ltI, nI_leI, gd_nI, nI_clamp, bnd, fault_S]
          by_cases z1 : v < lo
          · rw [if_pos z1, if_neg (by omega)]
            rfl
          · rw [if_neg z1]
            by_cases z2 : v ≤ hi
            · rw [if_pos z2, if_pos (by omega)]
            · rw [if_neg z2, if_neg (by omega)]
              rfl
        by_cases w2 : w = 2
        · subst w2
          have hc2 := hcl 0 9 (by omega) (by omega) rfl rfl
          by_cases z : v ≤ 9
          · right
            refine fine 2 (nI v) (by omega) (fun _ => ⟨v, by omega, rfl, fun _ => z⟩) han ?_ ?_
            · rw [hta, hc2, if_pos (by omega)]
              rfl
            · rw [hT, j2, gT, if_pos rfl, if_pos (by decide), j6]
              simp (disch := omega) only [NL0, NL1, NL2, NL3, NL4, NL5, NL6, NL7, NL8, NL9]
              rw [if_neg (by omega)]
              simp only [f_X8_readLine_J88]
              rw [if_neg (by decide)]
              exact hJ112
          · left
            refine flt 2 (by omega) (by omega) ?_ ?_
            · rw [hta, hc2, if_neg (by omega)]
              rfl
            · rw [hT, j2, gT, if_pos rfl, if_pos (by decide), j6]
              simp (disch := omega) only [NL0, NL1, NL2, NL3, NL4, NL5, NL6, NL7, NL8, NL9]
              rw [if_pos (by omega)]
              exact fault_T T1 2
        · have hw2 : ¬ nI w = 2 := by
            simp (disch := omega) only [NL0, NL1, NL2, NL3, NL4, NL5, NL6, NL7, NL8, NL9]
            exact w2
          by_cases w3 : w = 3
          · subst w3
            have hc2 := hcl 1 30 (by omega) (by omega) rfl rfl
            have hin : f_X8_in (nI v) 1 30 = some (if 1 ≤ v ∧ v ≤ 30 then 1 else 0) := by
              simp (disch := omega) only [f_X8_in, NL0, NL1, NL2, NL3, NL4, NL5, NL6, NL7, NL8, NL9]
              by_cases z1 : v < 1
              · rw [if_pos z1, if_neg (by omega)]
              · rw [if_neg z1]
                by_cases z2 : 30 < v
                · rw [if_pos z2, if_neg (by omega)]
                · rw [if_neg z2, if_pos (by omega)]
            by_cases z : 1 ≤ v ∧ v ≤ 30
            · right
              rw [if_pos z] at hin
              refine fine 3 (nI v) (by omega) (fun _ => ⟨v, by omega, rfl, fun y => by omega⟩) han ?_ ?_
              · rw [hta, hc2, if_pos z]
                rfl
              · rw [hT, j2, gT, if_pos rfl, if_neg hw2]
                simp only [f_X8_readLine_J88, j6, hin, Option.bind_some]
                rw [if_pos (by decide), if_neg (by decide)]
                exact hJ112
            · left
              rw [if_neg z] at hin
              refine flt 2 (by omega) (by omega) ?_ ?_
              · rw [hta, hc2, if_neg z]
                rfl
              · rw [hT, j2, gT, if_pos rfl, if_neg hw2]
                simp only [f_X8_readLine_J88, j6, hin, Option.bind_some]
                rw [if_pos (by decide), if_pos trivial]
                exact fault_T T1 2
          · have hw3 : ¬ nI w = 3 := by
              simp (disch := omega) only [NL0, NL1, NL2, NL3, NL4, NL5, NL6, NL7, NL8, NL9]
              exact w3
            right
            have hc2 := hcl 0 9999 (by omega) (by omega) (by unfold f_X5_leastOf; rw [if_neg hw3]; rfl) (by unfold f_X5_greatestOf; rw [if_neg hw2, if_neg hw3]; rfl)
            refine fine w (nI v) (by omega) (fun _ => ⟨v, hv, rfl, fun y => absurd y w2⟩) han ?_ ?_
            · rw [hta, hc2, if_pos (by omega)]
              rfl
            · rw [hT, j2, gT, if_pos rfl, if_neg hw2]
              simp only [f_X8_readLine_J88]
              rw [if_neg hw3]
              exact hJ112
      · left
        have gT : ¬ kdT u n a e = 2 := fun z => g (hs.2.2.2.1.mpr z)
        refine flt 1 (by omega) (by omega) ?_ ?_
        · rw [hta]
          simp only [f_X5_takeNumber, i2, fault_S]
          rw [if_neg g]
          rfl
        · rw [hT, j2, if_neg gT]
          exact fault_T T1 1
/-! ===== pure part: all lines ===== -/
/-- how both stand at a line's begin -/
def LB (u : Nat → Nat) (n q : Nat) (S T : St) : Prop := RX u n S T ∧ gI S 1 = nI q ∧ gI T 5 = nI q ∧ gI S 5 = 0 ∧ gI S 8 = 0 ∧ gI S 9 = -1 ∧ ¬ gI S 2 = 4 ∧ gI T 7 = 0 ∧ gI T 8 = -1
theorem first_W (T : St) {w : Nat} (hw : w < 11) (h2 : gI T 2 = 1) (h3 : gI T 3 = nI w) : f_X8_readLine T = if w < 10 ∧ ¬ gM T 4 w = 0 then (f_X8_wrong T 3).bind (fun (r_100, S_101) => gz r_100 (some ((r_100, S_101)))) else argT w (sM T 4 w (bI true)) := by
  have hJ : f_X8_readLine_J46 (nI w) T = argT w (sM T 4 w (bI true)) := by
    simp (disch := omega) only [f_X8_readLine_J46, gd_nI, nI_clamp, bnd, nar_1]
    rfl
  simp only [f_X8_readLine, h2, h3, if_true, bnd, hJ]
  rw [if_pos (by simp (disch := omega) only [NL0, NL1, NL2, NL3, NL4, NL5, NL6, NL7, NL8, NL9]; omega)]
  by_cases q : w = 10
  · have : nI w = 10 := by rw [q]; rfl
    rw [if_pos this, if_neg (by omega)]
  · have : ¬ nI w = 10 := by
      simp (disch := omega) only [NL0, NL1, NL2, NL3, NL4, NL5, NL6, NL7, NL8, NL9]
      exact q
    rw [if_neg this, gd_nI (by omega) (by omega), nI_clamp (by omega)]
    by_cases z : gM T 4 w = 0
    · rw [if_pos z, if_neg (fun y => y.2 z)]
    · rw [if_neg z, if_pos ⟨by omega, z⟩]
theorem one_line {u : Nat → Nat} {n q c : Nat} {S T0 : St} (h : LB u n q S T0) (hq : q ≤ n) (hc : c ≤ q) : ∃ T1, f_X8_scan T0 = some T1 ∧
    ((gI T1 2 = 4 ∧ ∃ S1, f_X5_readTape_L46 (nI c, S) = some (.inl (nI (c + 1), S1)) ∧ gI S1 2 = 4 ∧ RX u n S1 T1 ∧ FS S S1 ∧ FT T0 T1 ∧ gI S1 8 = 0 ∧ gI S1 9 = -1 ∧ gI T1 7 = 0 ∧ gI T1 8 = -1) ∨
     (q < n ∧ ¬ gI T1 2 = 4 ∧ ∃ S' T', (∀ F, loopF f_X5_readTape_L46 (F + 4) (nI c, S) = some (0, sI S' 0 0)) ∧ f_X8_readLine T1 = some (0, T') ∧ FA S' T' ∧ FS S S' ∧ FT T0 T') ∨
     (¬ gI T1 2 = 4 ∧ ∃ e S' T', q < e ∧ e ≤ n ∧ c + 3 ≤ e ∧ (∀ F, loopF f_X5_readTape_L46 (F + 3) (nI c, S) = loopF f_X5_readTape_L46 F (nI (c + 3), S')) ∧ f_X8_readLine T1 = (f_X8_scan T').bind (fun x => some (1, x)) ∧ LB u n e S' T' ∧ FS S S' ∧ FT T0 T')) := by
  obtain ⟨h, h1, h5, w5, h8, h9, h2, t7, t8⟩ := h
  have hn := h.1.1
  obtain ⟨a, e, S1, T1, a1, a2, a3, s1, t1, s2, t2, hk, hR⟩ := both_tok h hq h1 h5
  have hs := kd_same u n a e
  have w1 : gI S1 5 = 0 := (s2.1 5 (by decide)).trans w5
  have i2 := hk.2.2.2.1
  have j2 := hk.2.2.2.2.2.2.2.1
  have i8 : gI S1 8 = 0 := (s2.1 8 (by decide)).trans h8
  have i9 : gI S1 9 = -1 := (s2.1 9 (by decide)).trans h9
  have j7 : gI T1 7 = 0 := (t2.1 7 (by decide)).trans t7
  have j8 : gI T1 8 = -1 := (t2.1 8 (by decide)).trans t8
  have hta : f_X5_takeToken S1 = (f_X5_takeFirstWord S1).bind (fun x => some x) := by
    simp only [f_X5_takeToken, w1]
    rw [if_pos trivial]
  have hturn : ∀ S2, f_X5_takeFirstWord S1 = some S2 → f_X5_readTape_L46 (nI c, S) = some (.inl (nI (c + 1), S2)) := by
    intro S2 e1
    refine turn_S hn h.1.2.1 (by omega) h2 h8 s1 ?_
    rw [hta, e1]
    rfl
  refine ⟨T1, t1, ?_⟩
  by_cases han : a = n
  · left
    have k4 := hs.1.mpr han
    have k4' := hs.2.1.mpr han
    refine ⟨j2.trans k4', S1, hturn S1 ?_, i2.trans k4, hR, FS.of s2 (by decide), FT.of t2 (by decide), i8, i9, j7, j8⟩
    simp only [f_X5_takeFirstWord, i2, k4]
    rw [if_pos trivial]
  · right
    have han' : a < n := by omega
    have hae := a3 han'
    have k4 : ¬ kdS u n a e = 4 := fun z => han (hs.1.mp z)
    have k4' : ¬ kdT u n a e = 4 := fun z => han (hs.2.1.mp z)
    have j4 : ¬ gI T1 2 = 4 := by rw [j2]; exact k4'
    have i24 : ¬ gI S1 2 = 4 := by rw [i2]; exact k4
    have hrw := rule_word hR hk
    -- a fault at the first word
    have flt : ∀ (k : Nat) (x : Int32), 1 ≤ k → k ≤ 3 → f_X5_takeFirstWord S1 = some (sI (sI (sI S1 6 x) 8 (nI k)) 9 (gI (sI S1 6 x) 3)) → f_X8_readLine T1 = some (0, sI (sI T1 7 (nI k)) 8 (gI T1 4)) → (∃ S' T', (∀ F, loopF f_X5_readTape_L46 (F + 4) (nI c, S) = some (0, sI S' 0 0)) ∧ f_X8_readLine T1 = some (0, T') ∧ FA S' T' ∧ FS S S' ∧ FT T0 T') := by
      intro k x k1 k2 e1 e2
      have hk6 : TK u n a e (sI S1 6 x) T1 := by
        obtain ⟨z1, z2, z3, z4, z5, z6⟩ := hk
        refine ⟨z1, ?_, ?_, ?_, fun y => ?_, z6⟩
        · rw [gI_sI_n _ _ (by omega), z2]
        · rw [gI_sI_n _ _ (by omega), z3]
        · rw [gI_sI_n _ _ (by omega), z4]
        · rw [gI_sI_n _ _ (by omega), z5 y]
      refine ⟨_, _, fun F => ?_, e2, fault_FA hk6 k1 k2, (FS.of s2 (by decide)).tr (FS.of (Fr.i.tr (Fr.i.tr Fr.i)) (by decide)), (FT.of t2 (by decide)).tr (FT.of (Fr.i.tr Fr.i) (by decide))⟩
      have e3 := hturn _ e1
      have y8 : gI (sI (sI (sI S1 6 x) 8 (nI k)) 9 (gI (sI S1 6 x) 3)) 8 = nI k := by
        rw [gI_sI_n _ _ (by omega), gI_sI_s]
      have yk : ¬ nI k = 0 := nI_ne0 (by omega) (by omega)
      have e4 := last_S (c := nI (c + 1)) (S := sI (sI (sI S1 6 x) 8 (nI k)) 9 (gI (sI S1 6 x) 3)) (Or.inr (by rw [y8]; exact yk))
      rw [y8, if_neg yk] at e4
      simp only [loopF, e3, e4]
    by_cases g : wd u n a e < 11
    · have gT := hs.2.2.2.2.mpr (by omega)
      have j3 := hk.2.2.2.2.2.2.2.2.2.1 gT
      rw [if_pos g] at hrw
      have j21 : gI T1 2 = 1 := j2.trans gT
      generalize wd u n a e = w at g j3 hrw
      have hm : ¬ nI w = -1 := by simp (disch := omega) only [q_m1, not_false_eq_true]
      have hline := first_W T1 g j21 j3
      -- the way on, once the word is told in both
      have onward : ∀ S2 T2 : St, f_X5_takeFirstWord S1 = some S2 → f_X8_readLine T1 = argT w T2 → RX u n S2 T2 → Fr [5, 6, 7] [] S1 S2 → Fr [] [4] T1 T2 → gI S2 5 = wantOf w → gI S2 6 = nI w →
          ((q < n ∧ ¬ gI T1 2 = 4 ∧ ∃ S' T', (∀ F, loopF f_X5_readTape_L46 (F + 4) (nI c, S) = some (0, sI S' 0 0)) ∧ f_X8_readLine T1 = some (0, T') ∧ FA S' T' ∧ FS S S' ∧ FT T0 T') ∨
          (¬ gI T1 2 = 4 ∧ ∃ e S' T', q < e ∧ e ≤ n ∧ c + 3 ≤ e ∧ (∀ F, loopF f_X5_readTape_L46 (F + 3) (nI c, S) = loopF f_X5_readTape_L46 F (nI (c + 3), S')) ∧ f_X8_readLine T1 = (f_X8_scan T').bind (fun x => some (1, x)) ∧ LB u n e S' T' ∧ FS S S' ∧ FT T0 T')) := by
        intro S2 T2 e1 e2 hR2 fS2 fT2 q5 q6
        have z2 : ¬ gI S2 2 = 4 := by
          rw [fS2.1 2 (by decide)]
          exact i24
        have z8 : gI S2 8 = 0 := (fS2.1 8 (by decide)).trans i8
        have z9 : gI S2 9 = -1 := (fS2.1 9 (by decide)).trans i9
        have z1 : gI S2 1 = nI e := (fS2.1 1 (by decide)).trans hk.2.1
        have y5 : gI T2 5 = nI e := (fT2.1 5 (by decide)).trans hk.2.2.2.2.2.1
        have y7 : gI T2 7 = 0 := (fT2.1 7 (by decide)).trans j7
        have y8 : gI T2 8 = -1 := (fT2.1 8 (by decide)).trans j8
        have it1 := hturn S2 e1
        have gS0 : FS S S2 := (FS.of s2 (by decide)).tr (FS.of fS2 (by decide))
        have gT0 : FT T0 T2 := (FT.of t2 (by decide)).tr (FT.of fT2 (by decide))
        have hen := hk.1.2
        obtain ⟨S3, s3, hcase⟩ := arg_tok hR2 g hen z1 y5 q5 q6 z8 z9 y7 y8
        rcases hcase with ⟨S', T', e3, e4, e5, e6, e7⟩ | ⟨e', S', T', e'1, e'2, e3, e4, hR', e6, e7, x1, x5, v5, v8, v9, v2, u7, u8⟩
        · left
          refine ⟨by omega, j4, S', T', fun F => ?_, e2.trans e4, e5, gS0.tr e6, gT0.tr e7⟩
          have it2 : f_X5_readTape_L46 (nI (c + 1), S2) = some (.inl (nI (c + 1 + 1), S')) := turn_S hn hR2.1.2.1 (by omega) z2 z8 s3 e3
          obtain ⟨k, k1, k2, k3, _⟩ := e5
          have yk : ¬ gI S' 8 = 0 := by rw [k3]; exact nI_ne0 (by omega) (by omega)
          have it3 := last_S (c := nI (c + 1 + 1)) (S := S') (Or.inr yk)
          rw [if_neg yk] at it3
          simp only [loopF, it1, it2, it3]
        · have it2 : f_X5_readTape_L46 (nI (c + 1), S2) = some (.inl (nI (c + 1 + 1), S')) := turn_S hn hR2.1.2.1 (by omega) z2 z8 s3 e3
          · rcases semi hR' e'2 (c := c + 1 + 1) (by omega) x1 x5 v5 v8 v9 v2 u7 u8 with ⟨S'', T'', f1, f2, f3, f4, f5⟩ | ⟨e'', S'', T'', p1, p2, f1, f2, hR'', f4, f5, r1, r5, r50, r8, r9, r2, o7, o8⟩
            · left
              refine ⟨by omega, j4, S'', T'', fun F => ?_, (e2.trans e4).trans f2, f3, (gS0.tr e6).tr f4, (gT0.tr e7).tr f5⟩
              rw [show F + 4 = ((F + 2) + 1) + 1 by omega, loopF, it1]
              show loopF f_X5_readTape_L46 ((F + 2) + 1) (nI (c + 1), S2) = _
              rw [loopF, it2]
              exact f1 F
            · right
              refine ⟨j4, e'', S'', T'', by omega, p2, by omega, fun F => ?_, (e2.trans e4).trans f2, ⟨hR'', r1, r5, r50, r8, r9, r2, o7, o8⟩, (gS0.tr e6).tr f4, (gT0.tr e7).tr f5⟩
              rw [show F + 3 = ((F + 1) + 1) + 1 by omega, loopF, it1]
              show loopF f_X5_readTape_L46 ((F + 1) + 1) (nI (c + 1), S2) = _
              rw [loopF, it2]
              show loopF f_X5_readTape_L46 (F + 1) (nI (c + 1 + 1), S') = _
              rw [loopF, f1]
      have hhb := hR.2.2.2.1
      by_cases w10 : w = 10
      · subst w10
        rw [if_neg (by omega)] at hline
        refine onward (sI (sI S1 6 (nI 10)) 5 3) _ ?_ hline ?_ (Fr.i.tr Fr.i |>.w (by decide) (by decide)) Fr.m (gI_sI_s _ _ _) ?_
        · simp only [f_X5_takeFirstWord, hrw, Option.bind_some, bnd, gI_sI_s]
          rw [if_neg i24, if_neg hm, if_pos (by decide)]
        · obtain ⟨q1, q2, q3, q4, q5, q6⟩ := hR
          have fS : Fr [5, 6] [] S1 (sI (sI S1 6 (nI 10)) 5 3) := (Fr.i.tr Fr.i).w (by decide) (by decide)
          have fT : Fr [] [4] T1 (sM T1 4 10 (bI true)) := Fr.m
          refine ⟨q1.fr fS (by decide), q2.fr fT (by decide), q3, fun r hr => ?_, q5, q6⟩
          rw [gM_sM_s, pk_un (by omega), q4 r hr]
          rfl
        · rw [gI_sI_n _ _ (by omega), gI_sI_s]
      · have hw10 : ¬ nI w = 10 := by
          simp (disch := omega) only [NL0, NL1, NL2, NL3, NL4, NL5, NL6, NL7, NL8, NL9]
          exact w10
        have hwb := hhb w (by omega)
        cases qb : bt (gI S1 7) w
        · rw [qb] at hwb
          rw [if_neg (fun y => y.2 hwb)] at hline
          refine onward (sI (sI (sI S1 6 (nI w)) 7 (gI S1 7 ||| ((1 : Int32) <<< (nI w &&& 31)))) 5 (wantOf w)) _ ?_ hline ?_ (((Fr.i.tr Fr.i).tr Fr.i).w (by decide) (by decide)) Fr.m (gI_sI_s _ _ _) ?_
          · simp (disch := omega) only [f_X5_takeFirstWord, hrw, Option.bind_some, bnd, gI_sI_s, gI_sI_n, hasBit_eq, qb, bI_f]
            rw [if_neg i24, if_neg hm, if_neg hw10, if_pos trivial]
            unfold wantOf
            rw [if_neg w10]
            by_cases w9 : w = 9
            · have : nI w = 9 := by rw [w9]; rfl
              rw [if_pos this, if_pos w9]
            · have : ¬ nI w = 9 := by
                simp (disch := omega) only [NL0, NL1, NL2, NL3, NL4, NL5, NL6, NL7, NL8, NL9]
                exact w9
              rw [if_neg this, if_neg w9]
          · obtain ⟨q1, q2, q3, q4, q5, q6⟩ := hR
            have fS : Fr [5, 6, 7] [] S1 (sI (sI (sI S1 6 (nI w)) 7 (gI S1 7 ||| ((1 : Int32) <<< (nI w &&& 31)))) 5 (wantOf w)) := ((Fr.i.tr Fr.i).tr Fr.i).w (by decide) (by decide)
            have fT : Fr [] [4] T1 (sM T1 4 w (bI true)) := Fr.m
            refine ⟨q1.fr fS (by decide), q2.fr fT (by decide), q3, fun r hr => ?_, q5, q6⟩
            rw [gM_sM_s, gI_sI_n _ _ (by omega), gI_sI_s, bt_set _ (by omega) (by omega)]
            by_cases z : r = w
            · subst z
              rw [pk_us]
              simp
            · rw [pk_un z, q4 r hr]
              simp [z]
          · rw [gI_sI_n _ _ (by omega), gI_sI_n _ _ (by omega), gI_sI_s]
        · left
          rw [qb] at hwb
          have hne : ¬ gM T1 4 w = 0 := by rw [hwb]; decide
          rw [if_pos ⟨by omega, hne⟩] at hline
          refine ⟨by omega, j4, flt 3 (nI w) (by omega) (by omega) ?_ (hline.trans (fault_T T1 3))⟩
          simp (disch := omega) only [f_X5_takeFirstWord, hrw, Option.bind_some, bnd, gI_sI_s, gI_sI_n, hasBit_eq, qb, bI_t, fault_S]
          rw [if_neg i24, if_neg hm, if_neg hw10, if_neg (by decide)]
          rfl
    · left
      rw [if_neg g] at hrw
      refine ⟨by omega, j4, flt 1 (-1) (by omega) (by omega) ?_ ?_⟩
      · simp (disch := omega) only [f_X5_takeFirstWord, hrw, Option.bind_some, bnd, gI_sI_s, gI_sI_n, fault_S]
        rw [if_neg i24, if_pos trivial]
        rfl
      · by_cases gT : kdT u n a e = 1
        · have j3 := hk.2.2.2.2.2.2.2.2.2.1 gT
          have hlt := hs.2.2.2.2.mp gT
          simp only [f_X8_readLine, j2, gT, j3]
          rw [if_pos trivial, if_neg (by simp (disch := omega) only [NL0, NL1, NL2, NL3, NL4, NL5, NL6, NL7, NL8, NL9]; omega)]
          exact fault_T T1 1
        · simp only [f_X8_readLine, j2]
          rw [if_neg gT]
          exact fault_T T1 1
/-- where both end: with a fault, or with a text -/
def EndR (u : Nat → Nat) (n : Nat) (day : Int32) (F1 F2 c : Nat) (S T0 : St) : Prop :=
  ∃ T1, f_X8_scan T0 = some T1 ∧
  ((∃ S' T', loopF (f_X5_readTape_L46) F1 (nI c, S) = some (0, sI S' 0 0) ∧ loopF (f_X8_edition_L77 day) F2 T1 = some (.inr (-1, T')) ∧ FA S' T' ∧ FS S S' ∧ FT T0 T') ∨
   (∃ S' T', loopF (f_X5_readTape_L46) F1 (nI c, S) = some (1, sI S' 0 0) ∧ (∀ x, f_X8_edition_L77 day T' = some (.inr x) → loopF (f_X8_edition_L77 day) F2 T1 = some x) ∧ gI T' 2 = 4 ∧ RX u n S' T' ∧ FS S S' ∧ FT T0 T' ∧ gI S' 8 = 0 ∧ gI S' 9 = -1 ∧ gI T' 7 = 0 ∧ gI T' 8 = -1))
theorem lines {u : Nat → Nat} {n : Nat} (day : Int32) : ∀ (m q c : Nat) (S T0 : St), n - q ≤ m → q ≤ n → c ≤ q → LB u n q S T0 → ∀ F1 F2, 3 * m + 5 ≤ F1 → m + 2 ≤ F2 → EndR u n day F1 F2 c S T0 := by
  intro m
  induction m with
  | zero =>
    intro q c S T0 hm hq hc h F1 F2 hF1 hF2
    obtain ⟨T1, t1, hcase⟩ := one_line h hq hc
    refine ⟨T1, t1, ?_⟩
    rcases hcase with ⟨j4, S1, e1, e2, e3, e4, e5, e6, e7, e8, e9⟩ | ⟨z, _⟩ | ⟨_, e, _, _, z1, z2, _⟩
    · right
      obtain ⟨F1', rfl⟩ : ∃ k, F1 = k + 2 := ⟨F1 - 2, by omega⟩
      obtain ⟨F2', rfl⟩ : ∃ k, F2 = k + 1 := ⟨F2 - 1, by omega⟩
      refine ⟨S1, T1, ?_, fun x hx => ?_, j4, e3, e4, e5, e6, e7, e8, e9⟩
      · have e10 := last_S (c := nI (c + 1)) (S := S1) (Or.inl e2)
        rw [e6, if_pos rfl] at e10
        simp only [loopF, e1, e10]
      · simp only [loopF, hx]
    · omega
    · omega
  | succ m ih =>
    intro q c S T0 hm hq hc h F1 F2 hF1 hF2
    obtain ⟨T1, t1, hcase⟩ := one_line h hq hc
    refine ⟨T1, t1, ?_⟩
    have hbody : ¬ gI T1 2 = 4 → f_X8_edition_L77 day T1 = (f_X8_readLine T1).bind (fun x => if x.1 = 0 then some (.inr (.inr (-1, x.2))) else some (.inl x.2)) := by
      intro j4
      simp only [f_X8_edition_L77]
      rw [if_neg j4]
    rcases hcase with ⟨j4, S1, e1, e2, e3, e4, e5, e6, e7, e8, e9⟩ | ⟨z, j4, S', T', e1, e2, e3, e4, e5⟩ | ⟨j4, e, S', T', z1, z2, z3, e1, e2, e3, e4, e5⟩
    · right
      obtain ⟨F1', rfl⟩ : ∃ k, F1 = k + 2 := ⟨F1 - 2, by omega⟩
      obtain ⟨F2', rfl⟩ : ∃ k, F2 = k + 1 := ⟨F2 - 1, by omega⟩
      refine ⟨S1, T1, ?_, fun x hx => ?_, j4, e3, e4, e5, e6, e7, e8, e9⟩
      · have e10 := last_S (c := nI (c + 1)) (S := S1) (Or.inl e2)
        rw [e6, if_pos rfl] at e10
        simp only [loopF, e1, e10]
      · simp only [loopF, hx]
    · left
      obtain ⟨F1', rfl⟩ : ∃ k, F1 = k + 4 := ⟨F1 - 4, by omega⟩
      obtain ⟨F2', rfl⟩ : ∃ k, F2 = k + 1 := ⟨F2 - 1, by omega⟩
      refine ⟨S', T', e1 F1', ?_, e3, e4, e5⟩
      rw [loopF, hbody j4, e2, Option.bind_some, if_pos rfl]
    · obtain ⟨F1', rfl⟩ : ∃ k, F1 = k + 3 := ⟨F1 - 3, by omega⟩
      obtain ⟨F2', rfl⟩ : ∃ k, F2 = k + 1 := ⟨F2 - 1, by omega⟩
      obtain ⟨T2, t2, hnext⟩ := ih e (c + 3) S' T' (by omega) z2 z3 e3 F1' F2' (by omega) (by omega)
      have hstep : loopF (f_X8_edition_L77 day) (F2' + 1) T1 = loopF (f_X8_edition_L77 day) F2' T2 := by
        rw [loopF, hbody j4, e2, t2, Option.bind_some, Option.bind_some, if_neg (show ¬ ((1 : Int32), T2).1 = 0 from (show ¬ (1 : Int32) = 0 by decide))]
      rw [e1 F1', hstep]
      rcases hnext with ⟨S'', T'', f1, f2, f3, f4, f5⟩ | ⟨S'', T'', f1, f2, f3, f4, f5, f6, f7⟩
      · exact Or.inl ⟨S'', T'', f1, f2, f3, e4.tr f4, e5.tr f5⟩
      · exact Or.inr ⟨S'', T'', f1, f2, f3, f4, e4.tr f5, e5.tr f6, f7⟩
/-! ===== pure part: an edition comes ===== -/
theorem plain_lp {day : Int32} {T : St} {Q : Int32 × St → Prop} (hQ : ∀ T1, Fr [] [2, 4] T T1 → (∀ k, k < 220 → gM T1 2 k = gM T 2 k) → (∀ r, r < 11 → gM T1 2 (220 + r) = plF r ∧ gM T1 4 r = 0) → Ok ((f_X8_scan T1).bind (fun S_13 => loopF (f_X8_edition_L77 day) FU S_13)) (fun x => ∃ y, x = .inr y ∧ Q y)) : Ok (loopF (f_X8_edition_L40 day) FU (0, T)) Q := by
  refine loop_ok (fun j s => ∃ T1, s = (nI j, T1) ∧ Fr [] [2, 4] T T1 ∧ (∀ k, k < 220 → gM T1 2 k = gM T 2 k) ∧ (∀ r, r < j → gM T1 2 (220 + r) = plF r ∧ gM T1 4 r = 0)) 11 _ (by omega) ⟨T, rfl, (Fr.rf T).w (by decide) (by decide), fun _ _ => rfl, fun r hr => by omega⟩ ?_
  rintro j s hj ⟨T1, rfl, g1, g2, g3⟩
  rcases Nat.lt_or_ge j 11 with h | h
  · refine go (s' := (nI (j + 1), sM (sM T1 2 (220 + j) (plF j)) 4 j 0)) ?_ h ⟨_, rfl, (g1.tr (Fr.m.tr Fr.m)).w (by decide) (by decide), fun k hk => ?_, fun r hr => ?_⟩
    · simp (disch := omega) only [f_X8_edition_L40, NL0, NL1, NL2, NL3, NL4, NL5, NL6, NL7, NL8, NL9, q_m1, q_m1', q_m1t, q_m1t', q_m1l, q_m1l', nI_clamp, nI_leI, nI_ltI, nI_eq, nI_add, nI_z, pk_mul, pk_sub, gd_nI, bnd, plain_T, Option.bind_some, nar_0, bI_f]
      rw [if_neg (by omega)]
    · rw [gM_sM_n _ _ _ (by omega), gM_sM_s, pk_un (by omega)]
      exact g2 k hk
    · rw [gM_sM_n _ _ _ (by omega), gM_sM_s, gM_sM_s, gM_sM_n _ _ _ (by omega)]
      by_cases q : r = j
      · subst q
        rw [pk_us, pk_us]
        exact ⟨rfl, rfl⟩
      · rw [pk_un (by omega), pk_un q]
        exact g3 r (by omega)
  · have : j = 11 := by omega
    subst this
    obtain ⟨x, e1, y, rfl, e2⟩ := hQ T1 g1 g2 g3
    refine out (r := y) ?_ e2
    simp (disch := omega) only [f_X8_edition_L40, NL0, NL1, NL2, NL3, NL4, NL5, NL6, NL7, NL8, NL9, q_m1, q_m1', q_m1t, q_m1t', q_m1l, q_m1l', nI_clamp, nI_leI, nI_ltI, nI_eq, nI_add, nI_z, pk_mul, pk_sub, gd_nI]
    rw [if_pos (Nat.le_refl _)]
    exact e1
theorem copy_lp {day : Int32} {T : St} {ne : Nat} (hne : ne < 20) (h9 : gI T 9 = nI ne) : Ok (loopF (f_X8_edition_L112 day) FU (0, T)) (fun x => ∃ T', x = .inr (.inr (nI ne, T')) ∧ Fr [9] [2, 3] T T' ∧ gI T' 9 = nI (ne + 1) ∧ (∀ r, r < 11 → gM T' 2 (11 * ne + r) = gM T 2 (220 + r)) ∧ (∀ k, k < 11 * ne → gM T' 2 k = gM T 2 k) ∧ gM T' 3 = upd (gM T 3) ne day) := by
  refine loop_ok (fun j s => ∃ T1, s = (nI j, T1) ∧ Fr [] [2] T T1 ∧ (∀ r, r < j → gM T1 2 (11 * ne + r) = gM T 2 (220 + r)) ∧ (∀ k, (k < 11 * ne ∨ 11 * ne + 11 ≤ k) → gM T1 2 k = gM T 2 k)) 11 _ (by omega) ⟨T, rfl, (Fr.rf T).w (by decide) (by decide), fun r hr => by omega, fun _ _ => rfl⟩ ?_
  rintro j s hj ⟨T1, rfl, g1, g2, g3⟩
  have h9' : gI T1 9 = nI ne := (g1.1 9 (by decide)).trans h9
  rcases Nat.lt_or_ge j 11 with h | h
  · refine go (s' := (nI (j + 1), sM T1 2 (11 * ne + j) (gM T 2 (220 + j)))) ?_ h ⟨_, rfl, (g1.tr Fr.m).w (by decide) (by decide), fun r hr => ?_, fun k hk => ?_⟩
    · simp (disch := omega) only [f_X8_edition_L112, h9', NL0, NL1, NL2, NL3, NL4, NL5, NL6, NL7, NL8, NL9, q_m1, q_m1', q_m1t, q_m1t', q_m1l, q_m1l', nI_clamp, nI_leI, nI_ltI, nI_eq, nI_add, nI_z, pk_mul, pk_sub, gd_nI, bnd, g3 (220 + j) (by omega)]
      rw [if_neg (by omega)]
    · rw [gM_sM_s]
      by_cases q : r = j
      · subst q
        rw [pk_us]
      · rw [pk_un (by omega)]
        exact g2 r (by omega)
    · rw [gM_sM_s, pk_un (by omega)]
      exact g3 k hk
  · have : j = 11 := by omega
    subst this
    refine out (r := .inr (.inr (nI ne, sI (sM T1 3 ne day) 9 (nI (ne + 1))))) ?_ ⟨_, rfl, ((g1.tr Fr.m).tr Fr.i).w (by decide) (by decide), gI_sI_s _ _ _, fun r hr => ?_, fun k hk => ?_, ?_⟩
    · simp (disch := omega) only [f_X8_edition_L112, h9', NL0, NL1, NL2, NL3, NL4, NL5, NL6, NL7, NL8, NL9, q_m1, q_m1', q_m1t, q_m1t', q_m1l, q_m1l', nI_clamp, nI_leI, nI_ltI, nI_eq, nI_add, nI_z, pk_mul, pk_sub, gd_nI, bnd, gI_sI_s, gI_sM]
      rw [if_pos (Nat.le_refl _)]
      rfl
    · rw [gM_sI, gM_sM_n _ _ _ (by omega)]
      exact g2 r hr
    · rw [gM_sI, gM_sM_n _ _ _ (by omega)]
      exact g3 k (by omega)
    · rw [gM_sI, gM_sM_s, g1.2.1 3 (by decide)]
theorem op_edition {S T : St} (h : Rel S T) (p1 : Int32) : ∃ (r : Int32) (S2 T2 : St), (f_X7_edition S p1 = some (r, S2)) ∧ (f_X8_edition T p1 = some (r, T2)) ∧ Rel S2 T2 := by
  obtain ⟨hT, hF, ne, nl, nc, hE, hP, hN, hA, hC⟩ := h
  obtain ⟨n, n1, n2, n3, n4, n5⟩ := id hT
  have h20 := hE.1.1
  unfold f_X7_edition f_X8_edition
  simp (disch := omega) only [bnd, n3, gI_sI_n]
  -- the tape is empty in both, whatever comes
  have tape0 : ∀ S' T' : St, gI S' 0 = 0 → gI T' 0 = 0 → gM S' 7 = gM S 7 → gM T' 1 = gM T 1 → RT S' T' := by
    intro S' T' e1 e2 e3 e4
    refine ⟨0, by omega, e1, e2, ?_, ?_⟩
    · rw [e3, e4]
      exact n4
    · rw [e4]
      exact n5
  rcases day_cases p1 with ⟨a1, a2⟩ | ⟨d, hd', rfl, a1, a2⟩
  · rw [a1, a2]
    have fS : Fr [0] [] S (sI S 0 0) := Fr.i
    have fT : Fr [1, 0] [] T (sI (sI T 1 (nI n)) 0 0) := Fr.i.tr Fr.i
    exact ⟨_, _, _, rfl, rfl, tape0 _ _ (gI_sI_s _ _ _) (gI_sI_s _ _ _) rfl rfl, hF.fr fS fT (by decide), ne, nl, nc, hE.fr fS fT (by decide), hP.fr fS fT (by decide), hN.fr fS fT (by decide), hA.fr fS fT (by decide), hC.fr fS fT (by decide)⟩
  · rw [a1, a2, bT, bT]
    have hu : ∃ u : Nat → Nat, ∀ j, j < 1000 → u j < 256 ∧ gM T 1 j = bz (u j) := by
      refine ⟨fun j => if hj : j < 1000 then Classical.choose (bz_ex (gM T 1 j) (n5 j hj).1 (n5 j hj).2) else 0, fun j hj => ?_⟩
      simp only [hj, dite_true]
      exact Classical.choose_spec (bz_ex (gM T 1 j) (n5 j hj).1 (n5 j hj).2)
    obtain ⟨u, hu⟩ := hu
    -- how the class begins
    generalize hS0 : sI (sI (sI (sI (sI (sI (sF S 8 (fun j => if j < 12 then plF j else gM S 8 j)) 1 0) 2 0) 5 0) 7 0) 8 0) 9 (-1) = S0
    have fS0 : Fr [1, 2, 5, 7, 8, 9] [8] S S0 := by
      rw [← hS0]
      exact (((((((Fr.fn.tr Fr.i).tr Fr.i).tr Fr.i).tr Fr.i).tr Fr.i).tr Fr.i)).w (by decide) (by decide)
    have c1 : gI S0 1 = 0 := by rw [← hS0]; simp (disch := omega) only [gI_sI_n, gI_sI_s]
    have c2 : gI S0 2 = 0 := by rw [← hS0]; simp (disch := omega) only [gI_sI_n, gI_sI_s]
    have c5 : gI S0 5 = 0 := by rw [← hS0]; simp (disch := omega) only [gI_sI_n, gI_sI_s]
    have c7 : gI S0 7 = 0 := by rw [← hS0]; simp (disch := omega) only [gI_sI_n, gI_sI_s]
    have c8 : gI S0 8 = 0 := by rw [← hS0]; simp (disch := omega) only [gI_sI_n, gI_sI_s]
    have c9 : gI S0 9 = -1 := by rw [← hS0]; simp (disch := omega) only [gI_sI_n, gI_sI_s]
    have cM : ∀ r, r < 12 → gM S0 8 r = plF r := by
      intro r hr
      rw [← hS0]
      simp only [gM_sI, gM_sF_s]
      rw [if_pos hr]
    have hrt : f_X5_readTape S = loopF f_X5_readTape_L46 FU (0, S0) := by
      simp only [f_X5_readTape, bnd, hS0]
    -- how the reference begins
    generalize hT0 : sI (sI (sI (sI (sI T 1 (nI n)) 0 0) 7 0) 8 (-1)) 5 0 = T0
    have fT0 : Fr [1, 0, 7, 8, 5] [] T T0 := by
      rw [← hT0]
      exact (((Fr.i.tr Fr.i).tr Fr.i).tr Fr.i).tr Fr.i
    have b1 : gI T0 1 = nI n := by rw [← hT0]; simp (disch := omega) only [gI_sI_n, gI_sI_s]
    have b0 : gI T0 0 = 0 := by rw [← hT0]; simp (disch := omega) only [gI_sI_n, gI_sI_s]
    have b5 : gI T0 5 = 0 := by rw [← hT0]; simp (disch := omega) only [gI_sI_n, gI_sI_s]
    have b7 : gI T0 7 = 0 := by rw [← hT0]; simp (disch := omega) only [gI_sI_n, gI_sI_s]
    have b8 : gI T0 8 = -1 := by rw [← hT0]; simp (disch := omega) only [gI_sI_n, gI_sI_s]
    rw [hrt]
    suffices H : Ok (loopF (f_X8_edition_L40 (nI d)) FU (0, T0)) (fun y => ∃ S2, ((loopF f_X5_readTape_L46 FU (0, S0)).bind (fun (r_5, S_6) => (if r_5 = 0 then some (((-1), S_6)) else (if 20 ≤ (gI S_6 10) then some (((-3), S_6)) else (f_X6_add S_6 (nI d)).bind (fun (r_11, S_12) => some ((r_11, S_12))))))) = some (y.1, S2) ∧ Rel S2 y.2) by
      obtain ⟨⟨r, T2⟩, e1, S2, e2, e3⟩ := H
      exact ⟨r, S2, T2, e2, e1, e3⟩
    refine plain_lp ?_
    intro T1 g1 g2 g3
    have hLS : LB u n 0 S0 T1 := by
      refine ⟨⟨⟨n1, ?_, fun j hj => ?_⟩, ⟨n1, ?_, fun j hj => ?_⟩, fun r hr => ?_, fun r hr => ?_, fun r hr => ?_, ?_⟩, c1, ?_, c5, c8, c9, ?_, ?_, ?_⟩
      · rw [fS0.1 0 (by decide), n2]
      · rw [fS0.2.1 7 (by decide), n4 j (by omega)]
        exact hu j (by omega)
      · rw [g1.1 1 (by decide), b1]
      · rw [g1.2.1 1 (by decide), fT0.2.1 1 (by decide)]
        exact hu j (by omega)
      · rw [cM r (by omega), (g3 r hr).1]
      · rw [(g3 r (by omega)).2, c7, b_0]
        rfl
      · rw [cM r (by omega)]
        exact plF_num r hr
      · rw [cM 2 (by omega)]
        exact ⟨1, by omega, by decide⟩
      · rw [g1.1 5 (by decide), b5]
        rfl
      · rw [c2]
        decide
      · rw [g1.1 7 (by decide), b7]
      · rw [g1.1 8 (by decide), b8]
    obtain ⟨T2, t2, hcase⟩ := lines (nI d) n 0 0 S0 T1 (by omega) (by omega) (Nat.le_refl 0) hLS FU FU (by unfold FU; omega) (by unfold FU; omega)
    rw [t2, Option.bind_some]
    -- what the rest of the ties needs
    have allT : ∀ {T' : St}, FT T1 T' → Fr [1, 0, 7, 8, 5, 2, 3, 4, 6] [2, 4] T T' ∧ ∀ k, k < 220 → gM T' 2 k = gM T 2 k := by
      intro T' hf
      refine ⟨((fT0.tr g1).tr hf.1).w (by decide) (by decide), fun k hk => ?_⟩
      rw [hf.2 k hk, g2 k hk, fT0.2.1 2 (by decide)]
    have allS : ∀ {S' : St}, FS S0 S' → Fr [0, 1, 2, 3, 4, 5, 6, 7, 8, 9] [8] S (sI S' 0 0) := by
      intro S' hf
      exact ((fS0.tr hf).tr Fr.i).w (by decide) (by decide)
    have keepE : ∀ {S' T' : St} {I I' M : List Nat}, Fr I M S S' → Fr I' [2, 4] T T' → (∀ k, k < 220 → gM T' 2 k = gM T 2 k) → (10 ∉ I ∧ 9 ∉ I' ∧ ∀ e, e < 20 → 25 + e ∉ M) → RE ne S' T' := by
      intro S' T' I I' M f1 f2 f3 f4
      obtain ⟨⟨q1, q2, q3⟩, q4, q5⟩ := hE
      refine ⟨⟨q1, (f2.1 9 f4.2.1).trans q2, fun e he => ?_⟩, (f1.1 10 f4.1).trans q4, fun e he => ?_⟩
      · rw [f2.2.1 3 (by decide)]
        obtain ⟨y1, y2, v, y3, y4⟩ := q3 e he
        refine ⟨y1, fun r hr => ?_, v, y3, ?_⟩
        · rw [f3 _ (by omega)]
          exact y2 r hr
        · rw [f3 _ (by omega)]
          exact y4
      · rw [f1.2.1 (25 + e) (f4.2.2 e (by omega)), f2.2.1 3 (by decide)]
        obtain ⟨y1, y2⟩ := q5 e he
        refine ⟨fun r hr => ?_, y2⟩
        rw [f3 _ (by omega)]
        exact y1 r hr
    rcases hcase with ⟨S', T', e1, e2, e3, e4, e5⟩ | ⟨S', T', e1, e2, e3, e4, e5, e6, e7, e8, e9, e10⟩
    · have fT' := allT e5
      have fS' := allS e4
      rw [e2]
      refine Ok.sm ⟨_, rfl, sI S' 0 0, by rw [show (0 : Int32) = nI 0 from rfl, e1]; rfl, tape0 _ _ (gI_sI_s _ _ _) ?_ ?_ ?_, ?_, ne, nl, nc, keepE fS' fT'.1 fT'.2 (by decide), hP.fr fS' fT'.1 (by decide), hN.fr fS' fT'.1 (by decide), hA.fr fS' fT'.1 (by decide), hC.fr fS' fT'.1 (by decide)⟩
      · rw [e5.1.1 0 (by decide), g1.1 0 (by decide), b0]
      · rw [fS'.2.1 7 (by decide)]
      · rw [fT'.1.2.1 1 (by decide)]
      · obtain ⟨k, k1, k2, k3, k4, k5⟩ := e3
        exact ⟨by rw [gI_sI_n _ _ (by omega), k3, k4], by rw [gI_sI_n _ _ (by omega), k5]⟩
    · have fT' := allT e6
      have fS' := allS e5
      have i9 : gI T' 9 = nI ne := (fT'.1.1 9 (by decide)).trans hE.1.2.1
      have i10 : gI (sI S' 0 0) 10 = nI ne := (fS'.1 10 (by decide)).trans hE.2.1
      have hRF : ∀ S'' T'' : St, gI S'' 8 = gI S' 8 → gI S'' 9 = gI S' 9 → gI T'' 7 = gI T' 7 → gI T'' 8 = gI T' 8 → RF S'' T'' := by
        intro S'' T'' y1 y2 y3 y4
        exact ⟨by rw [y1, y3, e7, e9], by rw [y2, y4, e8, e10]⟩
      have z0 : gI T' 0 = 0 := by rw [e6.1.1 0 (by decide), g1.1 0 (by decide), b0]
      by_cases q : ne = 20
      · have hx : f_X8_edition_L77 (nI d) T' = some (.inr (.inr (-3, T'))) := by
          simp only [f_X8_edition_L77, e3, i9]
          rw [if_pos trivial, if_pos (by rw [q]; rfl)]
        rw [e2 _ hx]
        refine Ok.sm ⟨_, rfl, sI S' 0 0, ?_, tape0 _ _ (gI_sI_s _ _ _) z0 ?_ ?_, hRF _ _ (gI_sI_n _ _ (by omega)) (gI_sI_n _ _ (by omega)) rfl rfl, ne, nl, nc, keepE fS' fT'.1 fT'.2 (by decide), hP.fr fS' fT'.1 (by decide), hN.fr fS' fT'.1 (by decide), hA.fr fS' fT'.1 (by decide), hC.fr fS' fT'.1 (by decide)⟩
        · rw [show (0 : Int32) = nI 0 from rfl, e1, Option.bind_some]
          show (if (1 : Int32) = 0 then _ else if 20 ≤ gI (sI S' 0 0) 10 then _ else _) = _
          rw [if_neg (by decide), i10, if_pos (by rw [q]; decide)]
          rfl
        · rw [fS'.2.1 7 (by decide)]
        · rw [fT'.1.2.1 1 (by decide)]
      · have hne : ne < 20 := by omega
        obtain ⟨x, x1, T3, rfl, x2, x3, x4, x5, x6⟩ := copy_lp (day := nI d) hne i9
        have hx : f_X8_edition_L77 (nI d) T' = some (.inr (.inr (nI ne, T3))) := by
          simp only [f_X8_edition_L77, e3, i9]
          rw [if_pos trivial, if_neg (by simp (disch := omega) only [NL0, NL1, NL2, NL3, NL4, NL5, NL6, NL7, NL8, NL9]; exact q)]
          exact x1
        rw [e2 _ hx]
        have g20 : ¬ (20 : Int32) ≤ nI ne := by
          simp (disch := omega) only [NL0, NL1, NL2, NL3, NL4, NL5, NL6, NL7, NL8, NL9]
          omega
        have hgn : ∀ {β : Type} (f : Option β), gn (25 + ne) 45 f = f := fun f => gn_p (by omega)
        have hadd : f_X6_add (sI S' 0 0) (nI d) = some (nI ne, sI (sM (sF (sI S' 0 0) (25 + ne) (fun j => if j < 12 then gM (sI S' 0 0) 8 j else gM (sI S' 0 0) (25 + ne) j)) (25 + ne) 11 (nI d)) 10 (nI (ne + 1))) := by
          simp (disch := omega) only [f_X6_add, i10, gd_nI, nI_clamp, bnd, hgn, gI_sM, gI_sF, gI_sI_s, nI_1, nI_pred, NL0, NL1, NL2, NL3, NL4, NL5, NL6, NL7, NL8, NL9]
        have fS3 : Fr [10] [25 + ne, 25 + ne] (sI S' 0 0) (sI (sM (sF (sI S' 0 0) (25 + ne) (fun j => if j < 12 then gM (sI S' 0 0) 8 j else gM (sI S' 0 0) (25 + ne) j)) (25 + ne) 11 (nI d)) 10 (nI (ne + 1))) := (Fr.fn.tr Fr.m).tr Fr.i
        generalize hS3 : sI (sM (sF (sI S' 0 0) (25 + ne) (fun j => if j < 12 then gM (sI S' 0 0) 8 j else gM (sI S' 0 0) (25 + ne) j)) (25 + ne) 11 (nI d)) 10 (nI (ne + 1)) = S3 at hadd fS3
        have row : ∀ r, gM S3 (25 + ne) r = if r = 11 then nI d else if r < 12 then gM S' 8 r else gM S' (25 + ne) r := by
          intro r
          rw [← hS3, gM_sI, gM_sM_s, gM_sF_s]
          by_cases y : r = 11
          · rw [y, pk_us, if_pos rfl]
          · rw [pk_un y, if_neg y]
            rfl
        have fS4 : Fr [0, 1, 2, 3, 4, 5, 6, 7, 8, 9, 10] [8, 25 + ne] S S3 := (fS'.tr fS3).w (by decide) (by
          intro k hk
          simp only [List.mem_append, List.mem_cons, List.mem_nil_iff, List.not_mem_nil, or_false] at hk ⊢
          omega)
        have fT4 : Fr [1, 0, 7, 8, 5, 2, 3, 4, 6, 9] [2, 3, 4] T T3 := (fT'.1.tr x2).w (by decide) (by decide)
        have nM : ∀ k, k ≠ 8 → k < 25 → k ∉ [8, 25 + ne] := by
          intro k h1 h2 h3
          simp only [List.mem_cons, List.mem_nil_iff, List.not_mem_nil, or_false] at h3
          omega
        refine Ok.sm ⟨_, rfl, S3, ?_, tape0 _ _ ?_ ?_ ?_ ?_, hRF _ _ ?_ ?_ ?_ ?_, ne + 1, nl, nc, ?_, ?_, ?_, ?_, ?_⟩
        · rw [show (0 : Int32) = nI 0 from rfl, e1, Option.bind_some]
          show (if (1 : Int32) = 0 then _ else if 20 ≤ gI (sI S' 0 0) 10 then _ else (f_X6_add (sI S' 0 0) (nI d)).bind _) = _
          rw [if_neg (by decide), i10, if_neg g20, hadd]
          rfl
        · rw [fS3.1 0 (by decide), gI_sI_s]
        · rw [x2.1 0 (by decide), z0]
        · rw [fS4.2.1 7 (nM 7 (by omega) (by omega))]
        · rw [fT4.2.1 1 (by decide)]
        · rw [fS3.1 8 (by decide), gI_sI_n _ _ (by omega)]
        · rw [fS3.1 9 (by decide), gI_sI_n _ _ (by omega)]
        · rw [x2.1 7 (by decide)]
        · rw [x2.1 8 (by decide)]
        · obtain ⟨⟨q1, q2, q3⟩, q4, q5⟩ := hE
          obtain ⟨_, _, r3, _, r5, v2, r6, r7⟩ := e4
          refine ⟨⟨by omega, x3, fun e he => ?_⟩, ?_, fun e he => ?_⟩
          · rw [x6]
            by_cases y : e = ne
            · subst y
              rw [pk_us]
              refine ⟨⟨d, hd', rfl⟩, fun r hr => ?_, v2, r6, ?_⟩
              · rw [x4 r (by omega), ← r3 r (by omega)]
                exact r5 r hr
              · rw [x4 2 (by omega), ← r3 2 (by omega)]
                exact r7
            · obtain ⟨y1, y2, v, y3, y4⟩ := q3 e (by omega)
              rw [pk_un y, fT'.1.2.1 3 (by decide)]
              refine ⟨y1, fun r hr => ?_, v, y3, ?_⟩
              · rw [x5 _ (by omega), fT'.2 _ (by omega)]
                exact y2 r hr
              · rw [x5 _ (by omega), fT'.2 _ (by omega)]
                exact y4
          · rw [← hS3, gI_sI_s]
          · rw [x6]
            by_cases y : e = ne
            · subst y
              refine ⟨fun r hr => ?_, ?_⟩
              · rw [row, if_neg (by omega), if_pos (by omega), x4 r hr, r3 r hr]
              · rw [row, if_pos rfl, pk_us]
            · obtain ⟨y1, y2⟩ := q5 e (by omega)
              have hm : 25 + e ∉ [8, 25 + ne] := by
                intro h3
                simp only [List.mem_cons, List.mem_nil_iff, List.not_mem_nil, or_false] at h3
                omega
              rw [fS4.2.1 _ hm, pk_un y, fT'.1.2.1 3 (by decide)]
              refine ⟨fun r hr => ?_, y2⟩
              rw [x5 _ (by omega), fT'.2 _ (by omega)]
              exact y1 r hr
        · exact hP.fr fS4 fT4 ⟨by decide, ⟨nM 10 (by omega) (by omega), nM 11 (by omega) (by omega), nM 12 (by omega) (by omega), nM 13 (by omega) (by omega), nM 15 (by omega) (by omega), nM 16 (by omega) (by omega)⟩, by decide⟩
        · exact hN.fr fS4 fT4 ⟨nM 17 (by omega) (by omega), nM 18 (by omega) (by omega), nM 19 (by omega) (by omega), by decide⟩
        · exact hA.fr fS4 fT4 ⟨nM 23 (by omega) (by omega), nM 24 (by omega) (by omega), by decide, by decide⟩
        · exact hC.fr fS4 fT4 ⟨by decide, nM 14 (by omega) (by omega), by decide, by decide⟩
