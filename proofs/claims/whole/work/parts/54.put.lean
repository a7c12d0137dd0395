/-! ===== pure part: whether a lawyer may, in the class; a duty given or taken ===== -/
theorem nI_inj {a b : Nat} (ha : a < 2 ^ 31) (hb : b < 2 ^ 31) (h : nI a = nI b) : a = b := (nI_eq ha hb).mp h
theorem cn_part (T : St) (l : Nat) (a : Int) : ∀ k, cn T l a k ≤ dtn T l (a + k).toNat
  | 0 => by simp [cn, fb_ct]
  | k + 1 => by
    have ih := cn_part T l a k
    rw [cn_succ]
    by_cases h : 0 ≤ a + (k : Int)
    · have e : (a + ((k + 1 : Nat) : Int)).toNat = (a + (k : Int)).toNat + 1 := by omega
      rw [e]
      unfold dtn at ih ⊢
      rw [fb_sm_succ]
      have : (if hs T l (a + (k : Int)) then 1 else 0) ≤ c6 T l (a + (k : Int)).toNat := by
        unfold hs hd
        by_cases z : 0 < c6 T l (a + (k : Int)).toNat
        · split <;> omega
        · simp [z]
      omega
    · have e : hs T l (a + (k : Int)) = false := by
        unfold hs
        rw [decide_eq_false (by omega)]
        rfl
      have e2 : (a + (k : Int)).toNat = 0 := by omega
      have e3 : dtn T l 0 = 0 := rfl
      rw [e2, e3] at ih
      rw [e]
      simp only [Bool.false_eq_true, if_false]
      omega
theorem dtn_mono (T : St) (l : Nat) {a b : Nat} (h : a ≤ b) : dtn T l a ≤ dtn T l b := by
  unfold dtn
  have := fb_sm_mono (c6 T l) a (b - a)
  rw [Nat.add_sub_cancel' h] at this
  exact this
theorem cn_out (T : St) (l : Nat) (a : Int) (ha : 1000 ≤ a) (k : Nat) : cn T l a k = 0 := by
  unfold cn
  rw [fb_ct_zero]
  intro j _
  unfold hs
  rw [decide_eq_false (by omega)]
  rfl
theorem cn_all (T : St) (l : Nat) (a : Int) (k : Nat) : cn T l a k ≤ dtn T l 1000 := by
  rcases Int.lt_or_le 1000 a with ha | ha
  · rw [cn_out T l a (by omega) k]
    exact Nat.zero_le _
  have h : ∀ k, cn T l a k ≤ cn T l a (Nat.min k (1000 - a).toNat) := by
    intro k
    induction k with
    | zero => exact Nat.le_of_eq (by simp)
    | succ k ih =>
      rw [cn_succ]
      rcases Nat.lt_or_ge k (1000 - a).toNat with g | g
      · have e1 : Nat.min (k + 1) (1000 - a).toNat = k + 1 := Nat.min_eq_left (by omega)
        rw [e1, cn_succ]
        omega
      · have e1 : Nat.min (k + 1) (1000 - a).toNat = Nat.min k (1000 - a).toNat := by
          show min _ _ = min _ _
          omega
        have e : hs T l (a + (k : Int)) = false := by
          unfold hs
          rw [decide_eq_false (by omega)]
          rfl
        rw [e1, e]
        simpa using ih
  refine Nat.le_trans (h k) ?_
  refine Nat.le_trans (cn_part T l a _) (dtn_mono T l ?_)
  show (a + ((min k (1000 - a).toNat : Nat) : Int)).toNat ≤ 1000
  omega
theorem dtn_le (T : St) (l D : Nat) : dtn T l D ≤ 6 * D := by
  unfold dtn
  have := fb_sm_bound (f := c6 T l) (c := 6) (n := D) (fun k _ => c6_le T l k)
  omega
theorem keeps_S {S T : St} (hb : ∀ l d, l < 24 → d < 1000 → bt (gM S 18 d) l = hd T l d) (hc : ∀ l, l < 24 → gM S 19 l = nI (dtn T l 1000)) {l d m : Nat} (hl : l < 24) (hd' : d < 1000) (hm : m ≤ 9999) : f_X2_keepsToMost S (nI l) (nI d) (nI m) = some (bI (wnOk T l d m)) := by
  have h6 := dtn_le T l 1000
  simp (disch := omega) only [f_X2_keepsToMost, NL0, NL1, NL2, NL3, NL4, NL5, NL6, NL7, NL8, NL9, q_m1, q_m1', q_m1t, q_m1t', q_m1l, q_m1l', nI_clamp, nI_leI, nI_ltI, nI_eq, nI_add, nI_z, pk_mul, pk_sub, gd_nI, hc l hl]
  by_cases g : m ≤ dtn T l 1000
  · rw [if_pos g]
    have e : nI d - 30 + 1 = iI ((d : Int) - 29) := by
      have e30 : (30 : Int32) = iI 30 := by decide
      have e1 : (1 : Int32) = iI 1 := by decide
      rw [← iI_nat (n := d) (by omega), e30, iI_sub (by omega) (by omega) (by omega) (by omega), e1, iI_add (by omega) (by omega) (by omega) (by omega)]
      exact iC (by omega)
    simp only [bnd]
    rw [e]
    have e2 : f_X2_busyDays S (nI l) (iI ((d : Int) - 29)) (nI d) = some (nI (cn T l ((d : Int) - 29) 30)) := by
      rw [← iI_nat (n := d) (by omega)]
      exact busyDays_S hb hl (by omega) (by omega) (by omega) (by omega)
    rw [e2, Option.bind_some]
    have e3 : (1 : Int32) + nI (cn T l ((d : Int) - 29) 30) = nI (wn T l d 0) := by
      rw [q_add']
      exact kC (by
        unfold wn
        have : (d : Int) - 29 + ((0 : Nat) : Int) = (d : Int) - 29 := by omega
        rw [this])
    rw [e3]
    apply Ok.eq
    refine loop_ok (fun i s => s = (nI (wn T l d i), iI ((d : Int) - 29 + i)) ∧ ∀ j, j < i → wn T l d j ≤ m) 30 _ (by omega) ⟨by simp, fun j hj => by omega⟩ ?_
    rintro i s hi ⟨rfl, hj⟩
    have hw := wn_le T l d i
    rcases Nat.lt_or_ge i 30 with h | h
    · have e4 : ¬ nI d < iI ((d : Int) - 29 + i) := by
        rw [← iI_nat (n := d) (by omega), iI_lt (by omega) (by omega) (by omega) (by omega)]
        omega
      by_cases q : wn T l d i ≤ m
      · have e5 : iI ((d : Int) - 29 + i) + 30 = iI ((d : Int) + i + 1) := by
          have e30 : (30 : Int32) = iI 30 := by decide
          rw [e30, iI_add (by omega) (by omega) (by omega) (by omega)]
          exact iC (by omega)
        have e6 : iI ((d : Int) - 29 + i) + 1 = iI ((d : Int) - 29 + ((i + 1 : Nat) : Int)) := by
          have : (1 : Int32) = iI 1 := by decide
          rw [this, iI_add (by omega) (by omega) (by omega) (by omega)]
          exact iC (by omega)
        refine go (s' := (nI (wn T l d (i + 1)), iI ((d : Int) - 29 + ((i + 1 : Nat) : Int)))) ?_ h ⟨rfl, fun j hj2 => ?_⟩
        · simp only [f_X2_keepsToMost_L36, bnd]
          rw [if_neg e4, if_pos ((nI_leI (by omega) (by omega)).mpr q), e5, busyOn_S hb hl (by omega) (by omega), Option.bind_some, busyOn_S hb hl (by omega) (by omega), Option.bind_some, e6]
          have st := wn_step T l d i
          have ps := wn_pos T l d i
          have e7 : nI (wn T l d i) + (bI (hs T l ((d : Int) + i + 1)) - bI (hs T l ((d : Int) - 29 + i))) = nI (wn T l d (i + 1)) := by
            cases a : hs T l ((d : Int) + i + 1) <;> cases b : hs T l ((d : Int) - 29 + i) <;> rw [a, b] at st <;> rw [b] at ps <;> simp only [Bool.false_eq_true, if_false, if_true] at st ps
            · have : wn T l d (i + 1) = wn T l d i := by omega
              rw [this]
              show nI _ + nI 0 = _
              rw [nI_add]
              rfl
            · have : wn T l d i = wn T l d (i + 1) + 1 := by omega
              rw [this]
              exact pk_m1 _
            · have : wn T l d (i + 1) = wn T l d i + 1 := by omega
              rw [this, nI_succ]
              rfl
            · have : wn T l d (i + 1) = wn T l d i := by omega
              rw [this]
              show nI _ + nI 0 = _
              rw [nI_add]
              rfl
          rw [e7]
        · rcases Nat.lt_or_ge j i with z | z
          · exact hj j z
          · have : j = i := by omega
            subst this
            exact q
      · refine out (r := 0) ?_ ?_
        · simp only [f_X2_keepsToMost_L36]
          rw [if_neg e4, if_neg (fun z => q ((nI_leI (by omega) (by omega)).mp z))]
        · have : wnOk T l d m = false := wnOk_f h q
          rw [this]
          rfl
    · have : i = 30 := by omega
      subst this
      have e4 : nI d < iI ((d : Int) - 29 + ((30 : Nat) : Int)) := by
        rw [← iI_nat (n := d) (by omega), iI_lt (by omega) (by omega) (by omega) (by omega)]
        omega
      refine out (r := 1) ?_ ?_
      · simp only [f_X2_keepsToMost_L36]
        rw [if_pos e4]
      · have : wnOk T l d m = true := wnOk_t hj
        rw [this]
        rfl
  · rw [if_neg g]
    have : wnOk T l d m = true := by
      apply wnOk_t
      intro j _
      have := cn_all T l ((d : Int) - 29 + j) 30
      unfold wn
      omega
    rw [this]
    rfl
theorem isOn_S {nl : Nat} {S T : St} (hP : RP nl S T) {l p : Nat} (hl : l < nl) (hp : p < 32) : f_X3_isOn S (nI l) (nI p) = some (bI (bt (gM T 6 l) p)) := by
  have h24 := hP.1
  have h := hP.2.2.2.1 l hl
  simp (disch := omega) only [f_X3_isOn, NL0, NL1, NL2, NL3, NL4, NL5, NL6, NL7, NL8, NL9, q_m1, q_m1', q_m1t, q_m1t', q_m1l, q_m1l', nI_clamp, nI_leI, nI_ltI, nI_eq, nI_add, nI_z, pk_mul, pk_sub, gd_nI, h.2.2.1, hasBit_eq, Option.bind_some, bI_gz]
theorem struck_S {nl : Nat} {S T : St} (hP : RP nl S T) {l d : Nat} (hl : l < nl) : f_X3_isStruck S (nI l) (nI d) = some (bI (sk T l d)) := by
  have h24 := hP.1
  have h := hP.2.2.2.1 l hl
  simp (disch := omega) only [f_X3_isStruck, NL0, NL1, NL2, NL3, NL4, NL5, NL6, NL7, NL8, NL9, q_m1, q_m1', q_m1t, q_m1t', q_m1l, q_m1l', nI_clamp, nI_leI, nI_ltI, nI_eq, nI_add, nI_z, pk_mul, pk_sub, gd_nI, sk, h.2.2.2.2.1]
  by_cases a : gM T 8 l = -1
  · rw [if_pos a, decide_eq_true a]; rfl
  · rw [if_neg a, decide_eq_false a]
    by_cases b : nI d < gM T 8 l
    · rw [if_pos b, decide_eq_true b]; rfl
    · rw [if_neg b, decide_eq_false b]; rfl
theorem isThere_S {nl : Nat} {S T : St} (hP : RP nl S T) {l d : Nat} (hl : l < nl) (hd' : d < 1000) : f_X3_isThere S (nI l) (nI d) = some (bI (decide (gM T 9 (1000 * l + d) = 0) && !sk T l d)) := by
  have h24 := hP.1
  have h := hP.2.2.2.2.2.1 l d (by omega) hd'
  simp (disch := omega) only [f_X3_isThere, NL0, NL1, NL2, NL3, NL4, NL5, NL6, NL7, NL8, NL9, q_m1, q_m1', q_m1t, q_m1t', q_m1l, q_m1l', nI_clamp, nI_leI, nI_ltI, nI_eq, nI_add, nI_z, pk_mul, pk_sub, gd_nI, hasBit_eq, Option.bind_some, struck_S hP hl]
  rw [h]
  cases bt (gM S 15 d) l <;> cases sk T l d <;> rfl
theorem mayHave_S {ne nl : Nat} {S T : St} (hE : RE ne S T) (hP : RP nl S T) (hN : RN nl S T) {l p d : Nat} (hl : l < nl) (hp : p < 6) (hd' : d < 1000) : f_X2_mayHave S (nI l) (nI p) (nI d) = some (bI (may T ne l p d)) := by
  have h24 := hP.1
  obtain ⟨k, k1, k2, k3⟩ := textNow_S hE (nI d)
  have hr := rsN_eq hE.1 d
  have hm := msN_eq hE.1 d
  simp only [f_X2_mayHave]
  rw [isOn_S hP hl (by omega), Option.bind_some]
  unfold may
  cases bt (gM T 6 l) p
  · rfl
  · rw [bI_t, if_neg (by decide), isThere_S hP hl hd', Option.bind_some]
    cases decide (gM T 9 (1000 * l + d) = 0)
    · rfl
    · cases sk T l d
      · simp only [Bool.not_false, Bool.and_self, bI_t]
        rw [if_neg (by decide), k1, Option.bind_some, gk_p k2]
        simp (disch := omega) only [bnd, NL0, NL1, NL2, NL3, NL4, NL5, NL6, NL7, NL8, NL9, q_m1, q_m1', q_m1t, q_m1t', q_m1l, q_m1l', nI_clamp, nI_leI, nI_ltI, nI_eq, nI_add, nI_z, pk_mul, pk_sub, gd_nI, k3, hr.1, hm.1]
        have e0 : nI d - nI (rsN T ne d) = iI ((d : Int) - rsN T ne d) := by
          rw [← iI_nat (n := d) (by omega), ← iI_nat (n := rsN T ne d) (by omega), iI_sub (by omega) (by omega) (by omega) (by omega)]
        have e9 : nI (d + rsN T ne d) = iI ((d : Int) + rsN T ne d) := by
          rw [← iI_nat (by omega)]
          exact iC (by omega)
        rw [e0, e9, busyDays_S hN.2.2.1 (by omega) (k := 2 * rsN T ne d + 1) (by omega) (by omega) (by omega) (by omega), Option.bind_some]
        have hcl := cn_le T l ((d : Int) - rsN T ne d) (2 * rsN T ne d + 1)
        unfold restOk
        by_cases z : cn T l ((d : Int) - rsN T ne d) (2 * rsN T ne d + 1) = 0
        · rw [z, if_pos nI_0, keeps_S hN.2.2.1 hN.2.2.2 (by omega) hd' hm.2, Option.bind_some]
          cases wnOk T l d (msN T ne d) <;> rfl
        · rw [if_neg (nI_ne0 (by omega) (by omega)), decide_eq_false z]
          rfl
      · rfl
/-! a duty given or taken -/
theorem dt_up (T : St) {p q d e : Nat} (v : Int32) (hd' : d < 1000) (he : e < 1000) : dt (sM T 11 (1000 * p + d) v) q e = if q = p ∧ e = d then v else dt T q e := by
  unfold dt
  rw [gM_sM_s]
  by_cases h : q = p ∧ e = d
  · rw [if_pos h, h.1, h.2, pk_us]
  · rw [if_neg h, pk_un (by omega)]
theorem c6_up (T : St) {p d e l : Nat} (v : Int32) (hp : p < 6) (hd' : d < 1000) (he : e < 1000) : c6 (sM T 11 (1000 * p + d) v) l e + (if e = d ∧ dt T p d = nI l then 1 else 0) = c6 T l e + (if e = d ∧ v = nI l then 1 else 0) := by
  unfold c6
  by_cases h : e = d
  · subst h
    have := fb_ct_upd (fun q => decide (dt T q e = nI l)) (decide (v = nI l)) hp
    have e1 : fb_ct (fun q => decide (dt (sM T 11 (1000 * p + e) v) q e = nI l)) 6 = fb_ct (fun k => if k = p then decide (v = nI l) else decide (dt T k e = nI l)) 6 := by
      apply fb_ct_cong
      intro k _
      rw [dt_up T v hd' he]
      by_cases g : k = p
      · simp [g]
      · simp [g]
    rw [e1]
    simpa using this
  · have e1 : fb_ct (fun q => decide (dt (sM T 11 (1000 * p + d) v) q e = nI l)) 6 = fb_ct (fun k => decide (dt T k e = nI l)) 6 := by
      apply fb_ct_cong
      intro k _
      rw [dt_up T v hd' he, if_neg (fun q => h q.2)]
    rw [e1]
    simp [h]
theorem dtn_up (T : St) {p d l D : Nat} (v : Int32) (hp : p < 6) (hd' : d < 1000) (hD : D ≤ 1000) : dtn (sM T 11 (1000 * p + d) v) l D + (if d < D ∧ dt T p d = nI l then 1 else 0) = dtn T l D + (if d < D ∧ v = nI l then 1 else 0) := by
  unfold dtn
  induction D with
  | zero => simp [fb_sm]
  | succ D ih =>
    have ih := ih (by omega)
    have h := c6_up T (p := p) (d := d) (e := D) (l := l) v hp hd' (by omega)
    rw [fb_sm_succ, fb_sm_succ]
    by_cases a : D = d
    · subst a
      simp only [Nat.lt_irrefl, false_and, if_false, true_and, Nat.lt_succ_self] at h ih ⊢
      omega
    · rcases Nat.lt_or_ge d D with b | b
      · simp only [a, b, false_and, if_false, true_and, Nat.lt_succ_of_lt b] at h ih ⊢
        omega
      · have b1 : ¬ d < D := by omega
        have b2 : ¬ d < D + 1 := by omega
        simp only [a, b1, b2, false_and, if_false] at h ih ⊢
        omega
/-- all but the class's nights is the same -/
def SameN (S S' : St) : Prop := S'.1 = S.1 ∧ (∀ k, k ≠ 17 → k ≠ 18 → k ≠ 19 → gM S' k = gM S k) ∧ S'.2.2 = S.2.2
theorem SameN.rf (S : St) : SameN S S := ⟨rfl, fun _ _ _ _ => rfl, rfl⟩
theorem SameN.tr {S S' S'' : St} (h : SameN S S') (g : SameN S' S'') : SameN S S'' := ⟨g.1.trans h.1, fun k h1 h2 h3 => (g.2.1 k h1 h2 h3).trans (h.2.1 k h1 h2 h3), g.2.2.trans h.2.2⟩
theorem SameN.sM17 {S : St} {j : Nat} {v : Int32} : SameN S (sM S 17 j v) := ⟨rfl, fun k h _ _ => gM_sM_n S j v h, rfl⟩
theorem SameN.sM18 {S : St} {j : Nat} {v : Int32} : SameN S (sM S 18 j v) := ⟨rfl, fun k _ h _ => gM_sM_n S j v h, rfl⟩
theorem SameN.sM19 {S : St} {j : Nat} {v : Int32} : SameN S (sM S 19 j v) := ⟨rfl, fun k _ _ h => gM_sM_n S j v h, rfl⟩
theorem SameN.gI {S S' : St} (h : SameN S S') (k : Nat) : gI S' k = gI S k := congrFun h.1 k
theorem SameN.nC {S S' : St} (h : SameN S S') : nC S' = nC S := congrArg (fun x => x.2.1) h.2.2
theorem SameN.gC {S S' : St} (h : SameN S S') (i f : Nat) : gC S' i f = gC S i f := congrFun (congrFun (congrArg (fun x => x.2.2) h.2.2) i) f
theorem SameN.gJ {S S' : St} (h : SameN S S') : gJ S' = gJ S := congrArg (fun x => x.1) h.2.2
theorem SameN.e {ne : Nat} {S S' T : St} (h : SameN S S') (hE : RE ne S T) : RE ne S' T := by
  obtain ⟨h1, h2, h3⟩ := hE
  refine ⟨h1, by rw [h.gI]; exact h2, fun e he => ?_⟩
  have := h1.1
  rw [h.2.1 (25 + e) (by omega) (by omega) (by omega)]
  exact h3 e he
theorem SameN.p {nl : Nat} {S S' T : St} (h : SameN S S') (hP : RP nl S T) : RP nl S' T := by
  unfold RP at hP ⊢
  rw [h.gI, h.2.1 10 (by omega) (by omega) (by omega), h.2.1 11 (by omega) (by omega) (by omega), h.2.1 12 (by omega) (by omega) (by omega), h.2.1 13 (by omega) (by omega) (by omega), h.2.1 15 (by omega) (by omega) (by omega), h.2.1 16 (by omega) (by omega) (by omega)]
  exact hP
/-- what speaks of neither side's duties -/
theorem RG.d {ne : Nat} {T : St} {j : Nat} {v : Int32} (h : RG ne T) : RG ne (sM T 11 j v) := h
theorem RE.d {ne : Nat} {S T : St} {j : Nat} {v : Int32} (h : RE ne S T) : RE ne S (sM T 11 j v) := h
theorem RP.d {nl : Nat} {S T : St} {j : Nat} {v : Int32} (h : RP nl S T) : RP nl S (sM T 11 j v) := h
theorem holder_S {nl : Nat} {S T : St} (hN : RN nl S T) {p d : Nat} (hp : p < 6) (hd' : d < 1000) : f_X2_holder S (nI p) (nI d) = some (dt T p d) := by
  have h := hN.2.1 p d hp hd'
  unfold fld at h
  simp (disch := omega) only [f_X2_holder, gd_nI, nI_clamp]
  rw [h]
  exact congrArg some (Int32.add_sub_cancel _ _)
theorem hd_up {nl : Nat} {T : St} {p d e l : Nat} (v : Int32) (hD : RD nl T) (hp : p < 6) (hd' : d < 1000) (he : e < 1000) (hl : l < 24) : hd (sM T 11 (1000 * p + d) v) l e = if e = d then (decide (v = nI l) || (hd T l d && !decide (dt T p d = nI l))) else hd T l e := by
  by_cases h : e = d
  · subst h
    rw [if_pos rfl, Bool.eq_iff_iff, hd_iff]
    simp only [Bool.or_eq_true, Bool.and_eq_true, Bool.not_eq_true', decide_eq_true_eq, decide_eq_false_iff_not, hd_iff]
    constructor
    · rintro ⟨q, hq, h⟩
      rw [dt_up T v hd' he] at h
      by_cases g : q = p ∧ e = e
      · rw [if_pos g] at h
        exact Or.inl h
      · rw [if_neg g] at h
        exact Or.inr ⟨⟨q, hq, h⟩, fun z => g ⟨hD.2 q p e l hq hp he hl h z, rfl⟩⟩
    · rintro (h | ⟨⟨q, hq, h⟩, g⟩)
      · exact ⟨p, hp, by rw [dt_up T v hd' he, if_pos ⟨rfl, rfl⟩]; exact h⟩
      · refine ⟨q, hq, ?_⟩
        rw [dt_up T v hd' he, if_neg (fun z => g (by rw [← z.1]; exact h))]
        exact h
  · rw [if_neg h, Bool.eq_iff_iff, hd_iff, hd_iff]
    constructor
    · rintro ⟨q, hq, g⟩
      rw [dt_up T v hd' he, if_neg (fun z => h z.2)] at g
      exact ⟨q, hq, g⟩
    · rintro ⟨q, hq, g⟩
      refine ⟨q, hq, ?_⟩
      rw [dt_up T v hd' he, if_neg (fun z => h z.2)]
      exact g
theorem RD_up {nl : Nat} {T : St} {p d : Nat} {v : Int32} (hD : RD nl T) (h24 : nl ≤ 24) (hp : p < 6) (hd' : d < 1000) (hv : v = -1 ∨ ∃ l, l < nl ∧ v = nI l ∧ ∀ q, q < 6 → q ≠ p → dt T q d ≠ nI l) : RD nl (sM T 11 (1000 * p + d) v) := by
  refine ⟨fun q e hq he => ?_, fun q r e l hq hr he hl h1 h2 => ?_⟩
  · rw [dt_up T v hd' he]
    by_cases h : q = p ∧ e = d
    · rw [if_pos h]
      rcases hv with hv | ⟨l, h1, h2, _⟩
      · exact Or.inl hv
      · exact Or.inr ⟨l, h1, h2⟩
    · rw [if_neg h]
      exact hD.1 q e hq he
  · rw [dt_up T v hd' he] at h1 h2
    by_cases a : q = p ∧ e = d
    · by_cases b : r = p ∧ e = d
      · omega
      · rw [if_pos a] at h1
        rw [if_neg b] at h2
        rcases hv with hv | ⟨l', g1, g2, g3⟩
        · rw [hv] at h1
          exact absurd h1 (by simp (disch := omega) only [NL0, NL1, NL2, NL3, NL4, NL5, NL6, NL7, NL8, NL9, q_m1, q_m1', q_m1t, q_m1t', q_m1l, q_m1l', nI_clamp, nI_leI, nI_ltI, nI_eq, nI_add, nI_z, pk_mul, pk_sub, gd_nI, not_false_eq_true])
        · have : l' = l := nI_inj (by omega) (by omega) (g2.symm.trans h1)
          subst this
          rw [a.2] at h2
          exact absurd h2 (g3 r hr (fun z => b ⟨z, a.2⟩))
    · rw [if_neg a] at h1
      by_cases b : r = p ∧ e = d
      · rw [if_pos b] at h2
        rcases hv with hv | ⟨l', g1, g2, g3⟩
        · rw [hv] at h2
          exact absurd h2 (by simp (disch := omega) only [NL0, NL1, NL2, NL3, NL4, NL5, NL6, NL7, NL8, NL9, q_m1, q_m1', q_m1t, q_m1t', q_m1l, q_m1l', nI_clamp, nI_leI, nI_ltI, nI_eq, nI_add, nI_z, pk_mul, pk_sub, gd_nI, not_false_eq_true])
        · have : l' = l := nI_inj (by omega) (by omega) (g2.symm.trans h2)
          subst this
          rw [b.2] at h1
          exact absurd h1 (g3 q hq (fun z => a ⟨z, b.2⟩))
      · rw [if_neg b] at h2
        exact hD.2 q r e l hq hr he hl h1 h2
/-- the last half of put -/
theorem put_J {S : St} {p d : Nat} {v : Int32} (hp : p < 6) (hd' : d < 1000) (hv : v = -1 ∨ ∃ l, l < 24 ∧ v = nI l)
    (F : Nat → Nat → Int32) (B : Nat → Nat → Bool) (C : Nat → Nat)
    (hF : ∀ q e, q < 6 → e < 1000 → fld (gM S 17 e) q = F q e) (hB : ∀ l e, l < 24 → e < 1000 → bt (gM S 18 e) l = B l e) (hC : ∀ l, l < 24 → gM S 19 l = nI (C l)) :
    Ok (f_X2_put_J40 (nI p) (nI d) v S) (fun S' => SameN S S' ∧ (∀ q e, q < 6 → e < 1000 → fld (gM S' 17 e) q = if q = p ∧ e = d then v + 1 else F q e) ∧ (∀ l e, l < 24 → e < 1000 → bt (gM S' 18 e) l = if e = d then (decide (v = nI l) || B l d) else B l e) ∧ (∀ l, l < 24 → gM S' 19 l = nI (C l + if v = nI l then 1 else 0))) := by
  have hb5 : ∀ i, 5 ≤ i → bt (v + 1) i = false := by
    rcases hv with rfl | ⟨l, hl, rfl⟩
    · intro i hi
      exact small_bt 0 (by omega) i hi
    · intro i hi
      rw [nI_1]
      exact small_bt (l + 1) (by omega) i hi
  have hfl : ∀ (S0 : St) q e, q < 6 → e < 1000 → fld (gM S0 17 e) q = F q e → fld (upd (gM S0 17) d ((gM S0 17 d &&& (((31 : Int32) <<< ((nI p * 5) &&& 31)) ^^^ (-1))) ||| ((v + 1) <<< ((nI p * 5) &&& 31))) e) q = if q = p ∧ e = d then v + 1 else F q e := by
    intro S0 q e hq he h
    by_cases a : e = d
    · subst a
      rw [pk_us, fld_put _ _ hp hq hb5]
      by_cases b : q = p
      · rw [if_pos b, if_pos ⟨b, rfl⟩]
      · rw [if_neg b, if_neg (fun z => b z.1)]
        exact h
    · rw [pk_un a, if_neg (fun z => a z.2)]
      exact h
  simp (disch := omega) only [f_X2_put_J40, bnd, gd_nI, nI_clamp]
  rcases hv with rfl | ⟨l, hl, rfl⟩
  · rw [if_pos rfl]
    refine Ok.sm ⟨SameN.sM17, fun q e hq he => ?_, fun l e hl he => ?_, fun l hl => ?_⟩
    · rw [gM_sM_s]
      exact hfl S q e hq he (hF q e hq he)
    · rw [gM_sM_n S _ _ (by omega), hB l e hl he]
      have : decide ((-1 : Int32) = nI l) = false := by simp (disch := omega) only [NL0, NL1, NL2, NL3, NL4, NL5, NL6, NL7, NL8, NL9, q_m1, q_m1', q_m1t, q_m1t', q_m1l, q_m1l', nI_clamp, nI_leI, nI_ltI, nI_eq, nI_add, nI_z, pk_mul, pk_sub, gd_nI, decide_false]
      rw [this]
      by_cases a : e = d
      · rw [if_pos a, a]; rfl
      · rw [if_neg a]
    · have : ¬ (-1 : Int32) = nI l := by simp (disch := omega) only [NL0, NL1, NL2, NL3, NL4, NL5, NL6, NL7, NL8, NL9, q_m1, q_m1', q_m1t, q_m1t', q_m1l, q_m1l', nI_clamp, nI_leI, nI_ltI, nI_eq, nI_add, nI_z, pk_mul, pk_sub, gd_nI, not_false_eq_true]
      rw [gM_sM_n S _ _ (by omega), hC l hl, if_neg this]
      rfl
  · have : ¬ nI l = -1 := by simp (disch := omega) only [NL0, NL1, NL2, NL3, NL4, NL5, NL6, NL7, NL8, NL9, q_m1, q_m1', q_m1t, q_m1t', q_m1l, q_m1l', nI_clamp, nI_leI, nI_ltI, nI_eq, nI_add, nI_z, pk_mul, pk_sub, gd_nI, not_false_eq_true]
    rw [if_neg this]
    simp (disch := omega) only [gd_nI, nI_clamp]
    refine Ok.sm ⟨(SameN.sM17.tr SameN.sM18).tr SameN.sM19, fun q e hq he => ?_, fun l' e hl' he => ?_, fun l' hl' => ?_⟩
    · rw [gM_sM_n _ _ _ (by omega), gM_sM_n _ _ _ (by omega), gM_sM_s]
      exact hfl S q e hq he (hF q e hq he)
    · rw [gM_sM_n _ _ _ (by omega), gM_sM_s, gM_sM_n _ _ _ (by omega)]
      by_cases a : e = d
      · rw [if_pos a, a, pk_us, bt_set _ (by omega) (by omega), hB l' d hl' hd']
        have : decide (nI l = nI l') = decide (l' = l) := by
          simp (disch := omega) only [nI_eq]
          exact decide_eq_decide.mpr ⟨fun z => z.symm, fun z => z.symm⟩
        rw [this, Bool.or_comm]
      · rw [if_neg a, pk_un a]
        exact hB l' e hl' he
    · rw [gM_sM_s, gM_sM_n _ _ _ (by omega), gM_sM_n _ _ _ (by omega)]
      by_cases a : l' = l
      · subst a
        rw [pk_us, hC l' hl', if_pos rfl, nI_1]
      · have : ¬ nI l = nI l' := fun z => a (nI_inj (by omega) (by omega) z).symm
        rw [pk_un a, hC l' hl', if_neg this]
        rfl
theorem put_S {nl : Nat} {S T : St} (hN : RN nl S T) (h24 : nl ≤ 24) {p d : Nat} {v : Int32} (hp : p < 6) (hd' : d < 1000) (hv : v = -1 ∨ ∃ l, l < nl ∧ v = nI l ∧ ∀ q, q < 6 → q ≠ p → dt T q d ≠ nI l) :
    Ok (f_X2_put S (nI p) (nI d) v) (fun S' => RN nl S' (sM T 11 (1000 * p + d) v) ∧ SameN S S') := by
  have hv2 : v = -1 ∨ ∃ l, l < 24 ∧ v = nI l := by
    rcases hv with h | ⟨l, h1, h2, _⟩
    · exact Or.inl h
    · exact Or.inr ⟨l, by omega, h2⟩
  have hD' := RD_up hN.1 h24 hp hd' hv
  have fin : ∀ (S0 : St) (C : Nat → Nat), SameN S S0 → (∀ q e, q < 6 → e < 1000 → fld (gM S0 17 e) q = dt T q e + 1) → (∀ l e, l < 24 → e < 1000 → bt (gM S0 18 e) l = if e = d then (hd T l d && !decide (dt T p d = nI l)) else hd T l e) → (∀ l, l < 24 → gM S0 19 l = nI (C l)) → (∀ l, l < 24 → C l + (if dt T p d = nI l then 1 else 0) = dtn T l 1000) → Ok (f_X2_put_J40 (nI p) (nI d) v S0) (fun S' => RN nl S' (sM T 11 (1000 * p + d) v) ∧ SameN S S') := by
    intro S0 C hs0 h1 h2 h3 h4
    refine (put_J hp hd' hv2 (fun q e => dt T q e + 1) (fun l e => if e = d then (hd T l d && !decide (dt T p d = nI l)) else hd T l e) C h1 h2 h3).imp ?_
    rintro S' ⟨g1, g2, g3, g4⟩
    refine ⟨⟨hD', fun q e hq he => ?_, fun l e hl he => ?_, fun l hl => ?_⟩, hs0.tr g1⟩
    · rw [g2 q e hq he, dt_up T v hd' he]
      split <;> rfl
    · rw [g3 l e hl he, hd_up v hN.1 hp hd' he hl]
      by_cases a : e = d
      · rw [if_pos a, if_pos a, if_pos rfl]
      · rw [if_neg a, if_neg a, if_neg a]
    · rw [g4 l hl]
      have u := dtn_up T (p := p) (d := d) (l := l) (D := 1000) v hp hd' (by omega)
      have w := h4 l hl
      simp only [hd', true_and] at u
      exact kC (by omega)
  simp only [f_X2_put]
  rw [holder_S hN hp hd', Option.bind_some]
  rcases hN.1.1 p d hp hd' with h | ⟨b, hb, h⟩
  · rw [h, if_pos rfl]
    have hno : ∀ l, l < 24 → ¬ dt T p d = nI l := by
      intro l hl
      rw [h]
      simp (disch := omega) only [NL0, NL1, NL2, NL3, NL4, NL5, NL6, NL7, NL8, NL9, q_m1, q_m1', q_m1t, q_m1t', q_m1l, q_m1l', nI_clamp, nI_leI, nI_ltI, nI_eq, nI_add, nI_z, pk_mul, pk_sub, gd_nI, not_false_eq_true]
    refine fin S (fun l => dtn T l 1000) (SameN.rf S) hN.2.1 (fun l e hl he => ?_) hN.2.2.2 (fun l hl => ?_)
    · rw [hN.2.2.1 l e hl he]
      by_cases a : e = d
      · rw [if_pos a, a, decide_eq_false (hno l hl)]
        simp
      · rw [if_neg a]
    · rw [if_neg (hno l hl)]
      exact Nat.add_zero _
  · have hm1 : ¬ nI b = -1 := by simp (disch := omega) only [NL0, NL1, NL2, NL3, NL4, NL5, NL6, NL7, NL8, NL9, q_m1, q_m1', q_m1t, q_m1t', q_m1l, q_m1l', nI_clamp, nI_leI, nI_ltI, nI_eq, nI_add, nI_z, pk_mul, pk_sub, gd_nI, not_false_eq_true]
    have hc6 : 0 < dtn T b 1000 := by
      have h1 : 0 < c6 T b d := by
        unfold c6
        rw [fb_ct_pos]
        exact ⟨p, hp, by simpa using h⟩
      have := fb_sm_part (c6 T b) hd'
      unfold dtn
      omega
    rw [h, if_neg hm1]
    simp (disch := omega) only [gd_nI, nI_clamp, bnd]
    refine fin _ (fun l => if l = b then dtn T b 1000 - 1 else dtn T l 1000) (SameN.sM18.tr SameN.sM19) (fun q e hq he => ?_) (fun l e hl he => ?_) (fun l hl => ?_) (fun l hl => ?_)
    · rw [gM_sM_n _ _ _ (by omega), gM_sM_n _ _ _ (by omega)]
      exact hN.2.1 q e hq he
    · rw [gM_sM_n _ _ _ (by omega), gM_sM_s]
      by_cases a : e = d
      · rw [if_pos a, a, pk_us, bt_clear _ (by omega) (by omega), hN.2.2.1 l d hl hd']
        have : decide (nI b = nI l) = decide (l = b) := by
          simp (disch := omega) only [nI_eq]
          exact decide_eq_decide.mpr ⟨fun z => z.symm, fun z => z.symm⟩
        rw [h, this]
      · rw [if_neg a, pk_un a]
        exact hN.2.2.1 l e hl he
    · rw [gM_sM_s, gM_sM_n _ _ _ (by omega)]
      by_cases a : l = b
      · subst a
        rw [pk_us, if_pos rfl, hN.2.2.2 l hl]
        obtain ⟨c, hc⟩ : ∃ c, dtn T l 1000 = c + 1 := ⟨dtn T l 1000 - 1, by omega⟩
        rw [hc, nI_pred]
        rfl
      · rw [pk_un a, if_neg a]
        exact hN.2.2.2 l hl
    · by_cases a : l = b
      · subst a
        rw [if_pos rfl, if_pos h]
        omega
      · have : ¬ nI b = nI l := fun z => a (nI_inj (by omega) (by omega) z).symm
        rw [if_neg a, h, if_neg this]
        exact Nat.add_zero _
