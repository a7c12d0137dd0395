/-! ===== pure part: plans: the reference's search ===== -/
theorem may_own2 {T T' : St} {ne l p d : Nat} (hg : ∀ k ∈ [2, 3, 6, 8, 9], gM T k = gM T' k) (hh : ∀ e, e < 1000 → hd T l e = hd T' l e) : may T ne l p d = may T' ne l p d := by
  have hz : ∀ z, hs T l z = hs T' l z := by
    intro z
    unfold hs
    by_cases a : 0 ≤ z ∧ z < 1000
    · rw [decide_eq_true a, hh z.toNat (by omega)]
    · rw [decide_eq_false a]
      rfl
  have hc : ∀ a k, cn T l a k = cn T' l a k := by
    intro a k
    unfold cn
    apply fb_ct_cong
    intro j _
    exact hz _
  have hnw : ∀ x r, nw T x ne r = nw T' x ne r := by
    intro x r
    unfold nw rl
    rw [hg 3 (by decide), hg 2 (by decide)]
  unfold may restOk wnOk wn sk rsN msN
  rw [hg 6 (by decide), hg 9 (by decide), hg 8 (by decide)]
  simp only [hnw, hc]
theorem md_t : ∀ s, s < 16 → ∀ j, j < 5 → s % 2 ^ j < 16 ∧ ∀ i, i < 4 → (s % 2 ^ j).testBit i = (decide (i < j) && s.testBit i) := by decide +kernel
theorem ms_mod {w v : Nat → Nat} {j k : Nat} (hj : j < 5) (h : ∀ i, i < j → w i = v i) : ms w k % 2 ^ j = ms v k % 2 ^ j := by
  obtain ⟨a1, a2⟩ := md_t _ (ms_lt w k) j hj
  obtain ⟨b1, b2⟩ := md_t _ (ms_lt v k) j hj
  apply ext4 a1 b1
  intro i hi
  rw [a2 i hi, b2 i hi, ms_bit w k hi, ms_bit v k hi]
  by_cases q : i < j
  · rw [h i q]
  · simp [q]
/-- a digit as the reference writes it -/
def dg (x : Nat) : Int32 := if x = 24 then -1 else nI x
/-- how the reference stands with the first i nights given by w -/
def XS (T0 : St) (p d nl i : Nat) (w : Nat → Nat) (X : St) : Prop := Fr [11, 12] [11, 12, 13, 14] T0 X ∧ (∀ q e, q < 6 → e < 1000 → dt X q e = if q = p ∧ d ≤ e ∧ e < d + i ∧ w (e - d) < nl then nI (w (e - d)) else dt T0 q e) ∧ (∀ l, l < nl → gM X 14 l = nI (dtn T0 l 1000 + cw w i l)) ∧ (∀ j, j < i → gM X 12 j = dg (w j))
/-- the best so far -/
abbrev Rc : Type := Nat × Nat × (Nat → Int32)
def HasR (n : Nat) (X : St) (R : Rc) : Prop := gI X 11 = nI R.1 ∧ gI X 12 = nI R.2.1 ∧ (∀ j, j < n → gM X 13 j = R.2.2 j) ∧ R.1 ≤ 4 ∧ R.2.1 < 2147483648
def recO (h : Nat → Nat) (n nl s0 : Nat) (v : Nat → Nat) : Rc := (cw v n 24, s0 + sqA h nl v n, fun j => dg (v j))
/-- the best so far, once the rows in P are looked at -/
def Tr (h : Nat → Nat) (n nl s0 : Nat) (P : (Nat → Nat) → Prop) (R R' : Rc) : Prop :=
  (R' = R ∧ ∀ v, P v → ¬ bet h n nl s0 v R.1 R.2.1) ∨ (∃ v, P v ∧ R' = recO h n nl s0 v ∧ bet h n nl s0 v R.1 R.2.1 ∧ ∀ u, P u → rcod h n nl v ≤ rcod h n nl u)
theorem Tr.none {h : Nat → Nat} {n nl s0 : Nat} {P : (Nat → Nat) → Prop} {R : Rc} (hP : ∀ v, P v → ¬ bet h n nl s0 v R.1 R.2.1) : Tr h n nl s0 P R R := Or.inl ⟨rfl, hP⟩
theorem comb_ar {cv sv rv cu su ru cx sx rx : Nat} (bv : sv ≤ 48016 ∧ rv < 1048576) (bu : su ≤ 48016 ∧ ru < 1048576) (bx : sx ≤ 48016 ∧ rx < 1048576) (c : cv * 17592186044416 + sv * 1048576 + rv ≤ cx * 17592186044416 + sx * 1048576 + rx) (u3 : cu < cv ∨ (cu = cv ∧ su < sv)) : cu * 17592186044416 + su * 1048576 + ru ≤ cx * 17592186044416 + sx * 1048576 + rx := by
  obtain ⟨b1, b2⟩ := bv
  obtain ⟨b3, b4⟩ := bu
  refine Nat.le_trans ?_ c
  clear c bx
  rcases u3 with y | ⟨y, y2⟩
  · omega
  · subst y
    omega
theorem Tr.comb {m : Nat → Nat → Nat → Bool} {h : Nat → Nat} {n nl s0 : Nat} {P Q P' : (Nat → Nat) → Prop} {R R1 R2 : Rc} (hn : n ≤ 4) (h24 : nl ≤ 24) (hh : ∀ k, k < nl → h k ≤ 6000)
    (hP : ∀ v, P v → FRow m n nl v) (hQ : ∀ v, Q v → FRow m n nl v) (hPQ : ∀ v u, P v → Q u → rc v n < rc u n) (h1 : Tr h n nl s0 P R R1) (h2 : Tr h n nl s0 Q R1 R2) (hU : ∀ v, P' v ↔ P v ∨ Q v) : Tr h n nl s0 P' R R2 := by
  have bd : ∀ v, FRow m n nl v → sqA h nl v n ≤ 48016 ∧ rc v n < 1048576 ∧ cw v n 24 ≤ 4 := fun v hv => code_lt hn h24 hh hv
  rcases h1 with ⟨rfl, a1⟩ | ⟨v, v1, rfl, v3, v4⟩
  · rcases h2 with ⟨rfl, b1⟩ | ⟨u, u1, rfl, u3, u4⟩
    · refine Or.inl ⟨rfl, fun x hx => ?_⟩
      rcases (hU x).mp hx with z | z
      · exact a1 x z
      · exact b1 x z
    · refine Or.inr ⟨u, (hU u).mpr (Or.inr u1), rfl, u3, fun x hx => ?_⟩
      rcases (hU x).mp hx with z | z
      · have c := a1 x z
        have b1 := bd x (hP x z)
        have b2 := bd u (hQ u u1)
        unfold bet at c u3
        unfold rcod
        omega
      · exact u4 x z
  · have bv := bd v (hP v v1)
    rcases h2 with ⟨rfl, b1⟩ | ⟨u, u1, rfl, u3, u4⟩
    · refine Or.inr ⟨v, (hU v).mpr (Or.inl v1), rfl, v3, fun x hx => ?_⟩
      rcases (hU x).mp hx with z | z
      · exact v4 x z
      · have c := b1 x z
        have b2 := bd x (hQ x z)
        have b3 := hPQ v x v1 z
        unfold bet recO at c
        simp only at c
        unfold rcod
        omega
    · have bu := bd u (hQ u u1)
      unfold recO at u3
      simp only at u3
      refine Or.inr ⟨u, (hU u).mpr (Or.inr u1), rfl, ?_, fun x hx => ?_⟩
      · unfold bet at u3 v3 ⊢
        omega
      · rcases (hU x).mp hx with z | z
        · have c := v4 x z
          have b2 := bd x (hP x z)
          unfold bet at u3
          unfold rcod at c ⊢
          exact comb_ar ⟨bv.1, bv.2.1⟩ ⟨bu.1, bu.2.1⟩ ⟨b2.1, b2.2.1⟩ c (u3.imp (fun y => y) (fun y => ⟨y.1, by omega⟩))
        · exact u4 x z
theorem floor_T {X : St} {nl mm : Nat} {f : Nat → Nat} (h24 : nl ≤ 24) (hL : gI X 10 = nI nl) (hf : ∀ l, l < nl → gM X 14 l = nI (f l) ∧ f l ≤ 10000) (hm : mm ≤ 4) : ∃ lo, lo ≤ 1000000 ∧ (∀ l, l < nl → lo ≤ f l) ∧ f_X8_floor X (nI mm) 0 = some (nI (if mm = 0 ∨ nl = 0 then 0 else mm * (2 * lo + 1))) := by
  have key : Ok (f_X8_floor X (nI mm) 0) (fun r => ∃ lo, lo ≤ 1000000 ∧ (∀ l, l < nl → lo ≤ f l) ∧ r = nI (if mm = 0 ∨ nl = 0 then 0 else mm * (2 * lo + 1))) := by
    unfold f_X8_floor
    refine loop_ok (fun j t => ∃ lo, t = (nI lo, nI j) ∧ lo ≤ 1000000 ∧ ∀ l, l < j → lo ≤ f l) nl _ (by omega) ⟨1000000, rfl, Nat.le_refl _, fun l hl => by omega⟩ ?_
    rintro j t hj ⟨lo, rfl, g1, g2⟩
    rcases Nat.lt_or_ge j nl with q | q
    · obtain ⟨f1, f2⟩ := hf j q
      by_cases z : lo ≤ f j
      · refine go (s' := (nI lo, nI (j + 1))) ?_ q ⟨lo, rfl, g1, fun l hl => ?_⟩
        · simp (disch := omega) only [f_X8_floor_L6, hL, nI_leI, gd_nI, nI_clamp, f1, bnd, nI_1]
          rw [if_neg (by omega), if_pos z]
        · by_cases y : l = j
          · rw [y]; exact z
          · exact g2 l (by omega)
      · refine go (s' := (nI (f j), nI (j + 1))) ?_ q ⟨f j, rfl, by omega, fun l hl => ?_⟩
        · simp (disch := omega) only [f_X8_floor_L6, hL, nI_leI, gd_nI, nI_clamp, f1, bnd, nI_1]
          rw [if_neg (by omega), if_neg z]
        · by_cases y : l = j
          · rw [y]; exact Nat.le_refl _
          · have := g2 l (by omega)
            omega
    · have : j = nl := by omega
      subst this
      have hz : nI mm - 0 = nI mm := by
        have := pk_sub (a := mm) (b := 0) (by omega)
        exact this
      refine out (r := nI (if mm = 0 ∨ j = 0 then 0 else mm * (2 * lo + 1))) ?_ ⟨lo, g1, g2, rfl⟩
      simp only [f_X8_floor_L6, hL, bnd, hz]
      rw [if_pos (nI_le (Nat.le_refl _) (by omega))]
      by_cases a : mm = 0
      · rw [if_pos (Or.inl a), a, if_pos (by decide)]
        rfl
      · rw [if_neg (nI_nle (by omega) (by omega))]
        by_cases b : j = 0
        · rw [if_pos (Or.inr b), b, if_pos nI_0]
          rfl
        · rw [if_neg (nI_ne0 (by omega) (by omega)), if_neg (by omega), q_mul, nI_1, pk_mul]
  obtain ⟨r, e, lo, h1, h2, h3⟩ := key
  exact ⟨lo, h1, h2, by rw [e, h3]⟩
/-- whole rows that go on from w's first i nights -/
def Cmp (m : Nat → Nat → Nat → Bool) (n nl i : Nat) (w v : Nat → Nat) : Prop := (∀ j, j < i → v j = w j) ∧ FRow m n nl v
def PV (m : Nat → Nat → Nat → Bool) (nl i : Nat) (w : Nat → Nat) : Prop := ∀ j, j < i → w j = 24 ∨ (w j < nl ∧ m (w j) (ms w (w j) % 2 ^ j) j = true)
def setw (w : Nat → Nat) (i x : Nat) : Nat → Nat := fun j => if j = i then x else w j
theorem setw_s (w : Nat → Nat) (i x : Nat) : setw w i x i = x := if_pos rfl
theorem setw_n (w : Nat → Nat) {i x j : Nat} (h : j ≠ i) : setw w i x j = w j := if_neg h
theorem PV.up {m : Nat → Nat → Nat → Bool} {nl i : Nat} {w : Nat → Nat} {x : Nat} (h : PV m nl i w) (hi : i < 4) (hx : x = 24 ∨ (x < nl ∧ m x (ms w x % 2 ^ i) i = true)) : PV m nl (i + 1) (setw w i x) := by
  intro j hj
  by_cases q : j = i
  · subst q
    rw [setw_s]
    have e : ms (setw w j x) x % 2 ^ j = ms w x % 2 ^ j := ms_mod (by omega) (fun i' hi' => setw_n w (by omega))
    rw [e]
    exact hx
  · rw [setw_n w q]
    have e : ms (setw w i x) (w j) % 2 ^ j = ms w (w j) % 2 ^ j := ms_mod (by omega) (fun i' hi' => setw_n w (by omega))
    rw [e]
    exact h j (by omega)
theorem may_X {T0 X : St} {ne nl p d n i l : Nat} {w : Nat → Nat} (hX : XS T0 p d nl i w X) (hin : i < n) (hn : n ≤ 4) (hdn : d + n ≤ 1000) (h24 : nl ≤ 24) (hcl : ∀ j, j < n → dt T0 p (d + j) = -1) (hp : p < 6) (hl : l < nl) : may X ne l p (d + i) = my T0 ne p d l (ms w l % 2 ^ i) i := by
  obtain ⟨m1, m2⟩ := md_t _ (ms_lt w l) i (by omega)
  have hb : ∀ j, j < 4 → (ms w l % 2 ^ i).testBit j = true → d + j < 1000 := by
    intro j hj h
    rw [m2 j hj, Bool.and_eq_true, decide_eq_true_iff] at h
    omega
  unfold my
  have hG := giv_same T0 p d (ms w l % 2 ^ i) (nI l) 4
  refine may_own2 (fun k hk => ?_) (fun e he => ?_)
  · have h1 : k ∉ [11, 12, 13, 14] := by
      intro z
      simp only [List.mem_cons, List.not_mem_nil, or_false] at hk z
      omega
    rw [hX.1.2.1 k h1, hG.2.1 k (by
      intro z
      rw [z] at h1
      exact h1 (by decide))]
  · have key : ∀ q, q < 6 → (dt X q e = nI l ↔ dt (giv T0 p d (ms w l % 2 ^ i) (nI l) 4) q e = nI l) := by
      intro q hq
      rw [hX.2.1 q e hq he, giv_dt he 4 hb]
      by_cases a : q = p ∧ d ≤ e ∧ e < d + i
      · have hj : e - d < i := by omega
        have hbit : (ms w l % 2 ^ i).testBit (e - d) = decide (w (e - d) = l) := by
          rw [m2 _ (by omega), decide_eq_true hj, ms_bit _ _ (by omega)]
          rfl
        have hc : dt T0 q e = -1 := by
          have := hcl (e - d) (by omega)
          rw [Nat.add_sub_cancel' a.2.1] at this
          rw [a.1]
          exact this
        have hm1 : ¬ (-1 : Int32) = nI l := by simp (disch := omega) only [q_m1', not_false_eq_true]
        by_cases b : w (e - d) = l
        · rw [if_pos ⟨a.1, a.2.1, a.2.2, by omega⟩, if_pos ⟨a.1, a.2.1, by omega, by rw [hbit, decide_eq_true b]⟩, b]
        · rw [if_neg (c := q = p ∧ d ≤ e ∧ e < d + 4 ∧ (ms w l % 2 ^ i).testBit (e - d) = true) (by
            intro z
            rw [hbit, decide_eq_true_iff] at z
            exact b z.2.2.2), hc]
          by_cases c : w (e - d) < nl
          · rw [if_pos ⟨a.1, a.2.1, a.2.2, c⟩]
            constructor
            · intro z
              exact absurd (nI_inj (by omega) (by omega) z) b
            · intro z
              exact absurd z hm1
          · rw [if_neg (fun z => c z.2.2.2)]
      · rw [if_neg (fun z => a ⟨z.1, z.2.1, z.2.2.1⟩), if_neg]
        intro z
        have := z.2.2.2
        rw [m2 _ (by omega), Bool.and_eq_true, decide_eq_true_iff] at this
        exact a ⟨z.1, z.2.1, by omega⟩
    rw [Bool.eq_iff_iff, hd_iff, hd_iff]
    constructor
    · rintro ⟨q, hq, h⟩
      exact ⟨q, hq, (key q hq).mp h⟩
    · rintro ⟨q, hq, h⟩
      exact ⟨q, hq, (key q hq).mpr h⟩
theorem try_T {T0 : St} {ne nl p d n s0 : Nat} (hG : RG ne T0) (h24 : nl ≤ 24) (hL : gI T0 10 = nI nl) (hp : p < 6) (hn : n ≤ 4) (hdn : d + n ≤ 1000) (hcl : ∀ j, j < n → dt T0 p (d + j) = -1) (hs0 : s0 ≤ 1000000000) :
    ∀ (m i : Nat) (w : Nat → Nat) (X : St) (R : Rc) (fu : Nat), i + m = n → m < fu → PV (my T0 ne p d) nl i w → XS T0 p d nl i w X → HasR n X R →
      Ok (f_X8_tryNights fu X (nI p) (nI d) (nI n) (nI i) (nI (cw w i 24)) (nI (s0 + sqA (fun l => dtn T0 l 1000) nl w i))) (fun X' => XS T0 p d nl i w X' ∧ ∃ R', HasR n X' R' ∧ Tr (fun l => dtn T0 l 1000) n nl s0 (Cmp (my T0 ne p d) n nl i w) R R') := by
  have hh : ∀ k, k < nl → (fun l => dtn T0 l 1000) k ≤ 6000 := fun k _ => dtn_le T0 k 1000
  have hdt6 : ∀ l, dtn T0 l 1000 ≤ 6000 := fun l => dtn_le T0 l 1000
  intro m
  induction m with
  | zero => ?_
  | succ m ih => ?_
  · -- a whole row
    intro i w X R fu him hfu hPV hX hR
    have hin : i = n := by omega
    subst hin
    obtain ⟨fu, rfl⟩ : ∃ k, fu = k + 1 := ⟨fu - 1, by omega⟩
    have hsq := sqA_lt (w := w) hh hn
    have hcw : cw w i 24 ≤ i := fb_ct_le _ _
    obtain ⟨r1, r2, r3, r4, r5⟩ := hR
    have hgen : ∀ v, Cmp (my T0 ne p d) i nl i w v → cw v i 24 = cw w i 24 ∧ sqA (fun l => dtn T0 l 1000) nl v i = sqA (fun l => dtn T0 l 1000) nl w i := by
      intro v hv
      refine ⟨cw_cg hv.1 24, ?_⟩
      unfold sqA
      apply fb_sm_cong
      intro k _
      rw [cw_cg hv.1 k]
    -- the row itself
    have hrow : Cmp (my T0 ne p d) i nl i w (fun j => if j < i then w j else 99) := by
      refine ⟨fun j hj => if_pos hj, fun j hj => ?_, fun j hj => if_neg (by omega), fun k hk => ft_iff.mpr (fun j hj hb => ?_)⟩
      · simp only [if_pos hj]
        rcases hPV j hj with z | z
        · exact Or.inr z
        · exact Or.inl z.1
      · rw [ms_bit _ _ hj, decide_eq_true_iff] at hb
        have hji : j < i := by
          rcases Nat.lt_or_ge j i with y | y
          · exact y
          · rw [if_neg (by omega)] at hb
            omega
        rw [if_pos hji] at hb
        have e : ms (fun j => if j < i then w j else 99) k % 2 ^ j = ms w k % 2 ^ j := ms_mod (by omega) (fun i' hi' => if_pos (by omega))
        rw [e]
        rcases hPV j hji with z | z
        · omega
        · rw [hb] at z
          exact z.2
    have hleaf : Ok (f_X8_tryNights_J44 (f_X8_tryNights fu) (nI p) (nI d) (nI i) (nI i) (nI (cw w i 24)) (nI (s0 + sqA (fun l => dtn T0 l 1000) nl w i)) X) (fun X' => XS T0 p d nl i w X' ∧ HasR i X' (recO (fun l => dtn T0 l 1000) i nl s0 (fun j => if j < i then w j else 99))) := by
      simp only [f_X8_tryNights_J44, if_true, bnd]
      refine loop_ok (fun k t => ∃ X1, t = (nI k, X1) ∧ XS T0 p d nl i w X1 ∧ gI X1 11 = nI (cw w i 24) ∧ gI X1 12 = nI (s0 + sqA (fun l => dtn T0 l 1000) nl w i) ∧ ∀ j, j < k → gM X1 13 j = dg (w j)) i _ (by omega) ⟨_, rfl, ?_, ?_, ?_, fun j hj => by omega⟩ ?_
      · obtain ⟨x1, x2, x3, x4⟩ := hX
        exact ⟨(x1.tr (Fr.i.tr Fr.i)).w (by decide) (by decide), x2, x3, x4⟩
      · rw [gI_sI_n _ _ (by omega), gI_sI_s]
      · rw [gI_sI_s]
      · rintro k t hk ⟨X1, rfl, g1, g2, g3, g4⟩
        rcases Nat.lt_or_ge k i with q | q
        · have h12 : gM X1 12 k = dg (w k) := g1.2.2.2 k q
          refine go (s' := (nI (k + 1), sM X1 13 k (dg (w k)))) ?_ q ⟨_, rfl, ?_, g2, g3, fun j hj => ?_⟩
          · simp (disch := omega) only [f_X8_tryNights_L65, nI_leI, gd_nI, nI_clamp, bnd, h12, nI_1]
            rw [if_neg (by omega)]
          · obtain ⟨x1, x2, x3, x4⟩ := g1
            refine ⟨(x1.tr Fr.m).w (by decide) (by decide), x2, fun l hl => ?_, fun j hj => ?_⟩
            · rw [gM_sM_n _ _ _ (by omega)]
              exact x3 l hl
            · rw [gM_sM_n _ _ _ (by omega)]
              exact x4 j hj
          · rw [gM_sM_s]
            by_cases z : j = k
            · rw [z, pk_us]
            · rw [pk_un z]
              exact g4 j (by omega)
        · have : k = i := by omega
          subst this
          obtain ⟨e1, e2⟩ := hgen _ hrow
          refine out (r := X1) ?_ ⟨g1, ?_, ?_, fun j hj => ?_, ?_, ?_⟩
          · simp only [f_X8_tryNights_L65]
            rw [if_pos (nI_le (Nat.le_refl _) (by omega))]
          · rw [g2]
            exact kC e1.symm
          · rw [g3]
            exact kC (by show _ = s0 + sqA _ nl _ k; rw [e2])
          · rw [g4 j hj]
            show dg (w j) = dg (if j < k then w j else 99)
            rw [if_pos hj]
          · show cw _ k 24 ≤ 4
            rw [e1]
            omega
          · show s0 + sqA _ nl _ k < 2147483648
            rw [e2]
            omega
    have hno : (¬ bet (fun l => dtn T0 l 1000) i nl s0 (fun j => if j < i then w j else 99) R.1 R.2.1) → ∀ v, Cmp (my T0 ne p d) i nl i w v → ¬ bet (fun l => dtn T0 l 1000) i nl s0 v R.1 R.2.1 := by
      intro hb v hv z
      obtain ⟨a1, a2⟩ := hgen v hv
      obtain ⟨b1, b2⟩ := hgen _ hrow
      apply hb
      unfold bet at z ⊢
      rw [b1, b2]
      rw [a1, a2] at z
      exact z
    have hyes : bet (fun l => dtn T0 l 1000) i nl s0 (fun j => if j < i then w j else 99) R.1 R.2.1 → Ok (f_X8_tryNights_J44 (f_X8_tryNights fu) (nI p) (nI d) (nI i) (nI i) (nI (cw w i 24)) (nI (s0 + sqA (fun l => dtn T0 l 1000) nl w i)) X) (fun X' => XS T0 p d nl i w X' ∧ ∃ R', HasR i X' R' ∧ Tr (fun l => dtn T0 l 1000) i nl s0 (Cmp (my T0 ne p d) i nl i w) R R') := by
      intro hb
      refine hleaf.imp (fun X' hX' => ⟨hX'.1, _, hX'.2, Or.inr ⟨_, hrow, rfl, hb, fun u hu => ?_⟩⟩)
      obtain ⟨a1, a2⟩ := hgen u hu
      obtain ⟨b1, b2⟩ := hgen _ hrow
      unfold rcod
      rw [a1, a2, b1, b2, rc_cg i (fun j hj => (hrow.1 j hj).trans (hu.1 j hj).symm)]
      exact Nat.le_refl _
    obtain ⟨b1, b2⟩ := hgen _ hrow
    have hbet : bet (fun l => dtn T0 l 1000) i nl s0 (fun j => if j < i then w j else 99) R.1 R.2.1 ↔ (cw w i 24 < R.1 ∨ (cw w i 24 = R.1 ∧ s0 + sqA (fun l => dtn T0 l 1000) nl w i < R.2.1)) := by
      unfold bet
      rw [b1, b2]
    simp only [f_X8_tryNights, bnd]
    rw [r1, r2]
    simp (disch := omega) only [nI_ltI, nI_eq]
    by_cases c1 : R.1 < cw w i 24
    · rw [if_pos c1]
      exact Ok.sm ⟨hX, R, ⟨r1, r2, r3, r4, r5⟩, Tr.none (hno (by rw [hbet]; omega))⟩
    · rw [if_neg c1]
      by_cases c2 : cw w i 24 = R.1
      · rw [if_pos c2]
        have e0 : nI i - nI i = nI 0 := by rw [pk_sub (Nat.le_refl _), Nat.sub_self]
        have e1 : nI R.1 - nI (cw w i 24) = 0 := by rw [c2, pk_sub (Nat.le_refl _), Nat.sub_self]; rfl
        have hL' : gI X 10 = nI nl := (hX.1.1 10 (by decide)).trans hL
        obtain ⟨lo, _, _, fl⟩ := floor_T (X := X) (mm := 0) (f := fun l => dtn T0 l 1000 + cw w i l) h24 hL' (fun l hl => ⟨hX.2.2.1 l hl, by
          have a := hdt6 l
          have b : cw w i l ≤ i := fb_ct_le _ _
          show dtn T0 l 1000 + cw w i l ≤ 10000
          omega⟩) (by omega)
        rw [e0, e1, fl, Option.bind_some, if_pos (Or.inl rfl), nI_add]
        simp (disch := omega) only [nI_ltI, Nat.add_zero]
        by_cases c3 : s0 + sqA (fun l => dtn T0 l 1000) nl w i < R.2.1
        · rw [if_pos c3]
          exact hyes (by rw [hbet]; omega)
        · rw [if_neg c3]
          exact Ok.sm ⟨hX, R, ⟨r1, r2, r3, r4, r5⟩, Tr.none (hno (by rw [hbet]; omega))⟩
      · rw [if_neg c2]
        exact hyes (by rw [hbet]; omega)
  · -- one night more
    intro i w X R fu him hfu hPV hX hR
    have hin : i < n := by omega
    obtain ⟨fu, rfl⟩ : ∃ k, fu = k + 1 := ⟨fu - 1, by omega⟩
    have hsq := sqA_lt (w := w) (i := i) hh (by omega)
    have hcw : cw w i 24 ≤ i := fb_ct_le _ _
    have hR0 := hR
    obtain ⟨r1, r2, r3, r4, r5⟩ := hR
    have hfr : ∀ v, Cmp (my T0 ne p d) n nl i w v → FRow (my T0 ne p d) n nl v := fun v hv => hv.2
    -- the night i, given to x
    have hpart : ∀ (x : Nat) (v : Nat → Nat), Cmp (my T0 ne p d) n nl (i + 1) (setw w i x) v ↔ (Cmp (my T0 ne p d) n nl i w v ∧ v i = x) := by
      intro x v
      constructor
      · rintro ⟨a, b⟩
        refine ⟨⟨fun j hj => ?_, b⟩, ?_⟩
        · rw [a j (by omega), setw_n w (by omega)]
        · rw [a i (by omega), setw_s]
      · rintro ⟨⟨a, b⟩, c⟩
        refine ⟨fun j hj => ?_, b⟩
        by_cases q : j = i
        · rw [q, setw_s, c]
        · rw [setw_n w q]
          exact a j (by omega)
    have hcwS : ∀ x k, cw (setw w i x) i k = cw w i k := fun x k => cw_cg (fun j hj => setw_n w (by omega)) k
    have hsqS : ∀ x, sqA (fun l => dtn T0 l 1000) nl (setw w i x) i = sqA (fun l => dtn T0 l 1000) nl w i := by
      intro x
      unfold sqA
      apply fb_sm_cong
      intro k _
      rw [hcwS x k]
    have hsearch : Ok (f_X8_tryNights_J44 (f_X8_tryNights fu) (nI p) (nI d) (nI n) (nI i) (nI (cw w i 24)) (nI (s0 + sqA (fun l => dtn T0 l 1000) nl w i)) X) (fun X' => XS T0 p d nl i w X' ∧ ∃ R', HasR n X' R' ∧ Tr (fun l => dtn T0 l 1000) n nl s0 (Cmp (my T0 ne p d) n nl i w) R R') := by
      have hne : ¬ nI i = nI n := by
        rw [nI_eq (by omega) (by omega)]
        omega
      have hx9 : ((1000 * nI p) + nI d) + nI i = nI (1000 * p + (d + i)) := by
        have h0 : (1000 * nI p : Int32) = nI (1000 * p) := q_mul 1000 p
        rw [h0, nI_add, nI_add]
        exact kC (by omega)
      simp only [f_X8_tryNights_J44, bnd, hx9]
      rw [if_neg hne]
      refine loop_ok (fun l t => ∃ X1 R1, t = (nI l, X1) ∧ XS T0 p d nl i w X1 ∧ HasR n X1 R1 ∧ Tr (fun l => dtn T0 l 1000) n nl s0 (fun v => Cmp (my T0 ne p d) n nl i w v ∧ v i < l) R R1) nl _ (by omega) ⟨X, R, rfl, hX, hR0, Tr.none (fun v hv => by omega)⟩ ?_
      rintro l t hl ⟨X1, R1, rfl, hX1, hR1, hT1⟩
      have hL1 : gI X1 10 = nI nl := (hX1.1.1 10 (by decide)).trans hL
      rcases Nat.lt_or_ge l nl with q | q
      · have hG1 : RG ne X1 := hG.fr hX1.1 (by decide)
        have hmay := mayNight_T hG1 (l := l) (p := p) (d := d + i) (by omega) hp (by omega)
        have hmX := may_X (ne := ne) hX1 hin hn hdn h24 hcl hp q
        cases b : may X1 ne l p (d + i)
        · refine go (s' := (nI (l + 1), X1)) ?_ q ⟨X1, R1, rfl, hX1, hR1, ?_⟩
          · simp only [f_X8_tryNights_L107, hL1, nI_add, hmay, b, bI_f, Option.bind_some, bnd, nI_1]
            rw [if_neg (nI_ge q (by omega)), if_pos trivial]
          · have hno : ∀ v, Cmp (my T0 ne p d) n nl i w v → ¬ v i = l := by
              intro v hv z
              have hf := ft_iff.mp (hv.2.2.2 l q) i (by omega) (by rw [ms_bit _ _ (by omega), decide_eq_true z])
              have e : ms v l % 2 ^ i = ms w l % 2 ^ i := ms_mod (by omega) (fun j hj => hv.1 j hj)
              rw [e, ← hmX, b] at hf
              cases hf
            rcases hT1 with ⟨a1, a2⟩ | ⟨v, v1, v2, v3, v4⟩
            · exact Or.inl ⟨a1, fun v hv => a2 v ⟨hv.1, by have := hno v hv.1; omega⟩⟩
            · exact Or.inr ⟨v, ⟨v1.1, by omega⟩, v2, v3, fun u hu => v4 u ⟨hu.1, by have := hno u hu.1; omega⟩⟩
        · have hhl : gM X1 14 l = nI (dtn T0 l 1000 + cw w i l) := hX1.2.2.1 l q
          have hcl' : cw w i l ≤ i := fb_ct_le _ _
          have hd6 := hdt6 l
          generalize hX2 : sM (sM (sM X1 11 (1000 * p + (d + i)) (nI l)) 12 i (nI l)) 14 l (nI (dtn T0 l 1000 + cw w i l + 1)) = X2
          have hXS2 : XS T0 p d nl (i + 1) (setw w i l) X2 := by
            obtain ⟨x1, x2, x3, x4⟩ := hX1
            rw [← hX2]
            refine ⟨(x1.tr ((Fr.m.tr Fr.m).tr Fr.m)).w (by decide) (by decide), fun q' e hq he => ?_, fun l' hl' => ?_, fun j hj => ?_⟩
            · have e1 : dt (sM (sM (sM X1 11 (1000 * p + (d + i)) (nI l)) 12 i (nI l)) 14 l (nI (dtn T0 l 1000 + cw w i l + 1))) q' e = dt (sM X1 11 (1000 * p + (d + i)) (nI l)) q' e := by
                unfold dt
                rw [gM_sM_n _ _ _ (by omega), gM_sM_n _ _ _ (by omega)]
              rw [e1, dt_up _ _ (by omega) he]
              by_cases a : q' = p ∧ e = d + i
              · have e2 : e - d = i := by omega
                rw [if_pos a, e2, setw_s, if_pos ⟨a.1, by omega, by omega, q⟩]
              · rw [if_neg a, x2 q' e hq he]
                by_cases c : q' = p ∧ d ≤ e ∧ e < d + i
                · rw [setw_n w (show e - d ≠ i by omega)]
                  by_cases f : w (e - d) < nl
                  · rw [if_pos ⟨c.1, c.2.1, c.2.2, f⟩, if_pos ⟨c.1, c.2.1, by omega, f⟩]
                  · rw [if_neg (fun z => f z.2.2.2), if_neg (fun z => f z.2.2.2)]
                · rw [if_neg (fun z => c ⟨z.1, z.2.1, z.2.2.1⟩), if_neg]
                  intro z
                  apply c
                  refine ⟨z.1, z.2.1, ?_⟩
                  rcases Nat.lt_or_ge e (d + i) with y | y
                  · exact y
                  · exact absurd ⟨z.1, by omega⟩ a
            · rw [gM_sM_s, gM_sM_n _ _ _ (by omega), gM_sM_n _ _ _ (by omega), cw_succ, hcwS, setw_s]
              by_cases z : l' = l
              · subst z
                rw [pk_us, if_pos rfl]
                exact kC (by omega)
              · rw [pk_un z, if_neg (fun y => z y.symm), x3 l' hl']
                rfl
            · rw [gM_sM_n _ _ _ (by omega), gM_sM_s]
              by_cases z : j = i
              · rw [z, pk_us, setw_s]
                unfold dg
                rw [if_neg (by omega)]
              · rw [pk_un z, gM_sM_n _ _ _ (by omega), setw_n w z]
                exact x4 j (by omega)
          have hHR2 : HasR n X2 R1 := by
            obtain ⟨y1, y2, y3, y4⟩ := hR1
            rw [← hX2]
            refine ⟨y1, y2, fun j hj => ?_, y4⟩
            rw [gM_sM_n _ _ _ (by omega), gM_sM_n _ _ _ (by omega), gM_sM_n _ _ _ (by omega)]
            exact y3 j hj
          have hPV2 : PV (my T0 ne p d) nl (i + 1) (setw w i l) := hPV.up (by omega) (Or.inr ⟨q, by rw [← hmX]; exact b⟩)
          obtain ⟨X3, e1, e2, R2, e3, e4⟩ := ih (i + 1) (setw w i l) X2 R1 fu (by omega) (by omega) hPV2 hXS2 hHR2
          have esum : sqA (fun l => dtn T0 l 1000) nl (setw w i l) (i + 1) = sqA (fun l => dtn T0 l 1000) nl w i + (2 * (dtn T0 l 1000 + cw w i l) + 1) := by
            rw [sqA_succ, hsqS, setw_s, if_pos q, hcwS]
          have ecw : cw (setw w i l) (i + 1) 24 = cw w i 24 := by
            rw [cw_succ, hcwS, setw_s, if_neg (by omega)]
            rfl
          rw [esum, ecw] at e1
          have h14 : gM X3 14 l = nI (dtn T0 l 1000 + cw w i l + 1) := by
            rw [e2.2.2.1 l q, cw_succ, hcwS, setw_s, if_pos rfl]
            exact kC (by omega)
          have h15 : nI (dtn T0 l 1000 + cw w i l + 1) - 1 = nI (dtn T0 l 1000 + cw w i l) := by
            have := pk_sub (a := dtn T0 l 1000 + cw w i l + 1) (b := 1) (by omega)
            rw [Nat.add_sub_cancel] at this
            exact this
          have hself : f_X8_tryNights fu X2 (nI p) (nI d) (nI n) (nI (i + 1)) (nI (cw w i 24)) (nI (s0 + sqA (fun l => dtn T0 l 1000) nl w i) + nI (2 * (dtn T0 l 1000 + cw w i l) + 1)) = some X3 := by
            rw [nI_add, Nat.add_assoc]
            exact e1
          refine go (s' := (nI (l + 1), sM (sM X3 14 l (nI (dtn T0 l 1000 + cw w i l))) 11 (1000 * p + (d + i)) (-1))) ?_ q ⟨_, R2, rfl, ?_, ?_, ?_⟩
          · simp (disch := omega) only [f_X8_tryNights_L107, hL1, nI_add, hmay, b, bI_t, Option.bind_some, bnd, gd_nI, nI_clamp, gI_sI_s, gI_sI_n, gI_sM, gI_sF, gI_sC, gI_sJ, gM_sI, gM_sC, gM_sJ, gM_sM_s, gM_sM_n, gM_sF_s, gM_sF_n, gC_sI, gC_sM, gC_sF, gC_sJ, gC_sC_s, gC_sC_n, gC_sC_m, nC_sI, nC_sM, nC_sF, nC_sC, nC_sJ, gJ_sI, gJ_sM, gJ_sF, gJ_sC, gJ_sJ, hhl, nI_1, hX2, NL0, NL1, NL2, NL3, NL4, NL5, NL6, NL7, NL8, NL9]
            rw [if_neg (nI_ge q (by omega)), if_neg (by decide)]
            rw [nI_add] at hself
            rw [hself, Option.bind_some, h14, h15]
            try rfl
          · obtain ⟨x1, x2, x3, x4⟩ := e2
            refine ⟨(x1.tr (Fr.m.tr Fr.m)).w (by decide) (by decide), fun q' e hq he => ?_, fun l' hl' => ?_, fun j hj => ?_⟩
            · rw [dt_up _ _ (by omega) he]
              by_cases a : q' = p ∧ e = d + i
              · rw [if_pos a, if_neg (fun z => by omega), a.1, a.2]
                exact (hcl i hin).symm
              · rw [if_neg a]
                have e5 : dt (sM X3 14 l (nI (dtn T0 l 1000 + cw w i l))) q' e = dt X3 q' e := by
                  unfold dt
                  rw [gM_sM_n _ _ _ (by omega)]
                rw [e5, x2 q' e hq he]
                by_cases c : q' = p ∧ d ≤ e ∧ e < d + i
                · rw [setw_n w (show e - d ≠ i by omega)]
                  by_cases f : w (e - d) < nl
                  · rw [if_pos ⟨c.1, c.2.1, by omega, f⟩, if_pos ⟨c.1, c.2.1, c.2.2, f⟩]
                  · rw [if_neg (fun z => f z.2.2.2), if_neg (fun z => f z.2.2.2)]
                · rw [if_neg (c := q' = p ∧ d ≤ e ∧ e < d + i ∧ w (e - d) < nl) (fun z => c ⟨z.1, z.2.1, z.2.2.1⟩), if_neg]
                  intro z
                  apply c
                  refine ⟨z.1, z.2.1, ?_⟩
                  rcases Nat.lt_or_ge e (d + i) with y | y
                  · exact y
                  · exact absurd ⟨z.1, by omega⟩ a
            · rw [gM_sM_n _ _ _ (by omega), gM_sM_s]
              by_cases z : l' = l
              · rw [z, pk_us]
              · rw [pk_un z, x3 l' hl', cw_succ, hcwS, setw_s, if_neg (fun y => z y.symm)]
                rfl
            · rw [gM_sM_n _ _ _ (by omega), gM_sM_n _ _ _ (by omega), x4 j (by omega), setw_n w (by omega)]
          · obtain ⟨y1, y2, y3, y4⟩ := e3
            refine ⟨y1, y2, fun j hj => ?_, y4⟩
            rw [gM_sM_n _ _ _ (by omega), gM_sM_n _ _ _ (by omega)]
            exact y3 j hj
          · refine Tr.comb (m := my T0 ne p d) (P := fun v => Cmp (my T0 ne p d) n nl i w v ∧ v i < l) (Q := Cmp (my T0 ne p d) n nl (i + 1) (setw w i l)) hn h24 hh (fun v hv => hv.1.2) (fun v hv => hv.2) (fun v u hv hu => ?_) hT1 e4 (fun v => ?_)
            · have hu' := (hpart l u).mp hu
              have := rc_lex (w := v) (v := u) (i := i) (fun j hj => (hv.1.1 j hj).trans (hu'.1.1 j hj).symm) (by rw [hu'.2]; exact hv.2) (n - (i + 1)) (fun j hj => hv.1.2.lt h24 (by omega))
              rw [show i + 1 + (n - (i + 1)) = n by omega] at this
              exact this
            · rw [hpart]
              constructor
              · rintro ⟨a, b⟩
                by_cases c : v i = l
                · exact Or.inr ⟨a, c⟩
                · exact Or.inl ⟨a, by omega⟩
              · rintro (⟨a, b⟩ | ⟨a, b⟩)
                · exact ⟨a, by omega⟩
                · exact ⟨a, by omega⟩
      · have : l = nl := by omega
        subst this
        -- none
        have hXS2 : XS T0 p d l (i + 1) (setw w i 24) (sM X1 12 i (-1)) := by
          obtain ⟨x1, x2, x3, x4⟩ := hX1
          refine ⟨(x1.tr Fr.m).w (by decide) (by decide), fun q' e hq he => ?_, fun l' hl' => ?_, fun j hj => ?_⟩
          · have e1 : dt (sM X1 12 i (-1)) q' e = dt X1 q' e := by
              unfold dt
              rw [gM_sM_n _ _ _ (by omega)]
            rw [e1, x2 q' e hq he]
            by_cases c : q' = p ∧ d ≤ e ∧ e < d + i
            · rw [setw_n w (show e - d ≠ i by omega)]
              by_cases f : w (e - d) < l
              · rw [if_pos ⟨c.1, c.2.1, c.2.2, f⟩, if_pos ⟨c.1, c.2.1, by omega, f⟩]
              · rw [if_neg (fun z => f z.2.2.2), if_neg (fun z => f z.2.2.2)]
            · rw [if_neg (fun z => c ⟨z.1, z.2.1, z.2.2.1⟩), if_neg]
              intro z
              rcases Nat.lt_or_ge e (d + i) with y | y
              · exact c ⟨z.1, z.2.1, y⟩
              · have : e - d = i := by omega
                rw [this, setw_s] at z
                omega
          · rw [gM_sM_n _ _ _ (by omega), x3 l' hl', cw_succ, hcwS, setw_s, if_neg (by omega)]
            rfl
          · rw [gM_sM_s]
            by_cases z : j = i
            · rw [z, pk_us, setw_s]
              rfl
            · rw [pk_un z, setw_n w z]
              exact x4 j (by omega)
        have hHR2 : HasR n (sM X1 12 i (-1)) R1 := by
          obtain ⟨y1, y2, y3, y4⟩ := hR1
          refine ⟨y1, y2, fun j hj => ?_, y4⟩
          rw [gM_sM_n _ _ _ (by omega)]
          exact y3 j hj
        have hPV2 : PV (my T0 ne p d) l (i + 1) (setw w i 24) := hPV.up (by omega) (Or.inl rfl)
        obtain ⟨X3, e1, e2, R2, e3, e4⟩ := ih (i + 1) (setw w i 24) (sM X1 12 i (-1)) R1 fu (by omega) (by omega) hPV2 hXS2 hHR2
        have esum : sqA (fun l => dtn T0 l 1000) l (setw w i 24) (i + 1) = sqA (fun l => dtn T0 l 1000) l w i := by
          rw [sqA_succ, hsqS, setw_s, if_neg (by omega)]
          rfl
        have ecw : cw (setw w i 24) (i + 1) 24 = cw w i 24 + 1 := by
          rw [cw_succ, hcwS, setw_s, if_pos rfl]
        rw [esum, ecw] at e1
        refine out (r := X3) ?_ ⟨?_, R2, e3, ?_⟩
        · simp (disch := omega) only [f_X8_tryNights_L107, hL1, gd_nI, nI_clamp, bnd, nI_1]
          rw [if_pos (nI_le (Nat.le_refl _) (by omega)), e1]
          rfl
        · obtain ⟨x1, x2, x3, x4⟩ := e2
          refine ⟨x1, fun q' e hq he => ?_, fun l' hl' => ?_, fun j hj => ?_⟩
          · rw [x2 q' e hq he]
            by_cases c : q' = p ∧ d ≤ e ∧ e < d + i
            · rw [setw_n w (show e - d ≠ i by omega)]
              by_cases f : w (e - d) < l
              · rw [if_pos ⟨c.1, c.2.1, by omega, f⟩, if_pos ⟨c.1, c.2.1, c.2.2, f⟩]
              · rw [if_neg (fun z => f z.2.2.2), if_neg (fun z => f z.2.2.2)]
            · rw [if_neg (c := q' = p ∧ d ≤ e ∧ e < d + i ∧ w (e - d) < l) (fun z => c ⟨z.1, z.2.1, z.2.2.1⟩), if_neg]
              intro z
              rcases Nat.lt_or_ge e (d + i) with y | y
              · exact c ⟨z.1, z.2.1, y⟩
              · have : e - d = i := by omega
                rw [this, setw_s] at z
                omega
          · rw [x3 l' hl', cw_succ, hcwS, setw_s, if_neg (by omega)]
            rfl
          · rw [x4 j (by omega), setw_n w (by omega)]
        · refine Tr.comb (m := my T0 ne p d) (P := fun v => Cmp (my T0 ne p d) n l i w v ∧ v i < l) (Q := Cmp (my T0 ne p d) n l (i + 1) (setw w i 24)) hn h24 hh (fun v hv => hv.1.2) (fun v hv => hv.2) (fun v u hv hu => ?_) hT1 e4 (fun v => ?_)
          · have hu' := (hpart 24 u).mp hu
            have := rc_lex (w := v) (v := u) (i := i) (fun j hj => (hv.1.1 j hj).trans (hu'.1.1 j hj).symm) (by rw [hu'.2]; have := hv.2; omega) (n - (i + 1)) (fun j hj => hv.1.2.lt h24 (by omega))
            rw [show i + 1 + (n - (i + 1)) = n by omega] at this
            exact this
          · rw [hpart]
            constructor
            · intro a
              rcases a.2.1 i hin with c | c
              · exact Or.inl ⟨a, c⟩
              · exact Or.inr ⟨a, c⟩
            · rintro (⟨a, b⟩ | ⟨a, b⟩)
              · exact a
              · exact a
    -- what a whole row has at least
    have hlow : ∀ v, Cmp (my T0 ne p d) n nl i w v → cw w i 24 ≤ cw v n 24 := by
      intro v hv
      have := cw_mono v 24 (show i ≤ n by omega)
      rw [cw_cg hv.1 24] at this
      exact this
    simp only [f_X8_tryNights, bnd]
    rw [r1, r2]
    simp (disch := omega) only [nI_ltI, nI_eq]
    by_cases c1 : R.1 < cw w i 24
    · rw [if_pos c1]
      refine Ok.sm ⟨hX, R, hR0, Tr.none (fun v hv => ?_)⟩
      have := hlow v hv
      unfold bet
      omega
    · rw [if_neg c1]
      by_cases c2 : cw w i 24 = R.1
      · rw [if_pos c2]
        have e0 : nI n - nI i = nI (n - i) := pk_sub (by omega)
        have e1 : nI R.1 - nI (cw w i 24) = 0 := by rw [c2, pk_sub (Nat.le_refl _), Nat.sub_self]; rfl
        have hL' : gI X 10 = nI nl := (hX.1.1 10 (by decide)).trans hL
        obtain ⟨lo, lo1, lo2, fl⟩ := floor_T (X := X) (mm := n - i) (f := fun l => dtn T0 l 1000 + cw w i l) h24 hL' (fun l hl => ⟨hX.2.2.1 l hl, by
          have a := hdt6 l
          have b : cw w i l ≤ i := fb_ct_le _ _
          show dtn T0 l 1000 + cw w i l ≤ 10000
          omega⟩) (by omega)
        have hfb : (if n - i = 0 ∨ nl = 0 then 0 else (n - i) * (2 * lo + 1)) ≤ 8000004 := by
          split
          · omega
          · have : (n - i) * (2 * lo + 1) ≤ 4 * 2000001 := Nat.mul_le_mul (by omega) (by omega)
            omega
        rw [e0, e1, fl, Option.bind_some, nI_add]
        simp (disch := omega) only [nI_ltI]
        by_cases c3 : s0 + sqA (fun l => dtn T0 l 1000) nl w i + (if n - i = 0 ∨ nl = 0 then 0 else (n - i) * (2 * lo + 1)) < R.2.1
        · rw [if_pos c3]
          exact hsearch
        · rw [if_neg c3]
          refine Ok.sm ⟨hX, R, hR0, Tr.none (fun v hv => ?_)⟩
          have h1 := hlow v hv
          intro z
          unfold bet at z
          have hcv : cw v n 24 = cw w i 24 := by omega
          -- then none of the nights left is of none
          have hgiv : ∀ j, i ≤ j → j < i + (n - i) → v j < nl := by
            intro j h2 h3
            rcases hv.2.1 j (by omega) with y | y
            · exact y
            · exfalso
              have a := cw_mono v 24 (show i ≤ j by omega)
              have b := cw_mono v 24 (show j + 1 ≤ n by omega)
              rw [cw_succ, if_pos y] at b
              rw [cw_cg hv.1 24] at a
              omega
          have hsl := sq_low (h := fun l => dtn T0 l 1000) (v := v) (i := i) (lo := lo) (fun k hk => by rw [cw_cg hv.1 k]; exact lo2 k hk) (n - i) hgiv
          rw [show i + (n - i) = n by omega] at hsl
          have esq : sqA (fun l => dtn T0 l 1000) nl v i = sqA (fun l => dtn T0 l 1000) nl w i := by
            unfold sqA
            apply fb_sm_cong
            intro k _
            rw [cw_cg hv.1 k]
          rw [esq] at hsl
          have hfl : (if n - i = 0 ∨ nl = 0 then 0 else (n - i) * (2 * lo + 1)) ≤ (n - i) * (2 * lo + 1) := by
            split <;> omega
          omega
      · rw [if_neg c2]
        exact hsearch
