/-! ===== pure part: whether a lawyer may have a night ===== -/
theorem isDay_T {z : Int} (h1 : -2147483648 ≤ z) (h2 : z < 2147483648) : f_X8_isDay (iI z) = some (bI (decide (0 ≤ z ∧ z < 1000))) := by
  have e0 : iI z < 0 ↔ z < 0 := by rw [fa_lt, iI_toInt h1 h2, Int32.toInt_zero]
  have e1 : (999 : Int32) < iI z ↔ 1000 ≤ z := by
    rw [fa_lt, iI_toInt h1 h2, q_lt (k := 999) (by omega)]
    omega
  unfold f_X8_isDay f_X8_in
  by_cases a : z < 0
  · rw [if_pos (e0.mpr a), Option.bind_some, gz_0, decide_eq_false (by omega)]
    rfl
  · rw [if_neg (fun q => a (e0.mp q))]
    by_cases b : 1000 ≤ z
    · rw [if_pos (e1.mpr b), Option.bind_some, gz_0, decide_eq_false (by omega)]
      rfl
    · rw [if_neg (fun q => b (e1.mp q)), Option.bind_some, gz_1, decide_eq_true (by omega)]
      rfl
theorem isDay_n {d : Nat} (h : d < 1000) : f_X8_isDay (nI d) = some 1 := by
  rw [← iI_nat (by omega), isDay_T (by omega) (by omega), decide_eq_true (by omega)]
  rfl
theorem c6_le (T : St) (l d : Nat) : c6 T l d ≤ 6 := fb_ct_le _ _
theorem hd_iff (T : St) (l d : Nat) : hd T l d = true ↔ ∃ p, p < 6 ∧ dt T p d = nI l := by
  unfold hd
  rw [decide_eq_true_iff]
  unfold c6
  rw [fb_ct_pos]
  constructor
  · rintro ⟨k, h1, h2⟩
    exact ⟨k, h1, by simpa using h2⟩
  · rintro ⟨k, h1, h2⟩
    exact ⟨k, h1, by simpa using h2⟩
theorem hasDuty_T (T : St) {l d : Nat} (hd' : d < 1000) : f_X8_hasDuty T (nI l) (nI d) = some (bI (hd T l d)) := by
  unfold f_X8_hasDuty
  apply Ok.eq
  refine loop_ok (fun i s => s = nI i ∧ ∀ p, p < i → dt T p d ≠ nI l) 6 0 (by omega) ⟨rfl, fun p hp => by omega⟩ ?_
  rintro i s hi ⟨rfl, hp⟩
  rcases Nat.lt_or_ge i 6 with h | h
  · have e : f_X8_hasDuty_L2 T (nI l) (nI d) (nI i) = if gM T 11 (1000 * i + d) = nI l then some (.inr 1) else some (.inl (nI (i + 1))) := by
      simp (disch := omega) only [f_X8_hasDuty_L2, NL0, NL1, NL2, NL3, NL4, NL5, NL6, NL7, NL8, NL9, q_m1, q_m1', q_m1t, q_m1t', q_m1l, q_m1l', nI_clamp, nI_leI, nI_ltI, nI_eq, nI_add, nI_z, pk_mul, pk_sub, gd_nI, bnd]
      rw [if_neg (by omega)]
    by_cases q : gM T 11 (1000 * i + d) = nI l
    · refine out (r := 1) (by rw [e, if_pos q]) ?_
      rw [(hd_iff T l d).mpr ⟨i, h, q⟩]
      rfl
    · refine go (s' := nI (i + 1)) (by rw [e, if_neg q]) h ⟨rfl, fun p hp2 => ?_⟩
      rcases Nat.lt_or_ge p i with g | g
      · exact hp p g
      · have : p = i := by omega
        subst this
        exact q
  · have : i = 6 := by omega
    subst this
    refine out (r := 0) ?_ ?_
    · simp (disch := omega) only [f_X8_hasDuty_L2, NL0, NL1, NL2, NL3, NL4, NL5, NL6, NL7, NL8, NL9, q_m1, q_m1', q_m1t, q_m1t', q_m1l, q_m1l', nI_clamp, nI_leI, nI_ltI, nI_eq, nI_add, nI_z, pk_mul, pk_sub, gd_nI]
      rw [if_pos (Nat.le_refl _)]
    · have : hd T l d = false := by
        cases q : hd T l d with
        | false => rfl
        | true =>
          obtain ⟨p, h1, h2⟩ := (hd_iff T l d).mp q
          exact absurd h2 (hp p h1)
      rw [this]
      rfl
/-- a day that there may be or not -/
def hs (T : St) (l : Nat) (z : Int) : Bool := decide (0 ≤ z ∧ z < 1000) && hd T l z.toNat
/-- how many of k days from a on -/
def cn (T : St) (l : Nat) (a : Int) (k : Nat) : Nat := fb_ct (fun j => hs T l (a + (j : Int))) k
theorem cn_le (T : St) (l : Nat) (a : Int) (k : Nat) : cn T l a k ≤ k := fb_ct_le _ _
theorem cn_succ (T : St) (l : Nat) (a : Int) (k : Nat) : cn T l a (k + 1) = cn T l a k + (if hs T l (a + (k : Int)) then 1 else 0) := rfl
theorem cn_slide (T : St) (l : Nat) (a : Int) : ∀ k, cn T l (a + 1) k + (if hs T l a then 1 else 0) = cn T l a (k + 1)
  | 0 => by
    rw [cn_succ]
    simp [cn, fb_ct]
  | k + 1 => by
    have ih := cn_slide T l a k
    have e : a + 1 + (k : Int) = a + ((k + 1 : Nat) : Int) := by omega
    rw [cn_succ, cn_succ T l a (k + 1), ← ih, e]
    omega
theorem hs_T (T : St) {l : Nat} {z : Int} (h1 : -100000 ≤ z) (h2 : z < 100000) {β : Type} (f g h : Option β) :
    ((f_X8_isDay (iI z)).bind (fun r => if r = 0 then f else (f_X8_hasDuty T (nI l) (iI z)).bind (fun r' => if r' = 0 then g else h))) = if decide (0 ≤ z ∧ z < 1000) then (if hd T l z.toNat then h else g) else f := by
  rw [isDay_T (by omega) (by omega), Option.bind_some]
  by_cases a : 0 ≤ z ∧ z < 1000
  · rw [decide_eq_true a, if_neg (by decide)]
    have e : iI z = nI z.toNat := by
      rw [← iI_nat (by omega)]
      exact iC (by omega)
    rw [e, hasDuty_T T (by omega), Option.bind_some]
    cases hd T l z.toNat
    · rfl
    · rfl
  · rw [decide_eq_false a]
    rfl
theorem busyOn_S {S T : St} (hb : ∀ l d, l < 24 → d < 1000 → bt (gM S 18 d) l = hd T l d) {l : Nat} (hl : l < 24) {z : Int} (h1 : -100000 ≤ z) (h2 : z < 100000) : f_X2_busyOn S (nI l) (iI z) = some (bI (hs T l z)) := by
  have e0 : iI z < 0 ↔ z < 0 := by rw [fa_lt, iI_toInt (by omega) (by omega), Int32.toInt_zero]
  have e1 : (1000 : Int32) ≤ iI z ↔ 1000 ≤ z := by
    rw [fa_le, iI_toInt (by omega) (by omega), q_lt (k := 1000) (by omega)]
    omega
  unfold f_X2_busyOn hs
  by_cases a : z < 0
  · rw [if_pos (e0.mpr a), decide_eq_false (by omega)]
    rfl
  · rw [if_neg (fun q => a (e0.mp q))]
    by_cases b : 1000 ≤ z
    · rw [if_pos (e1.mpr b), decide_eq_false (by omega)]
      rfl
    · rw [if_neg (fun q => b (e1.mp q)), decide_eq_true (by omega)]
      have e : iI z = nI z.toNat := by
        rw [← iI_nat (by omega)]
        exact iC (by omega)
      rw [e, gd_nI (by omega) (by omega), hb_eq _ (by omega), nI_clamp (by omega), hb l _ hl (by omega)]
      rfl
theorem nI_bI (n : Nat) (b : Bool) : nI n + bI b = nI (n + if b then 1 else 0) := by
  cases b
  · exact nI_add n 0
  · exact nI_add n 1
theorem busyDays_S {S T : St} (hb : ∀ l d, l < 24 → d < 1000 → bt (gM S 18 d) l = hd T l d) {l : Nat} (hl : l < 24) {a b : Int} {k : Nat} (h1 : -10000 ≤ a) (hk : b = a + k - 1) (h2 : k < 5000) (h3 : a < 10000) : f_X2_busyDays S (nI l) (iI a) (iI b) = some (nI (cn T l a k)) := by
  unfold f_X2_busyDays
  refine loop_eq (fun i => (nI (cn T l a i), iI (a + i))) k (by simp [cn, fb_ct, nI_0]) (by omega) ?_ ?_
  · intro i hi
    have e : ¬ iI b < iI (a + i) := by
      rw [iI_lt (by omega) (by omega) (by omega) (by omega)]
      omega
    simp only [f_X2_busyDays_L6]
    rw [if_neg e, busyOn_S hb hl (by omega) (by omega)]
    simp only [bnd, Option.bind_some]
    rw [nI_bI, cn_succ]
    have e2 : iI (a + i) + 1 = iI (a + ((i + 1 : Nat) : Int)) := by
      have : (1 : Int32) = iI 1 := by decide
      rw [this, iI_add (by omega) (by omega) (by omega) (by omega)]
      exact iC (by omega)
    rw [e2]
  · have e : iI b < iI (a + k) := by
      rw [iI_lt (by omega) (by omega) (by omega) (by omega)]
      omega
    simp only [f_X2_busyDays_L6]
    rw [if_pos e]
/-- the windows of 30 days that have the night: the j-th -/
def wn (T : St) (l : Nat) (d : Nat) (j : Nat) : Nat := 1 + cn T l ((d : Int) - 29 + j) 30
theorem wn_le (T : St) (l d j : Nat) : wn T l d j ≤ 31 := by
  have := cn_le T l ((d : Int) - 29 + j) 30
  unfold wn
  omega
theorem wn_step (T : St) (l d j : Nat) : wn T l d (j + 1) + (if hs T l ((d : Int) - 29 + j) then 1 else 0) = wn T l d j + (if hs T l ((d : Int) + j + 1) then 1 else 0) := by
  have h1 := cn_slide T l ((d : Int) - 29 + j) 30
  have h2 := cn_succ T l ((d : Int) - 29 + j) 30
  have e1 : (d : Int) - 29 + ((j + 1 : Nat) : Int) = (d : Int) - 29 + j + 1 := by omega
  have e2 : (d : Int) - 29 + j + ((30 : Nat) : Int) = (d : Int) + j + 1 := by omega
  unfold wn
  rw [e1]
  rw [e2] at h2
  omega
theorem wn_pos (T : St) (l d j : Nat) : (if hs T l ((d : Int) - 29 + j) then 1 else 0) + 1 ≤ wn T l d j := by
  have h1 := cn_slide T l ((d : Int) - 29 + j) 29
  unfold wn
  have : cn T l ((d : Int) - 29 + j) (29 + 1) = cn T l ((d : Int) - 29 + j) 30 := rfl
  omega
def wnOk (T : St) (l d m : Nat) : Bool := allB 30 (fun j => decide (wn T l d j ≤ m))
theorem wnOk_t {T : St} {l d m : Nat} (h : ∀ j, j < 30 → wn T l d j ≤ m) : wnOk T l d m = true := allB_iff.mpr (fun j hj => decide_eq_true (h j hj))
theorem wnOk_f {T : St} {l d m j : Nat} (hj : j < 30) (h : ¬ wn T l d j ≤ m) : wnOk T l d m = false := allB_f hj (decide_eq_false h)
theorem win_T (T : St) {l d m : Nat} (hd' : d < 1000) (hm : m ≤ 9999) : loopF (f_X8_mayNight_L154 T (nI l) (nI d) (nI m)) FU (nI (wn T l d 0), nI d) = some (.inr (.inr (bI (wnOk T l d m)))) := by
  apply Ok.eq
  refine loop_ok (fun i s => s = (nI (wn T l d i), nI (d + i)) ∧ ∀ j, j < i → wn T l d j ≤ m) 29 _ (by omega) ⟨rfl, fun j hj => by omega⟩ ?_
  rintro i s hi ⟨rfl, hj⟩
  have hw := wn_le T l d i
  by_cases g : wn T l d i ≤ m
  · rcases Nat.lt_or_ge i 29 with h | h
    · have e1 : nI (d + i) - 29 = iI ((d : Int) - 29 + i) := by
        have e29 : (29 : Int32) = iI 29 := by decide
        rw [← iI_nat (n := d + i) (by omega), e29, iI_sub (by omega) (by omega) (by omega) (by omega)]
        exact iC (by omega)
      have e2 : nI (d + i) + 1 = iI ((d : Int) + i + 1) := by
        rw [nI_1, ← iI_nat (by omega)]
        exact iC (by omega)
      have e3 : iI ((d : Int) + i + 1) = nI (d + (i + 1)) := by
        rw [← iI_nat (by omega)]
        exact iC (by omega)
      have st := wn_step T l d i
      have ps := wn_pos T l d i
      have key : ∀ (x : Int32) (n : Nat), x = nI n → f_X8_mayNight_J201 T (nI l) (nI (d + i)) x (nI (wn T l d i)) = some (.inl (nI (wn T l d i) - nI n + bI (hs T l ((d : Int) + i + 1)), nI (d + (i + 1)))) := by
        intro x n hx
        subst hx
        simp only [f_X8_mayNight_J201, bnd]
        rw [e2, hs_T T (by omega) (by omega)]
        unfold hs
        by_cases a : 0 ≤ (d : Int) + i + 1 ∧ (d : Int) + i + 1 < 1000
        · rw [decide_eq_true a]
          cases hd T l ((d : Int) + i + 1).toNat
          · rw [e3]; rfl
          · rw [e3]; rfl
        · rw [decide_eq_false a, e3]; rfl
      have fin : f_X8_mayNight_L154 T (nI l) (nI d) (nI m) (nI (wn T l d i), nI (d + i)) = some (.inl (nI (wn T l d (i + 1)), nI (d + (i + 1)))) := by
        simp (disch := omega) only [f_X8_mayNight_L154, NL0, NL1, NL2, NL3, NL4, NL5, NL6, NL7, NL8, NL9, q_m1, q_m1', q_m1t, q_m1t', q_m1l, q_m1l', nI_clamp, nI_leI, nI_ltI, nI_eq, nI_add, nI_z, pk_mul, pk_sub, gd_nI]
        rw [if_neg (by omega), if_neg (by omega), e1, hs_T T (by omega) (by omega)]
        have fin2 : ∀ b : Bool, (if b then 1 else 0) + 1 ≤ wn T l d i → wn T l d (i + 1) + (if b then 1 else 0) = wn T l d i + (if hs T l ((d : Int) + i + 1) then 1 else 0) → (some (.inl (nI (wn T l d i) - nI (if b then 1 else 0) + bI (hs T l ((d : Int) + i + 1)), nI (d + (i + 1)))) : Option ((Int32 × Int32) ⊕ ((Int32 × Int32) ⊕ ((Int32) ⊕ (Int32))))) = some (.inl (nI (wn T l d (i + 1)), nI (d + (i + 1)))) := by
          intro b h1 h2
          rw [pk_sub (by omega), nI_bI]
          have e4 : wn T l d i - (if b then 1 else 0) + (if hs T l ((d : Int) + i + 1) then 1 else 0) = wn T l d (i + 1) := by omega
          rw [e4]
        unfold hs at st ps
        by_cases a : 0 ≤ (d : Int) - 29 + i ∧ (d : Int) - 29 + i < 1000
        · rw [decide_eq_true a] at st ps ⊢
          cases q : hd T l ((d : Int) - 29 + i).toNat
          · rw [q] at st ps
            simp only [f_X8_mayNight_J200]
            exact (key 0 0 rfl).trans (fin2 false (by simpa using ps) (by simpa [hs] using st))
          · rw [q] at st ps
            exact (key 1 1 rfl).trans (fin2 true (by simpa using ps) (by simpa [hs] using st))
        · rw [decide_eq_false a] at st ps ⊢
          simp only [f_X8_mayNight_J200]
          exact (key 0 0 rfl).trans (fin2 false (by simpa using ps) (by simpa [hs] using st))
      refine go fin h ⟨rfl, fun j hj2 => ?_⟩
      rcases Nat.lt_or_ge j i with q | q
      · exact hj j q
      · have : j = i := by omega
        subst this
        exact g
    · have : i = 29 := by omega
      subst this
      refine out (r := .inr (.inr 1)) ?_ ?_
      · simp (disch := omega) only [f_X8_mayNight_L154, NL0, NL1, NL2, NL3, NL4, NL5, NL6, NL7, NL8, NL9, q_m1, q_m1', q_m1t, q_m1t', q_m1l, q_m1l', nI_clamp, nI_leI, nI_ltI, nI_eq, nI_add, nI_z, pk_mul, pk_sub, gd_nI]
        rw [if_neg (by omega), if_pos (by omega), if_neg (by omega)]
      · have : wnOk T l d m = true := by
          apply wnOk_t
          intro j hj2
          rcases Nat.lt_or_ge j 29 with q | q
          · exact hj j q
          · have : j = 29 := by omega
            subst this
            exact g
        rw [this]
        rfl
  · refine out (r := .inr (.inr 0)) ?_ ?_
    · simp (disch := omega) only [f_X8_mayNight_L154, NL0, NL1, NL2, NL3, NL4, NL5, NL6, NL7, NL8, NL9, q_m1, q_m1', q_m1t, q_m1t', q_m1l, q_m1l', nI_clamp, nI_leI, nI_ltI, nI_eq, nI_add, nI_z, pk_mul, pk_sub, gd_nI]
      rw [if_pos (by omega), if_pos (by omega)]
    · have : wnOk T l d m = false := wnOk_f (j := i) (by omega) g
      rw [this]
      rfl
theorem first_T (T : St) {l d m : Nat} (hd' : d < 1000) (hm : m ≤ 9999) (h0 : hs T l (d : Int) = false) : loopF (f_X8_mayNight_L105 T (nI l) (nI d) (nI m)) FU (1, nI d - 29) = some (.inr (bI (wnOk T l d m))) := by
  have e29 : nI d - 29 = iI ((d : Int) - 29) := by
    have e29 : (29 : Int32) = iI 29 := by decide
    rw [← iI_nat (n := d) (by omega), e29, iI_sub (by omega) (by omega) (by omega) (by omega)]
  refine loop_eq (fun i => (nI (1 + cn T l ((d : Int) - 29) i), iI ((d : Int) - 29 + i))) 30 (by simp [cn, fb_ct, e29]; rfl) (by omega) ?_ ?_
  · intro i hi
    have e : ¬ nI d < iI ((d : Int) - 29 + i) := by
      rw [← iI_nat (by omega), iI_lt (by omega) (by omega) (by omega) (by omega)]
      omega
    have e2 : iI ((d : Int) - 29 + i) + 1 = iI ((d : Int) - 29 + ((i + 1 : Nat) : Int)) := by
      have : (1 : Int32) = iI 1 := by decide
      rw [this, iI_add (by omega) (by omega) (by omega) (by omega)]
      exact iC (by omega)
    have e3 : iI ((d : Int) - 29 + i) = nI d ↔ i = 29 := by
      rw [← iI_nat (n := d) (by omega), iI_eq (by omega) (by omega) (by omega) (by omega)]
      omega
    simp only [f_X8_mayNight_L105, bnd]
    rw [if_neg e, isDay_T (by omega) (by omega), Option.bind_some, cn_succ, e2]
    unfold hs
    by_cases a : 0 ≤ (d : Int) - 29 + i ∧ (d : Int) - 29 + i < 1000
    · rw [decide_eq_true a, if_neg (by decide)]
      by_cases g : i = 29
      · rw [if_pos (e3.mpr g)]
        have : hd T l ((d : Int) - 29 + i).toNat = false := by
          have e4 : (d : Int) - 29 + i = d := by omega
          unfold hs at h0
          rw [e4]
          rw [decide_eq_true (by omega)] at h0
          simpa using h0
        rw [this, nI_z]
        rfl
      · rw [if_neg (fun q => g (e3.mp q))]
        have e5 : iI ((d : Int) - 29 + i) = nI ((d : Int) - 29 + i).toNat := by
          rw [← iI_nat (by omega)]
          exact iC (by omega)
        rw [e5, hasDuty_T T (by omega), Option.bind_some]
        cases hd T l ((d : Int) - 29 + i).toNat
        · rw [bI_f, if_pos rfl, nI_z]
          rfl
        · rw [bI_t, if_neg (by decide), nI_1]
          rfl
    · rw [decide_eq_false a, bI_f, if_pos rfl, nI_z]
      rfl
  · have e : nI d < iI ((d : Int) - 29 + ((30 : Nat) : Int)) := by
      rw [← iI_nat (by omega), iI_lt (by omega) (by omega) (by omega) (by omega)]
      omega
    simp only [f_X8_mayNight_L105]
    rw [if_pos e]
    have e2 : (1 + cn T l ((d : Int) - 29) 30) = wn T l d 0 := by
      unfold wn
      have : (d : Int) - 29 + ((0 : Nat) : Int) = (d : Int) - 29 := by omega
      rw [this]
    rw [e2, win_T T hd' hm]
def sk (T : St) (l d : Nat) : Bool := !decide (gM T 8 l = -1) && !decide (nI d < gM T 8 l)
def rsN (T : St) (ne d : Nat) : Nat := (nw T (nI d) ne 2).toNatClampNeg
def msN (T : St) (ne d : Nat) : Nat := (nw T (nI d) ne 3).toNatClampNeg
theorem rsN_eq {ne : Nat} {T : St} (hG : RG ne T) (d : Nat) : nw T (nI d) ne 2 = nI (rsN T ne d) ∧ rsN T ne d ≤ 9 := by
  obtain ⟨v, h1, h2⟩ := rl_rest hG (nI d) (Nat.le_refl ne)
  unfold rsN
  rw [h2, nI_clamp (by omega)]
  exact ⟨rfl, h1⟩
theorem msN_eq {ne : Nat} {T : St} (hG : RG ne T) (d : Nat) : nw T (nI d) ne 3 = nI (msN T ne d) ∧ msN T ne d ≤ 9999 := by
  obtain ⟨v, h1, h2⟩ := rl_num hG (nI d) (Nat.le_refl ne) (r := 3) (by omega)
  unfold msN
  rw [h2, nI_clamp (by omega)]
  exact ⟨rfl, h1⟩
def restOk (T : St) (ne l d : Nat) : Bool := decide (cn T l ((d : Int) - rsN T ne d) (2 * rsN T ne d + 1) = 0)
def may (T : St) (ne l p d : Nat) : Bool := bt (gM T 6 l) p && (decide (gM T 9 (1000 * l + d) = 0) && (!sk T l d && (restOk T ne l d && wnOk T l d (msN T ne d))))
theorem struck_T (T : St) {l d : Nat} (hl : l < 24) : f_X8_isStruck T (nI l) (nI d) = some (bI (sk T l d)) := by
  simp (disch := omega) only [f_X8_isStruck, NL0, NL1, NL2, NL3, NL4, NL5, NL6, NL7, NL8, NL9, q_m1, q_m1', q_m1t, q_m1t', q_m1l, q_m1l', nI_clamp, nI_leI, nI_ltI, nI_eq, nI_add, nI_z, pk_mul, pk_sub, gd_nI, sk]
  by_cases a : gM T 8 l = -1
  · rw [if_pos a, decide_eq_true a]; rfl
  · rw [if_neg a, decide_eq_false a]
    by_cases b : nI d < gM T 8 l
    · rw [if_pos b, decide_eq_true b]; rfl
    · rw [if_neg b, decide_eq_false b]; rfl
theorem rest_self {T : St} {l d r : Nat} (h : cn T l ((d : Int) - r) (2 * r + 1) = 0) : hs T l (d : Int) = false := by
  unfold cn at h
  have := fb_ct_zero.mp h r (by omega)
  have e : (d : Int) - r + (r : Int) = d := by omega
  rw [e] at this
  exact this
theorem mayNight_T {ne : Nat} {T : St} (hG : RG ne T) {l p d : Nat} (hl : l < 24) (hp : p < 6) (hd' : d < 1000) : f_X8_mayNight T (nI l) (nI p) (nI d) = some (bI (may T ne l p d)) := by
  have hr := rsN_eq hG d
  have hm := msN_eq hG d
  simp (disch := omega) only [f_X8_mayNight, NL0, NL1, NL2, NL3, NL4, NL5, NL6, NL7, NL8, NL9, q_m1, q_m1', q_m1t, q_m1t', q_m1l, q_m1l', nI_clamp, nI_leI, nI_ltI, nI_eq, nI_add, nI_z, pk_mul, pk_sub, gd_nI, hb_eq]
  unfold may
  cases bt (gM T 6 l) p
  · rw [if_pos (by decide)]; rfl
  · rw [if_neg (by decide)]
    by_cases a : gM T 9 (1000 * l + d) = 0
    · rw [if_pos a, decide_eq_true a, struck_T T hl, Option.bind_some]
      cases sk T l d
      · rw [if_pos (by decide), now_T hG (nI d) (x := 2) (r := 2) (by omega) rfl, Option.bind_some, hr.1]
        simp only [bnd]
        have e0 : nI d - nI (rsN T ne d) = iI ((d : Int) - rsN T ne d) := by
          rw [← iI_nat (n := d) (by omega), ← iI_nat (n := rsN T ne d) (by omega), iI_sub (by omega) (by omega) (by omega) (by omega)]
        have e9 : nI d + nI (rsN T ne d) = iI ((d : Int) + rsN T ne d) := by
          rw [nI_add, ← iI_nat (by omega)]
          exact iC (by omega)
        rw [e0]
        apply Ok.eq
        refine loop_ok (fun i s => s = iI ((d : Int) - rsN T ne d + i) ∧ cn T l ((d : Int) - rsN T ne d) i = 0) (2 * rsN T ne d + 1) _ (by omega) ⟨by simp, rfl⟩ ?_
        rintro i s hi ⟨rfl, hc⟩
        rcases Nat.lt_or_ge i (2 * rsN T ne d + 1) with h | h
        · have e : ¬ iI ((d : Int) + rsN T ne d) < iI ((d : Int) - rsN T ne d + i) := by
            rw [iI_lt (by omega) (by omega) (by omega) (by omega)]
            omega
          have e2 : iI ((d : Int) - rsN T ne d + i) + 1 = iI ((d : Int) - rsN T ne d + ((i + 1 : Nat) : Int)) := by
            have : (1 : Int32) = iI 1 := by decide
            rw [this, iI_add (by omega) (by omega) (by omega) (by omega)]
            exact iC (by omega)
          have e3 : f_X8_mayNight_L53 T (nI l) (nI d) (nI (rsN T ne d)) (iI ((d : Int) - rsN T ne d + i)) = if hs T l ((d : Int) - rsN T ne d + i) then some (.inr 0) else some (.inl (iI ((d : Int) - rsN T ne d + ((i + 1 : Nat) : Int)))) := by
            simp only [f_X8_mayNight_L53, bnd]
            rw [e9, if_neg e, hs_T T (by omega) (by omega), e2]
            unfold hs
            cases decide (0 ≤ (d : Int) - rsN T ne d + i ∧ (d : Int) - rsN T ne d + i < 1000)
            · rfl
            · cases hd T l ((d : Int) - rsN T ne d + i).toNat <;> rfl
          cases q : hs T l ((d : Int) - rsN T ne d + i)
          · refine go (by rw [e3, q]; rfl) h ⟨rfl, ?_⟩
            rw [cn_succ, hc, q]
            rfl
          · refine out (r := 0) (by rw [e3, q]; rfl) ?_
            have : restOk T ne l d = false := by
              unfold restOk
              rw [decide_eq_false_iff_not]
              intro z
              unfold cn at z
              have := fb_ct_zero.mp z i h
              rw [q] at this
              cases this
            rw [this]
            rfl
        · have : i = 2 * rsN T ne d + 1 := by omega
          subst this
          have e : iI ((d : Int) + rsN T ne d) < iI ((d : Int) - rsN T ne d + ((2 * rsN T ne d + 1 : Nat) : Int)) := by
            rw [iI_lt (by omega) (by omega) (by omega) (by omega)]
            omega
          refine out (r := bI (wnOk T l d (msN T ne d))) ?_ ?_
          · simp only [f_X8_mayNight_L53, bnd]
            rw [e9, if_pos e, now_T hG (nI d) (x := 3) (r := 3) (by omega) rfl, Option.bind_some, hm.1, first_T T hd' hm.2 (rest_self hc)]
          · have : restOk T ne l d = true := by
              unfold restOk
              rw [decide_eq_true_iff]
              exact hc
            rw [this]
            rfl
      · rw [if_neg (by decide)]; rfl
    · rw [if_neg a, decide_eq_false a]; rfl
