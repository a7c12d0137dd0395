/-! ===== pure part: the tie of the class's state S and the reference's state T ===== -/
/-- who has duty, as the reference keeps it -/
def dt (T : St) (p d : Nat) : Int32 := gM T 11 (1000 * p + d)
/-- how many panels a lawyer has on a day -/
def c6 (T : St) (l d : Nat) : Nat := fb_ct (fun p => decide (dt T p d = nI l)) 6
def hd (T : St) (l d : Nat) : Bool := decide (0 < c6 T l d)
/-- duties of a lawyer on the first D days -/
def dtn (T : St) (l D : Nat) : Nat := fb_sm (c6 T l) D
def RT (S T : St) : Prop := ∃ n, n ≤ 1000 ∧ gI S 0 = nI n ∧ gI T 0 = nI n ∧ (∀ j, j < 1000 → gM S 7 j = gM T 1 j) ∧ (∀ j, j < 1000 → -128 ≤ (gM T 1 j).toInt ∧ (gM T 1 j).toInt < 128)
def RF (S T : St) : Prop := gI S 8 = gI T 7 ∧ gI S 9 = gI T 8
/-- the editions' numbers, as the reference keeps them -/
def RG (ne : Nat) (T : St) : Prop := ne ≤ 20 ∧ gI T 9 = nI ne ∧ ∀ e, e < ne → (∃ d, d < 1000 ∧ gM T 3 e = nI d) ∧ (∀ r, r < 9 → ∃ v, v ≤ 9999 ∧ gM T 2 (11 * e + r) = nI v) ∧ (∃ v, v ≤ 9 ∧ gM T 2 (11 * e + 2) = nI v)
def RE (ne : Nat) (S T : St) : Prop := RG ne T ∧ gI S 10 = nI ne ∧ ∀ e, e < ne → (∀ r, r < 11 → gM S (25 + e) r = gM T 2 (11 * e + r)) ∧ gM S (25 + e) 11 = gM T 3 e
def RP (nl : Nat) (S T : St) : Prop := nl ≤ 24 ∧ gI S 11 = nI nl ∧ gI T 10 = nI nl ∧
  (∀ l, l < nl → (∃ t, t < 10 ∧ gM T 5 l = nI t) ∧ gM S 10 l = gM T 5 l ∧ gM S 11 l = gM T 6 l ∧ gM S 12 l = gM T 7 l ∧ gM S 13 l = gM T 8 l ∧ (gM T 8 l = -1 ∨ ∃ d, d < 1000 ∧ gM T 8 l = nI d)) ∧
  (∀ l, nl ≤ l → l < 24 → gM S 13 l = -1) ∧ (∀ l d, l < 24 → d < 1000 → gM T 9 (1000 * l + d) = bI (bt (gM S 15 d) l)) ∧
  (∀ k, k < 100 → gM S 16 k = gM T 10 k ∧ (gM T 10 k = -1 ∨ ∃ m, m ≤ 600 ∧ gM T 10 k = nI m))
/-- the duties of the reference -/
def RD (nl : Nat) (T : St) : Prop := (∀ p d, p < 6 → d < 1000 → dt T p d = -1 ∨ ∃ l, l < nl ∧ dt T p d = nI l) ∧ (∀ p q d l, p < 6 → q < 6 → d < 1000 → l < 24 → dt T p d = nI l → dt T q d = nI l → p = q)
def RN (nl : Nat) (S T : St) : Prop := RD nl T ∧ (∀ p d, p < 6 → d < 1000 → fld (gM S 17 d) p = dt T p d + 1) ∧ (∀ l d, l < 24 → d < 1000 → bt (gM S 18 d) l = hd T l d) ∧ (∀ l, l < 24 → gM S 19 l = nI (dtn T l 1000))
def RA (S T : St) : Prop := (∀ l c, l < 24 → c < 100 → gM T 30 (100 * l + c) = bI (bt (gM S 23 c) l)) ∧ (∀ c a, c < 100 → a < 10 → gM T 31 (10 * c + a) = bI (bt (gM S 24 c) a))
/-- one call -/
def RI (nl : Nat) (S T : St) (i : Nat) : Prop :=
  (∃ v, v < 1000 ∧ gC S i 0 = nI v ∧ gM T 15 i = nI v) ∧ (∃ v, v < 6 ∧ gC S i 1 = nI v ∧ gM T 16 i = nI v) ∧ (∃ v, v < 10 ∧ gC S i 2 = nI v ∧ gM T 17 i = nI v) ∧
  (gC S i 3 = gM T 18 i ∧ (gM T 18 i = -1 ∨ ∃ v, v < 8 ∧ gM T 18 i = nI v)) ∧ (∃ v, v < 100 ∧ gC S i 4 = nI v ∧ gM T 19 i = nI v) ∧ (∃ v, v < 10 ∧ gC S i 5 = nI v ∧ gM T 20 i = nI v) ∧
  gC S i 6 = gM T 21 i ∧ (∀ l, l < 24 → gM T 29 (24 * i + l) = bI (bt (gC S i 8) l)) ∧ gC S i 9 = gM T 22 i ∧ gC S i 10 = gM T 24 i ∧ gC S i 14 = gM T 28 i ∧
  ((gM T 21 i = 0 ∧ gM T 24 i = -1 ∧ ∃ l, l < nl ∧ gM T 23 i = nI l ∧ gC S i 7 = nI l) ∨
   (gM T 21 i = 2 ∧ gM T 24 i = -1 ∧ gC S i 7 = -1) ∨
   (gM T 21 i = 1 ∧ gC S i 7 = -1 ∧ (∃ l, l < nl ∧ gM T 24 i = nI l) ∧ (∃ m, m ≤ 600 ∧ gM T 26 i = nI m ∧ gC S i 11 = nI m) ∧ gC S i 12 = gM T 25 i ∧ gC S i 13 = gM T 27 i ∧ (gM T 27 i = 0 ∨ gM T 27 i = 1)))
def tkn (T : St) (nc l : Nat) : Nat := fb_ct (fun i => decide (gM T 24 i = nI l)) nc
def RC (nc nl : Nat) (S T : St) : Prop := nc ≤ 150 ∧ nC S = nc ∧ gI S 12 = nI nc ∧ gI T 13 = nI nc ∧ (∀ i, i < nc → RI nl S T i) ∧ (∀ l, l < 24 → gM S 14 l = nI (tkn T nc l))
def Rel (S T : St) : Prop := RT S T ∧ RF S T ∧ ∃ ne nl nc, RE ne S T ∧ RP nl S T ∧ RN nl S T ∧ RA S T ∧ RC nc nl S T
/-! ===== pure part: the text in force ===== -/
def frc (fd : Nat → Int32) (day : Int32) : Nat → Int32
  | 0 => -1
  | n + 1 => if day < fd n then frc fd day n else if frc fd day n = -1 then nI n else if fd n < fd (frc fd day n).toNatClampNeg then frc fd day n else nI n
theorem frc_or (fd : Nat → Int32) (day : Int32) : ∀ n, frc fd day n = -1 ∨ ∃ e, e < n ∧ frc fd day n = nI e
  | 0 => Or.inl rfl
  | n + 1 => by
    have ih := frc_or fd day n
    have ih' : frc fd day n = -1 ∨ ∃ e, e < n + 1 ∧ frc fd day n = nI e := by
      rcases ih with h | ⟨e, h1, h2⟩
      · exact Or.inl h
      · exact Or.inr ⟨e, by omega, h2⟩
    unfold frc
    split
    · exact ih'
    · split
      · exact Or.inr ⟨n, by omega, rfl⟩
      · split
        · exact ih'
        · exact Or.inr ⟨n, by omega, rfl⟩
theorem force_T (T : St) (day : Int32) {n : Nat} (hn : n ≤ 20) : f_X8_forceOf T day (nI n) = some (frc (gM T 3) day n) := by
  unfold f_X8_forceOf
  refine loop_eq (fun i => (frc (gM T 3) day i, nI i)) n rfl (by omega) ?_ ?_
  · intro i hi
    simp (disch := omega) only [f_X8_forceOf_L5, NL0, NL1, NL2, NL3, NL4, NL5, NL6, NL7, NL8, NL9, q_m1, q_m1', q_m1t, q_m1t', q_m1l, q_m1l', nI_clamp, nI_leI, nI_ltI, nI_eq, nI_add, nI_z, pk_mul, pk_sub, gd_nI, frc]
    rw [if_neg (by omega)]
    split
    · rfl
    · split
      · rfl
      · rename_i h1 h2
        rcases frc_or (gM T 3) day i with h | ⟨e, he, h⟩
        · exact absurd h h2
        · rw [h]
          simp (disch := omega) only [NL0, NL1, NL2, NL3, NL4, NL5, NL6, NL7, NL8, NL9, q_m1, q_m1', q_m1t, q_m1t', q_m1l, q_m1l', nI_clamp, nI_leI, nI_ltI, nI_eq, nI_add, nI_z, pk_mul, pk_sub, gd_nI]
          split <;> rfl
  · simp (disch := omega) only [f_X8_forceOf_L5, NL0, NL1, NL2, NL3, NL4, NL5, NL6, NL7, NL8, NL9, q_m1, q_m1', q_m1t, q_m1t', q_m1l, q_m1l', nI_clamp, nI_leI, nI_ltI, nI_eq, nI_add, nI_z, pk_mul, pk_sub, gd_nI]
    rw [if_pos (Nat.le_refl _)]
theorem force_step {S : St} {fd : Nat → Int32} (day : Int32) {n ne i : Nat} (hn : n ≤ ne) (he : ne ≤ 20) (hS : gI S 10 = nI ne) (hi : i < n) (hf : gM S (25 + i) 11 = fd i) (b x : Int32) : f_X6_numberInForce_L8 S day (nI n) (b, x, nI i) = if day < fd i then some (.inl (b, x, nI (i + 1))) else if fd i < x then some (.inl (b, x, nI (i + 1))) else some (.inl (nI i, fd i, nI (i + 1))) := by
  have hk : gT S (25 + i) 11 = fd i := by
    unfold gT
    rw [if_neg (by omega)]
    exact hf
  have h11 : (11 : Int32).toNatClampNeg = 11 := nI_clamp (n := 11) (by omega)
  have hg : ∀ {β : Type} (f : Option β), gd (11 : Int32) 12 f = f := fun f => gd_nI (n := 11) (by omega) (by omega)
  simp only [f_X6_numberInForce_L8, hS, bnd]
  rw [if_neg (nI_ge hi (by omega)), if_neg (nI_ge (by omega) (by omega)), gd_nI (by omega) (by omega), nI_clamp (by omega), hg, h11, hk, nI_1]
theorem force_S {S : St} {fd : Nat → Int32} (day : Int32) {n ne : Nat} (hn : n ≤ ne) (he : ne ≤ 20) (hS : gI S 10 = nI ne) (hf : ∀ e, e < ne → gM S (25 + e) 11 = fd e ∧ ∃ d, d < 1000 ∧ fd e = nI d) : f_X6_numberInForce S day (nI n) = some (frc fd day n) := by
  unfold f_X6_numberInForce
  refine loop_eq (fun i => (frc fd day i, (if frc fd day i = -1 then -1 else fd (frc fd day i).toNatClampNeg), nI i)) n (by show _ = (_, (if (-1 : Int32) = -1 then (-1 : Int32) else _), _); rw [if_pos rfl]; rfl) (by omega) ?_ ?_
  · intro i hi
    rw [force_step day hn he hS hi (hf i (by omega)).1]
    obtain ⟨d, hd1, hd2⟩ := (hf i (by omega)).2
    by_cases h1 : day < fd i
    · rw [if_pos h1]
      have : frc fd day (i + 1) = frc fd day i := by rw [frc, if_pos h1]
      rw [this]
    · rw [if_neg h1]
      rcases frc_or fd day i with h | ⟨e, he2, h⟩
      · have h3 : frc fd day (i + 1) = nI i := by rw [frc, if_neg h1, if_pos h]
        rw [h3, h, if_pos rfl]
        have h4 : ¬ fd i < -1 := by
          rw [hd2]
          simp (disch := omega) only [NL0, NL1, NL2, NL3, NL4, NL5, NL6, NL7, NL8, NL9, q_m1, q_m1', q_m1t, q_m1t', q_m1l, q_m1l', nI_clamp, nI_leI, nI_ltI, nI_eq, nI_add, nI_z, pk_mul, pk_sub, gd_nI, not_false_eq_true]
        rw [if_neg h4]
        simp (disch := omega) only [NL0, NL1, NL2, NL3, NL4, NL5, NL6, NL7, NL8, NL9, q_m1, q_m1', q_m1t, q_m1t', q_m1l, q_m1l', nI_clamp, nI_leI, nI_ltI, nI_eq, nI_add, nI_z, pk_mul, pk_sub, gd_nI, reduceIte]
      · have h2 : ¬ frc fd day i = -1 := by
          rw [h]
          simp (disch := omega) only [NL0, NL1, NL2, NL3, NL4, NL5, NL6, NL7, NL8, NL9, q_m1, q_m1', q_m1t, q_m1t', q_m1l, q_m1l', nI_clamp, nI_leI, nI_ltI, nI_eq, nI_add, nI_z, pk_mul, pk_sub, gd_nI, not_false_eq_true]
        rw [if_neg h2]
        by_cases h5 : fd i < fd (frc fd day i).toNatClampNeg
        · have h3 : frc fd day (i + 1) = frc fd day i := by rw [frc, if_neg h1, if_neg h2, if_pos h5]
          rw [h3, if_pos h5, if_neg h2]
        · have h3 : frc fd day (i + 1) = nI i := by rw [frc, if_neg h1, if_neg h2, if_neg h5]
          rw [h3, if_neg h5]
          simp (disch := omega) only [NL0, NL1, NL2, NL3, NL4, NL5, NL6, NL7, NL8, NL9, q_m1, q_m1', q_m1t, q_m1t', q_m1l, q_m1l', nI_clamp, nI_leI, nI_ltI, nI_eq, nI_add, nI_z, pk_mul, pk_sub, gd_nI, reduceIte]
  · simp (disch := omega) only [f_X6_numberInForce_L8, hS, NL0, NL1, NL2, NL3, NL4, NL5, NL6, NL7, NL8, NL9, q_m1, q_m1', q_m1t, q_m1t', q_m1l, q_m1l', nI_clamp, nI_leI, nI_ltI, nI_eq, nI_add, nI_z, pk_mul, pk_sub, gd_nI]
    rw [if_pos (Nat.le_refl _)]
def rl (T : St) (b : Int32) (r : Nat) : Int32 := if b = -1 then plF r else gM T 2 (11 * b.toNatClampNeg + r)
theorem plain_T : ∀ r, r < 11 → f_X8_plain (nI r) = some (plF r) := by decide +kernel
theorem plF_num : ∀ r, r < 9 → ∃ v, v ≤ 9999 ∧ plF r = nI v := by
  intro r hr
  have : ∀ r, r < 9 → ((plF r).toNatClampNeg ≤ 9999 ∧ plF r = nI (plF r).toNatClampNeg) := by decide +kernel
  exact ⟨_, this r hr⟩
theorem ruleOf_T (T : St) {b x : Int32} {r : Nat} (hb : b = -1 ∨ ∃ e, e < 20 ∧ b = nI e) (hr : r < 11) (hx : x = nI r) : f_X8_ruleOf T b x = some (rl T b r) := by
  subst hx
  unfold f_X8_ruleOf rl
  rcases hb with rfl | ⟨e, he, rfl⟩
  · rw [if_pos rfl, if_pos rfl, plain_T r hr]
    rfl
  · have : ¬ nI e = -1 := by simp (disch := omega) only [NL0, NL1, NL2, NL3, NL4, NL5, NL6, NL7, NL8, NL9, q_m1, q_m1', q_m1t, q_m1t', q_m1l, q_m1l', nI_clamp, nI_leI, nI_ltI, nI_eq, nI_add, nI_z, pk_mul, pk_sub, gd_nI, not_false_eq_true]
    rw [if_neg this, if_neg this]
    simp (disch := omega) only [NL0, NL1, NL2, NL3, NL4, NL5, NL6, NL7, NL8, NL9, q_m1, q_m1', q_m1t, q_m1t', q_m1l, q_m1l', nI_clamp, nI_leI, nI_ltI, nI_eq, nI_add, nI_z, pk_mul, pk_sub, gd_nI]
def nw (T : St) (day : Int32) (n r : Nat) : Int32 := rl T (frc (gM T 3) day n) r
theorem frc_20 (fd : Nat → Int32) (day : Int32) {n : Nat} (h : n ≤ 20) : frc fd day n = -1 ∨ ∃ e, e < 20 ∧ frc fd day n = nI e := by
  rcases frc_or fd day n with h1 | ⟨e, h1, h2⟩
  · exact Or.inl h1
  · exact Or.inr ⟨e, by omega, h2⟩
theorem now_T {ne : Nat} {T : St} (hG : RG ne T) (day : Int32) {x : Int32} {r : Nat} (hr : r < 11) (hx : x = nI r) : f_X8_now T day x = some (nw T day ne r) := by
  unfold f_X8_now
  rw [hG.2.1, force_T T day hG.1, Option.bind_some, ruleOf_T T (frc_20 _ _ hG.1) hr hx]
  rfl
theorem rl_num {ne : Nat} {T : St} (hG : RG ne T) (day : Int32) {n r : Nat} (hn : n ≤ ne) (hr : r < 9) : ∃ v, v ≤ 9999 ∧ nw T day n r = nI v := by
  unfold nw rl
  rcases frc_or (gM T 3) day n with h | ⟨e, h1, h2⟩
  · rw [if_pos h]
    exact plF_num r hr
  · have h3 : ¬ frc (gM T 3) day n = -1 := by
      have := hG.1
      rw [h2]
      simp (disch := omega) only [NL0, NL1, NL2, NL3, NL4, NL5, NL6, NL7, NL8, NL9, q_m1, q_m1', q_m1t, q_m1t', q_m1l, q_m1l', nI_clamp, nI_leI, nI_ltI, nI_eq, nI_add, nI_z, pk_mul, pk_sub, gd_nI, not_false_eq_true]
    have := hG.1
    rw [if_neg h3, h2, nI_clamp (by omega)]
    exact (hG.2.2 e (by omega)).2.1 r hr
theorem rl_rest {ne : Nat} {T : St} (hG : RG ne T) (day : Int32) {n : Nat} (hn : n ≤ ne) : ∃ v, v ≤ 9 ∧ nw T day n 2 = nI v := by
  unfold nw rl
  rcases frc_or (gM T 3) day n with h | ⟨e, h1, h2⟩
  · rw [if_pos h]
    exact ⟨1, by omega, by decide⟩
  · have h3 : ¬ frc (gM T 3) day n = -1 := by
      have := hG.1
      rw [h2]
      simp (disch := omega) only [NL0, NL1, NL2, NL3, NL4, NL5, NL6, NL7, NL8, NL9, q_m1, q_m1', q_m1t, q_m1t', q_m1l, q_m1l', nI_clamp, nI_leI, nI_ltI, nI_eq, nI_add, nI_z, pk_mul, pk_sub, gd_nI, not_false_eq_true]
    have := hG.1
    rw [if_neg h3, h2, nI_clamp (by omega)]
    exact (hG.2.2 e (by omega)).2.2
theorem text_S {ne : Nat} {S T : St} (hE : RE ne S T) (day : Int32) {n : Nat} (hn : n ≤ ne) : ∃ k, (f_X6_numberInForce S day (nI n)).bind (fun r_2 => (f_X6_text S r_2).bind (fun r_4 => gk r_4 (some (r_4)))) = some k ∧ (25 ≤ k ∧ k ≤ 45) ∧ ∀ r, r < 11 → gT S k r = nw T day n r := by
  have h20 := hE.1.1
  have hf := force_S (S := S) (fd := gM T 3) day hn h20 hE.2.1 (fun e he => ⟨(hE.2.2 e he).2, (hE.1.2.2 e he).1⟩)
  rw [hf, Option.bind_some]
  unfold f_X6_text nw rl
  rcases frc_or (gM T 3) day n with h | ⟨e, h1, h2⟩
  · rw [h, if_pos (by decide)]
    refine ⟨45, ?_, by omega, fun r _ => ?_⟩
    · rw [Option.bind_some, gk_p (by omega)]
    · rw [if_pos rfl]
      rfl
  · have h3 : ¬ nI e = -1 := by simp (disch := omega) only [NL0, NL1, NL2, NL3, NL4, NL5, NL6, NL7, NL8, NL9, q_m1, q_m1', q_m1t, q_m1t', q_m1l, q_m1l', nI_clamp, nI_leI, nI_ltI, nI_eq, nI_add, nI_z, pk_mul, pk_sub, gd_nI, not_false_eq_true]
    rw [h2, hE.2.1]
    have ht : (if nI e < 0 then some 45 else if nI ne ≤ nI e then some 45 else gd (nI e) 20 (bnd (25 + (nI e).toNatClampNeg) fun k_6 => some k_6)) = some (25 + e) := by
      rw [if_neg (nI_pos (by omega)), if_neg (nI_ge (by omega) (by omega)), gd_nI (by omega) (by omega), nI_clamp (by omega)]
      rfl
    rw [ht, Option.bind_some, gk_p (by omega)]
    refine ⟨25 + e, rfl, by omega, fun r hr => ?_⟩
    unfold gT
    rw [if_neg (by omega), if_neg h3, nI_clamp (by omega)]
    exact (hE.2.2 e (by omega)).1 r hr
theorem textNow_S {ne : Nat} {S T : St} (hE : RE ne S T) (day : Int32) : ∃ k, f_X6_textNow S day = some k ∧ (25 ≤ k ∧ k ≤ 45) ∧ ∀ r, r < 11 → gT S k r = nw T day ne r := by
  unfold f_X6_textNow
  rw [hE.2.1]
  exact text_S hE day (Nat.le_refl _)
theorem textKnown_S {ne : Nat} {S T : St} (hE : RE ne S T) (day : Int32) {n : Nat} (hn : n ≤ ne) : ∃ k, f_X6_textKnown S day (nI n) = some k ∧ (25 ≤ k ∧ k ≤ 45) ∧ ∀ r, r < 11 → gT S k r = nw T day n r := by
  unfold f_X6_textKnown
  exact text_S hE day hn
