/-! ===== pure part: plans: rows of nights, by themselves ===== -/
def mk4 (f : Nat → Bool) : Nat := (if f 0 then 1 else 0) + (if f 1 then 2 else 0) + (if f 2 then 4 else 0) + (if f 3 then 8 else 0)
theorem mk4_lt (f : Nat → Bool) : mk4 f < 16 := by
  unfold mk4
  repeat' split
  all_goals omega
theorem bits4 : ∀ a b c d : Bool, ∀ j, j < 4 → ((if a then 1 else 0) + (if b then 2 else 0) + (if c then 4 else 0) + (if d then 8 else 0) : Nat).testBit j = (if j = 0 then a else if j = 1 then b else if j = 2 then c else d) := by decide +kernel
theorem mk4_bit (f : Nat → Bool) {j : Nat} (hj : j < 4) : (mk4 f).testBit j = f j := by
  unfold mk4
  rw [bits4 _ _ _ _ j hj]
  have : j = 0 ∨ j = 1 ∨ j = 2 ∨ j = 3 := by omega
  rcases this with rfl | rfl | rfl | rfl <;> rfl
theorem ext4t : ∀ s, s < 16 → ∀ t, t < 16 → ((s.testBit 0 == t.testBit 0) && (s.testBit 1 == t.testBit 1) && (s.testBit 2 == t.testBit 2) && (s.testBit 3 == t.testBit 3)) = true → s = t := by decide +kernel
theorem ext4 {s t : Nat} (hs : s < 16) (ht : t < 16) (h : ∀ j, j < 4 → s.testBit j = t.testBit j) : s = t := ext4t s hs t ht (by rw [h 0 (by omega), h 1 (by omega), h 2 (by omega), h 3 (by omega)]; simp)
/-- the nights that are k's -/
def ms (w : Nat → Nat) (k : Nat) : Nat := mk4 (fun j => decide (w j = k))
theorem ms_bit (w : Nat → Nat) (k : Nat) {j : Nat} (hj : j < 4) : (ms w k).testBit j = decide (w j = k) := mk4_bit _ hj
theorem ms_lt (w : Nat → Nat) (k : Nat) : ms w k < 16 := mk4_lt _
def pc (s : Nat) : Nat := (if s.testBit 0 then 1 else 0) + (if s.testBit 1 then 1 else 0) + (if s.testBit 2 then 1 else 0) + (if s.testBit 3 then 1 else 0)
/-- how many of the first i nights are k's -/
def cw (w : Nat → Nat) (i k : Nat) : Nat := fb_ct (fun j => decide (w j = k)) i
theorem cw_succ (w : Nat → Nat) (i k : Nat) : cw w (i + 1) k = cw w i k + if w i = k then 1 else 0 := by
  unfold cw
  rw [fb_ct_succ]
  by_cases h : w i = k
  · rw [decide_eq_true h, if_pos rfl, if_pos h]
  · rw [decide_eq_false h, if_neg h]
    rfl
theorem pc_ms (w : Nat → Nat) (k : Nat) : pc (ms w k) = cw w 4 k := by
  unfold pc
  rw [ms_bit w k (by omega), ms_bit w k (by omega), ms_bit w k (by omega), ms_bit w k (by omega)]
  rw [show (4 : Nat) = 3 + 1 from rfl, cw_succ, show (3 : Nat) = 2 + 1 from rfl, cw_succ, show (2 : Nat) = 1 + 1 from rfl, cw_succ, show (1 : Nat) = 0 + 1 from rfl, cw_succ]
  simp [cw, fb_ct]
theorem cw_n {w : Nat → Nat} {n k : Nat} (hn : n ≤ 4) (hw : ∀ j, n ≤ j → w j = 99) (hk : k < 99) : cw w 4 k = cw w n k := by
  have h : ∀ m, n + m ≤ 4 → cw w (n + m) k = cw w n k := by
    intro m
    induction m with
    | zero => intro _; rfl
    | succ m ih =>
      intro hm
      rw [← Nat.add_assoc, cw_succ, ih (by omega), hw (n + m) (by omega), if_neg (by omega)]
      rfl
  have := h (4 - n) (by omega)
  rw [Nat.add_sub_cancel' hn] at this
  exact this
theorem cw_mono (w : Nat → Nat) (k : Nat) {a b : Nat} (h : a ≤ b) : cw w a k ≤ cw w b k := fb_ct_mono _ h
theorem cw_cg {w v : Nat → Nat} {i : Nat} (h : ∀ j, j < i → w j = v j) (k : Nat) : cw w i k = cw v i k := by
  unfold cw
  apply fb_ct_cong
  intro j hj
  rw [h j hj]
/-- squares added, nights of none, and the row as one number -/
def sqA (h : Nat → Nat) (nl : Nat) (w : Nat → Nat) (i : Nat) : Nat := fb_sm (fun k => cw w i k * (2 * h k + cw w i k)) nl
def rc (w : Nat → Nat) : Nat → Nat
  | 0 => 0
  | k + 1 => rc w k * 32 + w k
def ro (x s : Nat) : Nat → Nat
  | 0 => 0
  | k + 1 => ro x s k * 32 + (if s.testBit k then x else 0)
def rcod (h : Nat → Nat) (n nl : Nat) (w : Nat → Nat) : Nat := cw w n 24 * 17592186044416 + sqA h nl w n * 1048576 + rc w n
/-- what one lawyer's nights cost -/
def cst (h : Nat → Nat) (n l s : Nat) : Nat := pc s * (2 * h l + pc s) * 1048576 + ro l s n
/-- it may have them all, one behind the other -/
def ft (my : Nat → Nat → Nat → Bool) (l s : Nat) : Bool := allB 4 (fun i => !s.testBit i || my l (s % 2 ^ i) i)
/-- a whole row -/
def FRow (my : Nat → Nat → Nat → Bool) (n nl : Nat) (w : Nat → Nat) : Prop := (∀ j, j < n → w j < nl ∨ w j = 24) ∧ (∀ j, n ≤ j → w j = 99) ∧ ∀ k, k < nl → ft my k (ms w k) = true
theorem sum_mul (f : Nat → Nat) (c : Nat) : ∀ n, fb_sm (fun k => f k * c) n = fb_sm f n * c
  | 0 => by simp [fb_sm]
  | n + 1 => by rw [fb_sm_succ, fb_sm_succ, sum_mul f c n, Nat.add_mul]
theorem sum_one (x : Nat) : ∀ n, fb_sm (fun k => if x = k then k else 0) n = if x < n then x else 0
  | 0 => rfl
  | n + 1 => by
    rw [fb_sm_succ, sum_one x n]
    by_cases a : x = n
    · subst a
      simp
    · by_cases b : x < n
      · have : x < n + 1 := by omega
        simp [a, b, this]
      · have : ¬ x < n + 1 := by omega
        simp [a, b, this]
theorem ct_one (x : Nat) : ∀ n, fb_ct (fun k => decide (x = k)) n ≤ 1
  | 0 => Nat.zero_le _
  | n + 1 => by
    have h1 : fb_ct (fun k => decide (x = k)) (n + 1) = if x < n + 1 then 1 else 0 := by
      have h : ∀ m, fb_ct (fun k => decide (x = k)) m = if x < m then 1 else 0 := by
        intro m
        induction m with
        | zero => rfl
        | succ m ih =>
          rw [fb_ct_succ, ih]
          by_cases a : x = m
          · subst a
            simp
          · by_cases b : x < m
            · have : x < m + 1 := by omega
              simp [a, b, this]
            · have : ¬ x < m + 1 := by omega
              simp [a, b, this]
      exact h (n + 1)
    rw [h1]
    split <;> omega
theorem cw_sum (w : Nat → Nat) (i nl : Nat) : fb_sm (fun k => cw w i k) nl ≤ i := by
  unfold cw
  rw [swap_ct (fun k j => decide (w j = k)) nl i]
  have := fb_sm_bound (f := fun j => fb_ct (fun k => decide (w j = k)) nl) (c := 1) (n := i) (fun j _ => ct_one (w j) nl)
  omega
theorem sqA_lt {h : Nat → Nat} {nl : Nat} {w : Nat → Nat} {i : Nat} (hh : ∀ k, k < nl → h k ≤ 6000) (hi : i ≤ 4) : sqA h nl w i ≤ 48016 := by
  unfold sqA
  have h1 : fb_sm (fun k => cw w i k * (2 * h k + cw w i k)) nl ≤ fb_sm (fun k => cw w i k * 12004) nl := by
    apply fb_sm_le
    intro k hk
    have h2 : cw w i k ≤ i := fb_ct_le _ _
    have h3 := hh k hk
    exact Nat.mul_le_mul (Nat.le_refl _) (by omega)
  rw [sum_mul] at h1
  have h4 : fb_sm (cw w i) nl ≤ i := cw_sum w i nl
  have h5 : fb_sm (cw w i) nl * 12004 ≤ 4 * 12004 := Nat.mul_le_mul (by omega) (Nat.le_refl _)
  omega
theorem rc_lt {w : Nat → Nat} : ∀ n, (∀ j, j < n → w j < 32) → rc w n < 32 ^ n
  | 0, _ => by show 0 < 32 ^ 0; decide
  | n + 1, h => by
    have := rc_lt n (fun j hj => h j (by omega))
    have h2 := h n (by omega)
    unfold rc
    rw [Nat.pow_succ]
    omega
theorem rc_cg {w v : Nat → Nat} : ∀ n, (∀ j, j < n → w j = v j) → rc w n = rc v n
  | 0, _ => rfl
  | n + 1, h => by
    unfold rc
    rw [rc_cg n (fun j hj => h j (by omega)), h n (by omega)]
theorem rc_lex {w v : Nat → Nat} {i : Nat} (hp : ∀ j, j < i → w j = v j) (hi : w i < v i) : ∀ m, (∀ j, j < i + 1 + m → w j < 32) → rc w (i + 1 + m) < rc v (i + 1 + m)
  | 0, _ => by
    show rc w (i + 1) < rc v (i + 1)
    unfold rc
    rw [rc_cg i hp]
    omega
  | m + 1, h => by
    have ih := rc_lex hp hi m (fun j hj => h j (by omega))
    have h2 := h (i + 1 + m) (by omega)
    show rc w (i + 1 + m) * 32 + w (i + 1 + m) < rc v (i + 1 + m) * 32 + v (i + 1 + m)
    omega
theorem rc_inj {w v : Nat → Nat} : ∀ n, (∀ j, j < n → w j < 32) → (∀ j, j < n → v j < 32) → rc w n = rc v n → ∀ j, j < n → w j = v j
  | 0, _, _, _, j, hj => by omega
  | n + 1, h1, h2, e, j, hj => by
    unfold rc at e
    have a := h1 n (by omega)
    have b := h2 n (by omega)
    rcases Nat.lt_or_ge j n with q | q
    · exact rc_inj n (fun j hj => h1 j (by omega)) (fun j hj => h2 j (by omega)) (by omega) j q
    · have : j = n := by omega
      subst this
      omega
/-- the row's digit by its number -/
theorem rc_dig {w : Nat → Nat} {j m : Nat} (h : ∀ i, i < j + 1 + m → w i < 32) (X : Nat) : (X * 32 ^ (j + 1 + m) + rc w (j + 1 + m)) / 32 ^ m % 32 = w j := by
  induction m with
  | zero =>
    have a := h j (by omega)
    show (X * 32 ^ (j + 1) + (rc w j * 32 + w j)) / 32 ^ 0 % 32 = w j
    rw [Nat.pow_zero, Nat.div_one, Nat.pow_succ, ← Nat.mul_assoc]
    omega
  | succ m ih =>
    have ih := ih (fun i hi => h i (by omega))
    have a := h (j + 1 + m) (by omega)
    have e : X * 32 ^ (j + 1 + (m + 1)) + rc w (j + 1 + (m + 1)) = (X * 32 ^ (j + 1 + m) + rc w (j + 1 + m)) * 32 + w (j + 1 + m) := by
      show X * 32 ^ (j + 1 + m + 1) + (rc w (j + 1 + m) * 32 + w (j + 1 + m)) = _
      rw [Nat.pow_succ, ← Nat.mul_assoc, Nat.add_mul]
      omega
    rw [e, Nat.pow_succ, Nat.mul_comm (32 ^ m) 32, ← Nat.div_div_eq_div_mul]
    have e2 : ((X * 32 ^ (j + 1 + m) + rc w (j + 1 + m)) * 32 + w (j + 1 + m)) / 32 = X * 32 ^ (j + 1 + m) + rc w (j + 1 + m) := by omega
    rw [e2]
    exact ih
theorem sqA_succ (h : Nat → Nat) {nl : Nat} (w : Nat → Nat) (i : Nat) : sqA h nl w (i + 1) = sqA h nl w i + if w i < nl then 2 * (h (w i) + cw w i (w i)) + 1 else 0 := by
  unfold sqA
  by_cases a : w i < nl
  · rw [if_pos a]
    have e : fb_sm (fun k => cw w (i + 1) k * (2 * h k + cw w (i + 1) k)) nl = fb_sm (fun k => if k = w i then (cw w i (w i) + 1) * (2 * h (w i) + (cw w i (w i) + 1)) else cw w i k * (2 * h k + cw w i k)) nl := by
      apply fb_sm_cong
      intro k _
      rw [cw_succ]
      by_cases b : k = w i
      · subst b
        rw [if_pos rfl, if_pos rfl]
      · rw [if_neg b, if_neg (fun z => b z.symm)]
        rfl
    have := fb_sm_upd (fun k => cw w i k * (2 * h k + cw w i k)) ((cw w i (w i) + 1) * (2 * h (w i) + (cw w i (w i) + 1))) a
    rw [e]
    have f : (cw w i (w i) + 1) * (2 * h (w i) + (cw w i (w i) + 1)) = cw w i (w i) * (2 * h (w i) + cw w i (w i)) + (2 * (h (w i) + cw w i (w i)) + 1) := by
      generalize cw w i (w i) = c
      generalize h (w i) = x
      rw [Nat.add_mul, Nat.mul_add c, Nat.mul_add c, Nat.mul_add c]
      omega
    rw [f] at this ⊢
    omega
  · rw [if_neg a]
    apply fb_sm_cong
    intro k hk
    rw [cw_succ, if_neg (by omega)]
    rfl
/-- the sum over all lawyers' nights, with the nights of none, is the row's number -/
theorem code_sum {h : Nat → Nat} {n nl : Nat} {w : Nat → Nat} (hn : n ≤ 4) (h24 : nl ≤ 24) (hw : ∀ j, j < n → w j < nl ∨ w j = 24) (hw9 : ∀ j, n ≤ j → w j = 99) :
    fb_sm (fun k => cst h n k (ms w k)) nl + (pc (ms w 24) * 17592186044416 + ro 24 (ms w 24) n) = rcod h n nl w := by
  have hro : ∀ m, m ≤ n → fb_sm (fun k => ro k (ms w k) m) nl + ro 24 (ms w 24) m = rc w m := by
    intro m
    induction m with
    | zero =>
      intro _
      have : fb_sm (fun k => ro k (ms w k) 0) nl = 0 := by
        show fb_sm (fun _ => 0) nl = 0
        rw [fb_sm_const]
        omega
      rw [this]
      rfl
    | succ m ih =>
      intro hm
      have ih := ih (by omega)
      have e : fb_sm (fun k => ro k (ms w k) (m + 1)) nl = fb_sm (fun k => ro k (ms w k) m) nl * 32 + if w m < nl then w m else 0 := by
        rw [← sum_mul, ← sum_one, ← fb_sm_add]
        apply fb_sm_cong
        intro k _
        show ro k (ms w k) m * 32 + (if (ms w k).testBit m then k else 0) = _
        rw [ms_bit w k (by omega)]
        by_cases z : w m = k
        · simp [z]
        · simp [z]
      have e2 : ro 24 (ms w 24) (m + 1) = ro 24 (ms w 24) m * 32 + if w m = 24 then 24 else 0 := by
        show ro 24 (ms w 24) m * 32 + (if (ms w 24).testBit m then 24 else 0) = _
        rw [ms_bit w 24 (by omega)]
        by_cases z : w m = 24
        · simp [z]
        · simp [z]
      rw [e, e2]
      unfold rc
      rcases hw m (by omega) with z | z
      · rw [if_pos z, if_neg (by omega)]
        omega
      · rw [if_neg (by omega), if_pos z]
        omega
  have hc : fb_sm (fun k => cst h n k (ms w k)) nl = sqA h nl w n * 1048576 + fb_sm (fun k => ro k (ms w k) n) nl := by
    unfold sqA
    rw [← sum_mul, ← fb_sm_add]
    apply fb_sm_cong
    intro k hk
    unfold cst
    rw [pc_ms, cw_n hn hw9 (by omega)]
  have := hro n (Nat.le_refl n)
  unfold rcod
  rw [hc, pc_ms, cw_n hn hw9 (by omega)]
  omega
theorem FRow.lt {my : Nat → Nat → Nat → Bool} {n nl : Nat} {w : Nat → Nat} (h24 : nl ≤ 24) (h : FRow my n nl w) {j : Nat} (hj : j < n) : w j < 32 := by
  rcases h.1 j hj with z | z <;> omega
theorem code_lt {my : Nat → Nat → Nat → Bool} {h : Nat → Nat} {n nl : Nat} {w : Nat → Nat} (hn : n ≤ 4) (h24 : nl ≤ 24) (hh : ∀ k, k < nl → h k ≤ 6000) (hw : FRow my n nl w) : sqA h nl w n ≤ 48016 ∧ rc w n < 1048576 ∧ cw w n 24 ≤ 4 := by
  refine ⟨sqA_lt hh hn, ?_, ?_⟩
  · have h1 := rc_lt (w := w) n (fun j hj => hw.lt h24 hj)
    have h2 : 32 ^ n ≤ 32 ^ 4 := Nat.pow_le_pow_right (by omega) hn
    have h3 : (32 : Nat) ^ 4 = 1048576 := by decide
    omega
  · have : cw w n 24 ≤ n := fb_ct_le _ _
    omega
theorem code_same {my : Nat → Nat → Nat → Bool} {h : Nat → Nat} {n nl : Nat} {w v : Nat → Nat} (hn : n ≤ 4) (h24 : nl ≤ 24) (hh : ∀ k, k < nl → h k ≤ 6000) (hw : FRow my n nl w) (hv : FRow my n nl v) (e : rcod h n nl w = rcod h n nl v) : ∀ j, j < n → w j = v j := by
  obtain ⟨a1, a2, a3⟩ := code_lt hn h24 hh hw
  obtain ⟨b1, b2, b3⟩ := code_lt hn h24 hh hv
  unfold rcod at e
  exact rc_inj (w := w) (v := v) n (fun j hj => hw.lt h24 hj) (fun j hj => hv.lt h24 hj) (by omega)
/-- less by nights of none, then by squares -/
def bet (h : Nat → Nat) (n nl s0 : Nat) (v : Nat → Nat) (be bs : Nat) : Prop := cw v n 24 < be ∨ (cw v n 24 = be ∧ s0 + sqA h nl v n < bs)
/-- the least that the rest of the nights adds, if each of them is given -/
theorem sq_low {h : Nat → Nat} {nl : Nat} {v : Nat → Nat} {i lo : Nat} (hlo : ∀ k, k < nl → lo ≤ h k + cw v i k) : ∀ m, (∀ j, i ≤ j → j < i + m → v j < nl) → sqA h nl v i + m * (2 * lo + 1) ≤ sqA h nl v (i + m)
  | 0, _ => by simp
  | m + 1, hv => by
    have ih := sq_low hlo m (fun j h1 h2 => hv j h1 (by omega))
    have h1 := hv (i + m) (by omega) (by omega)
    rw [← Nat.add_assoc, sqA_succ, if_pos h1]
    have h2 := hlo (v (i + m)) h1
    have h3 := cw_mono v (v (i + m)) (show i ≤ i + m by omega)
    rw [Nat.add_mul, Nat.one_mul]
    omega
