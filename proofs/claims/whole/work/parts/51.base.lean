/-! ===== pure part: numbers ===== -/
theorem q_lt {k : Nat} (hk : k < 2 ^ 31) : (OfNat.ofNat k : Int32).toInt = (k : Int) := nI_toInt hk
theorem q_ll {k n : Nat} (hk : k < 2 ^ 31) (hn : n < 2 ^ 31) : (OfNat.ofNat k : Int32) ≤ nI n ↔ k ≤ n := nI_leI hk hn
theorem q_ln {k n : Nat} (hk : k < 2 ^ 31) (hn : n < 2 ^ 31) : nI n ≤ (OfNat.ofNat k : Int32) ↔ n ≤ k := nI_leI hn hk
theorem q_tl {k n : Nat} (hk : k < 2 ^ 31) (hn : n < 2 ^ 31) : (OfNat.ofNat k : Int32) < nI n ↔ k < n := nI_ltI hk hn
theorem q_tn {k n : Nat} (hk : k < 2 ^ 31) (hn : n < 2 ^ 31) : nI n < (OfNat.ofNat k : Int32) ↔ n < k := nI_ltI hn hk
theorem q_en {k n : Nat} (hk : k < 2 ^ 31) (hn : n < 2 ^ 31) : nI n = (OfNat.ofNat k : Int32) ↔ n = k := nI_eq hn hk
theorem q_el {k n : Nat} (hk : k < 2 ^ 31) (hn : n < 2 ^ 31) : (OfNat.ofNat k : Int32) = nI n ↔ k = n := nI_eq hk hn
theorem q_mul (k n : Nat) : (OfNat.ofNat k : Int32) * nI n = nI (k * n) := pk_mul k n
theorem q_mul' (k n : Nat) : nI n * (OfNat.ofNat k : Int32) = nI (n * k) := pk_mul n k
theorem q_add (k n : Nat) : nI n + (OfNat.ofNat k : Int32) = nI (n + k) := nI_add n k
theorem q_add' (k n : Nat) : (OfNat.ofNat k : Int32) + nI n = nI (k + n) := nI_add k n
theorem q_sub {k n : Nat} (h : k ≤ n) : nI n - (OfNat.ofNat k : Int32) = nI (n - k) := pk_sub h
theorem m1_toInt : (-1 : Int32).toInt = -1 := by decide
theorem q_m1 {n : Nat} (hn : n < 2 ^ 31) : (nI n = (-1 : Int32)) = False := by
  apply eq_false
  intro e
  have a := nI_toInt hn
  rw [e, m1_toInt] at a
  omega
theorem q_m1' {n : Nat} (hn : n < 2 ^ 31) : ((-1 : Int32) = nI n) = False := by
  apply eq_false
  intro e
  have a := nI_toInt hn
  rw [← e, m1_toInt] at a
  omega
theorem q_m1t {n : Nat} (hn : n < 2 ^ 31) : (nI n < (-1 : Int32)) = False := by
  apply eq_false
  rw [fa_lt, nI_toInt hn, m1_toInt]
  omega
theorem q_m1t' {n : Nat} (hn : n < 2 ^ 31) : ((-1 : Int32) < nI n) = True := by
  apply eq_true
  rw [fa_lt, nI_toInt hn, m1_toInt]
  omega
theorem q_m1l {n : Nat} (hn : n < 2 ^ 31) : (nI n ≤ (-1 : Int32)) = False := by
  apply eq_false
  rw [fa_le, nI_toInt hn, m1_toInt]
  omega
theorem q_m1l' {n : Nat} (hn : n < 2 ^ 31) : ((-1 : Int32) ≤ nI n) = True := by
  apply eq_true
  rw [fa_le, nI_toInt hn, m1_toInt]
  omega
theorem q_cl {k : Nat} (hk : k < 2 ^ 31) : (OfNat.ofNat k : Int32).toNatClampNeg = k := nI_clamp hk
theorem q_z {n : Nat} (hn : n < 2 ^ 31) : (nI n < (0 : Int32)) = False := eq_false (nI_pos hn)
theorem q_z' {n : Nat} (hn : n < 2 ^ 31) : ((0 : Int32) ≤ nI n) = True := eq_true (nI_pos' hn)
theorem gd_nI {β : Type} {n N : Nat} {f : Option β} (h : n < N) (hN : N < 2 ^ 31) : gd (nI n) N f = f := gd_in (vp_in_nI h hN)
theorem gd_l {β : Type} {k N : Nat} {f : Option β} (h : k < N) (hN : N < 2 ^ 31) : gd (OfNat.ofNat k : Int32) N f = f := gd_in (vp_in_nI h hN)
theorem NL0 : (∀ n : Nat, n < 2 ^ 31 → ((0 : Int32) ≤ nI n ↔ 0 ≤ n)) ∧
  (∀ n : Nat, n < 2 ^ 31 → (nI n ≤ (0 : Int32) ↔ n ≤ 0)) ∧
  (∀ n : Nat, n < 2 ^ 31 → ((0 : Int32) < nI n ↔ 0 < n)) ∧
  (∀ n : Nat, n < 2 ^ 31 → (nI n < (0 : Int32) ↔ n < 0)) ∧
  (∀ n : Nat, n < 2 ^ 31 → (nI n = (0 : Int32) ↔ n = 0)) ∧
  (∀ n : Nat, n < 2 ^ 31 → ((0 : Int32) = nI n ↔ 0 = n)) ∧
  (∀ n : Nat, n < 2 ^ 31 → ((1 : Int32) ≤ nI n ↔ 1 ≤ n)) ∧
  (∀ n : Nat, n < 2 ^ 31 → (nI n ≤ (1 : Int32) ↔ n ≤ 1)) ∧
  (∀ n : Nat, n < 2 ^ 31 → ((1 : Int32) < nI n ↔ 1 < n)) ∧
  (∀ n : Nat, n < 2 ^ 31 → (nI n < (1 : Int32) ↔ n < 1)) ∧
  (∀ n : Nat, n < 2 ^ 31 → (nI n = (1 : Int32) ↔ n = 1)) ∧
  (∀ n : Nat, n < 2 ^ 31 → ((1 : Int32) = nI n ↔ 1 = n)) ∧
  (∀ n : Nat, n < 2 ^ 31 → ((2 : Int32) ≤ nI n ↔ 2 ≤ n)) ∧
  (∀ n : Nat, n < 2 ^ 31 → (nI n ≤ (2 : Int32) ↔ n ≤ 2)) ∧
  (∀ n : Nat, n < 2 ^ 31 → ((2 : Int32) < nI n ↔ 2 < n)) ∧
  (∀ n : Nat, n < 2 ^ 31 → (nI n < (2 : Int32) ↔ n < 2)) ∧
  (∀ n : Nat, n < 2 ^ 31 → (nI n = (2 : Int32) ↔ n = 2)) ∧
  (∀ n : Nat, n < 2 ^ 31 → ((2 : Int32) = nI n ↔ 2 = n)) ∧
  (∀ n : Nat, n < 2 ^ 31 → ((3 : Int32) ≤ nI n ↔ 3 ≤ n)) ∧
  (∀ n : Nat, n < 2 ^ 31 → (nI n ≤ (3 : Int32) ↔ n ≤ 3)) ∧
  (∀ n : Nat, n < 2 ^ 31 → ((3 : Int32) < nI n ↔ 3 < n)) ∧
  (∀ n : Nat, n < 2 ^ 31 → (nI n < (3 : Int32) ↔ n < 3)) ∧
  (∀ n : Nat, n < 2 ^ 31 → (nI n = (3 : Int32) ↔ n = 3)) ∧
  (∀ n : Nat, n < 2 ^ 31 → ((3 : Int32) = nI n ↔ 3 = n)) :=
  ⟨fun _ h => q_ll (k := 0) (by omega) h,
  fun _ h => q_ln (k := 0) (by omega) h,
  fun _ h => q_tl (k := 0) (by omega) h,
  fun _ h => q_tn (k := 0) (by omega) h,
  fun _ h => q_en (k := 0) (by omega) h,
  fun _ h => q_el (k := 0) (by omega) h,
  fun _ h => q_ll (k := 1) (by omega) h,
  fun _ h => q_ln (k := 1) (by omega) h,
  fun _ h => q_tl (k := 1) (by omega) h,
  fun _ h => q_tn (k := 1) (by omega) h,
  fun _ h => q_en (k := 1) (by omega) h,
  fun _ h => q_el (k := 1) (by omega) h,
  fun _ h => q_ll (k := 2) (by omega) h,
  fun _ h => q_ln (k := 2) (by omega) h,
  fun _ h => q_tl (k := 2) (by omega) h,
  fun _ h => q_tn (k := 2) (by omega) h,
  fun _ h => q_en (k := 2) (by omega) h,
  fun _ h => q_el (k := 2) (by omega) h,
  fun _ h => q_ll (k := 3) (by omega) h,
  fun _ h => q_ln (k := 3) (by omega) h,
  fun _ h => q_tl (k := 3) (by omega) h,
  fun _ h => q_tn (k := 3) (by omega) h,
  fun _ h => q_en (k := 3) (by omega) h,
  fun _ h => q_el (k := 3) (by omega) h⟩
theorem NL1 : (∀ n : Nat, n < 2 ^ 31 → ((4 : Int32) ≤ nI n ↔ 4 ≤ n)) ∧
  (∀ n : Nat, n < 2 ^ 31 → (nI n ≤ (4 : Int32) ↔ n ≤ 4)) ∧
  (∀ n : Nat, n < 2 ^ 31 → ((4 : Int32) < nI n ↔ 4 < n)) ∧
  (∀ n : Nat, n < 2 ^ 31 → (nI n < (4 : Int32) ↔ n < 4)) ∧
  (∀ n : Nat, n < 2 ^ 31 → (nI n = (4 : Int32) ↔ n = 4)) ∧
  (∀ n : Nat, n < 2 ^ 31 → ((4 : Int32) = nI n ↔ 4 = n)) ∧
  (∀ n : Nat, n < 2 ^ 31 → ((5 : Int32) ≤ nI n ↔ 5 ≤ n)) ∧
  (∀ n : Nat, n < 2 ^ 31 → (nI n ≤ (5 : Int32) ↔ n ≤ 5)) ∧
  (∀ n : Nat, n < 2 ^ 31 → ((5 : Int32) < nI n ↔ 5 < n)) ∧
  (∀ n : Nat, n < 2 ^ 31 → (nI n < (5 : Int32) ↔ n < 5)) ∧
  (∀ n : Nat, n < 2 ^ 31 → (nI n = (5 : Int32) ↔ n = 5)) ∧
  (∀ n : Nat, n < 2 ^ 31 → ((5 : Int32) = nI n ↔ 5 = n)) ∧
  (∀ n : Nat, n < 2 ^ 31 → ((6 : Int32) ≤ nI n ↔ 6 ≤ n)) ∧
  (∀ n : Nat, n < 2 ^ 31 → (nI n ≤ (6 : Int32) ↔ n ≤ 6)) ∧
  (∀ n : Nat, n < 2 ^ 31 → ((6 : Int32) < nI n ↔ 6 < n)) ∧
  (∀ n : Nat, n < 2 ^ 31 → (nI n < (6 : Int32) ↔ n < 6)) ∧
  (∀ n : Nat, n < 2 ^ 31 → (nI n = (6 : Int32) ↔ n = 6)) ∧
  (∀ n : Nat, n < 2 ^ 31 → ((6 : Int32) = nI n ↔ 6 = n)) ∧
  (∀ n : Nat, n < 2 ^ 31 → ((7 : Int32) ≤ nI n ↔ 7 ≤ n)) ∧
  (∀ n : Nat, n < 2 ^ 31 → (nI n ≤ (7 : Int32) ↔ n ≤ 7)) ∧
  (∀ n : Nat, n < 2 ^ 31 → ((7 : Int32) < nI n ↔ 7 < n)) ∧
  (∀ n : Nat, n < 2 ^ 31 → (nI n < (7 : Int32) ↔ n < 7)) ∧
  (∀ n : Nat, n < 2 ^ 31 → (nI n = (7 : Int32) ↔ n = 7)) ∧
  (∀ n : Nat, n < 2 ^ 31 → ((7 : Int32) = nI n ↔ 7 = n)) :=
  ⟨fun _ h => q_ll (k := 4) (by omega) h,
  fun _ h => q_ln (k := 4) (by omega) h,
  fun _ h => q_tl (k := 4) (by omega) h,
  fun _ h => q_tn (k := 4) (by omega) h,
  fun _ h => q_en (k := 4) (by omega) h,
  fun _ h => q_el (k := 4) (by omega) h,
  fun _ h => q_ll (k := 5) (by omega) h,
  fun _ h => q_ln (k := 5) (by omega) h,
  fun _ h => q_tl (k := 5) (by omega) h,
  fun _ h => q_tn (k := 5) (by omega) h,
  fun _ h => q_en (k := 5) (by omega) h,
  fun _ h => q_el (k := 5) (by omega) h,
  fun _ h => q_ll (k := 6) (by omega) h,
  fun _ h => q_ln (k := 6) (by omega) h,
  fun _ h => q_tl (k := 6) (by omega) h,
  fun _ h => q_tn (k := 6) (by omega) h,
  fun _ h => q_en (k := 6) (by omega) h,
  fun _ h => q_el (k := 6) (by omega) h,
  fun _ h => q_ll (k := 7) (by omega) h,
  fun _ h => q_ln (k := 7) (by omega) h,
  fun _ h => q_tl (k := 7) (by omega) h,
  fun _ h => q_tn (k := 7) (by omega) h,
  fun _ h => q_en (k := 7) (by omega) h,
  fun _ h => q_el (k := 7) (by omega) h⟩
theorem NL2 : (∀ n : Nat, n < 2 ^ 31 → ((8 : Int32) ≤ nI n ↔ 8 ≤ n)) ∧
  (∀ n : Nat, n < 2 ^ 31 → (nI n ≤ (8 : Int32) ↔ n ≤ 8)) ∧
  (∀ n : Nat, n < 2 ^ 31 → ((8 : Int32) < nI n ↔ 8 < n)) ∧
  (∀ n : Nat, n < 2 ^ 31 → (nI n < (8 : Int32) ↔ n < 8)) ∧
  (∀ n : Nat, n < 2 ^ 31 → (nI n = (8 : Int32) ↔ n = 8)) ∧
  (∀ n : Nat, n < 2 ^ 31 → ((8 : Int32) = nI n ↔ 8 = n)) ∧
  (∀ n : Nat, n < 2 ^ 31 → ((9 : Int32) ≤ nI n ↔ 9 ≤ n)) ∧
  (∀ n : Nat, n < 2 ^ 31 → (nI n ≤ (9 : Int32) ↔ n ≤ 9)) ∧
  (∀ n : Nat, n < 2 ^ 31 → ((9 : Int32) < nI n ↔ 9 < n)) ∧
  (∀ n : Nat, n < 2 ^ 31 → (nI n < (9 : Int32) ↔ n < 9)) ∧
  (∀ n : Nat, n < 2 ^ 31 → (nI n = (9 : Int32) ↔ n = 9)) ∧
  (∀ n : Nat, n < 2 ^ 31 → ((9 : Int32) = nI n ↔ 9 = n)) ∧
  (∀ n : Nat, n < 2 ^ 31 → ((10 : Int32) ≤ nI n ↔ 10 ≤ n)) ∧
  (∀ n : Nat, n < 2 ^ 31 → (nI n ≤ (10 : Int32) ↔ n ≤ 10)) ∧
  (∀ n : Nat, n < 2 ^ 31 → ((10 : Int32) < nI n ↔ 10 < n)) ∧
  (∀ n : Nat, n < 2 ^ 31 → (nI n < (10 : Int32) ↔ n < 10)) ∧
  (∀ n : Nat, n < 2 ^ 31 → (nI n = (10 : Int32) ↔ n = 10)) ∧
  (∀ n : Nat, n < 2 ^ 31 → ((10 : Int32) = nI n ↔ 10 = n)) ∧
  (∀ n : Nat, n < 2 ^ 31 → ((11 : Int32) ≤ nI n ↔ 11 ≤ n)) ∧
  (∀ n : Nat, n < 2 ^ 31 → (nI n ≤ (11 : Int32) ↔ n ≤ 11)) ∧
  (∀ n : Nat, n < 2 ^ 31 → ((11 : Int32) < nI n ↔ 11 < n)) ∧
  (∀ n : Nat, n < 2 ^ 31 → (nI n < (11 : Int32) ↔ n < 11)) ∧
  (∀ n : Nat, n < 2 ^ 31 → (nI n = (11 : Int32) ↔ n = 11)) ∧
  (∀ n : Nat, n < 2 ^ 31 → ((11 : Int32) = nI n ↔ 11 = n)) :=
  ⟨fun _ h => q_ll (k := 8) (by omega) h,
  fun _ h => q_ln (k := 8) (by omega) h,
  fun _ h => q_tl (k := 8) (by omega) h,
  fun _ h => q_tn (k := 8) (by omega) h,
  fun _ h => q_en (k := 8) (by omega) h,
  fun _ h => q_el (k := 8) (by omega) h,
  fun _ h => q_ll (k := 9) (by omega) h,
  fun _ h => q_ln (k := 9) (by omega) h,
  fun _ h => q_tl (k := 9) (by omega) h,
  fun _ h => q_tn (k := 9) (by omega) h,
  fun _ h => q_en (k := 9) (by omega) h,
  fun _ h => q_el (k := 9) (by omega) h,
  fun _ h => q_ll (k := 10) (by omega) h,
  fun _ h => q_ln (k := 10) (by omega) h,
  fun _ h => q_tl (k := 10) (by omega) h,
  fun _ h => q_tn (k := 10) (by omega) h,
  fun _ h => q_en (k := 10) (by omega) h,
  fun _ h => q_el (k := 10) (by omega) h,
  fun _ h => q_ll (k := 11) (by omega) h,
  fun _ h => q_ln (k := 11) (by omega) h,
  fun _ h => q_tl (k := 11) (by omega) h,
  fun _ h => q_tn (k := 11) (by omega) h,
  fun _ h => q_en (k := 11) (by omega) h,
  fun _ h => q_el (k := 11) (by omega) h⟩
theorem NL3 : (∀ n : Nat, n < 2 ^ 31 → ((12 : Int32) ≤ nI n ↔ 12 ≤ n)) ∧
  (∀ n : Nat, n < 2 ^ 31 → (nI n ≤ (12 : Int32) ↔ n ≤ 12)) ∧
  (∀ n : Nat, n < 2 ^ 31 → ((12 : Int32) < nI n ↔ 12 < n)) ∧
  (∀ n : Nat, n < 2 ^ 31 → (nI n < (12 : Int32) ↔ n < 12)) ∧
  (∀ n : Nat, n < 2 ^ 31 → (nI n = (12 : Int32) ↔ n = 12)) ∧
  (∀ n : Nat, n < 2 ^ 31 → ((12 : Int32) = nI n ↔ 12 = n)) ∧
  (∀ n : Nat, n < 2 ^ 31 → ((13 : Int32) ≤ nI n ↔ 13 ≤ n)) ∧
  (∀ n : Nat, n < 2 ^ 31 → (nI n ≤ (13 : Int32) ↔ n ≤ 13)) ∧
  (∀ n : Nat, n < 2 ^ 31 → ((13 : Int32) < nI n ↔ 13 < n)) ∧
  (∀ n : Nat, n < 2 ^ 31 → (nI n < (13 : Int32) ↔ n < 13)) ∧
  (∀ n : Nat, n < 2 ^ 31 → (nI n = (13 : Int32) ↔ n = 13)) ∧
  (∀ n : Nat, n < 2 ^ 31 → ((13 : Int32) = nI n ↔ 13 = n)) ∧
  (∀ n : Nat, n < 2 ^ 31 → ((14 : Int32) ≤ nI n ↔ 14 ≤ n)) ∧
  (∀ n : Nat, n < 2 ^ 31 → (nI n ≤ (14 : Int32) ↔ n ≤ 14)) ∧
  (∀ n : Nat, n < 2 ^ 31 → ((14 : Int32) < nI n ↔ 14 < n)) ∧
  (∀ n : Nat, n < 2 ^ 31 → (nI n < (14 : Int32) ↔ n < 14)) ∧
  (∀ n : Nat, n < 2 ^ 31 → (nI n = (14 : Int32) ↔ n = 14)) ∧
  (∀ n : Nat, n < 2 ^ 31 → ((14 : Int32) = nI n ↔ 14 = n)) ∧
  (∀ n : Nat, n < 2 ^ 31 → ((20 : Int32) ≤ nI n ↔ 20 ≤ n)) ∧
  (∀ n : Nat, n < 2 ^ 31 → (nI n ≤ (20 : Int32) ↔ n ≤ 20)) ∧
  (∀ n : Nat, n < 2 ^ 31 → ((20 : Int32) < nI n ↔ 20 < n)) ∧
  (∀ n : Nat, n < 2 ^ 31 → (nI n < (20 : Int32) ↔ n < 20)) ∧
  (∀ n : Nat, n < 2 ^ 31 → (nI n = (20 : Int32) ↔ n = 20)) ∧
  (∀ n : Nat, n < 2 ^ 31 → ((20 : Int32) = nI n ↔ 20 = n)) :=
  ⟨fun _ h => q_ll (k := 12) (by omega) h,
  fun _ h => q_ln (k := 12) (by omega) h,
  fun _ h => q_tl (k := 12) (by omega) h,
  fun _ h => q_tn (k := 12) (by omega) h,
  fun _ h => q_en (k := 12) (by omega) h,
  fun _ h => q_el (k := 12) (by omega) h,
  fun _ h => q_ll (k := 13) (by omega) h,
  fun _ h => q_ln (k := 13) (by omega) h,
  fun _ h => q_tl (k := 13) (by omega) h,
  fun _ h => q_tn (k := 13) (by omega) h,
  fun _ h => q_en (k := 13) (by omega) h,
  fun _ h => q_el (k := 13) (by omega) h,
  fun _ h => q_ll (k := 14) (by omega) h,
  fun _ h => q_ln (k := 14) (by omega) h,
  fun _ h => q_tl (k := 14) (by omega) h,
  fun _ h => q_tn (k := 14) (by omega) h,
  fun _ h => q_en (k := 14) (by omega) h,
  fun _ h => q_el (k := 14) (by omega) h,
  fun _ h => q_ll (k := 20) (by omega) h,
  fun _ h => q_ln (k := 20) (by omega) h,
  fun _ h => q_tl (k := 20) (by omega) h,
  fun _ h => q_tn (k := 20) (by omega) h,
  fun _ h => q_en (k := 20) (by omega) h,
  fun _ h => q_el (k := 20) (by omega) h⟩
theorem NL4 : (∀ n : Nat, n < 2 ^ 31 → ((24 : Int32) ≤ nI n ↔ 24 ≤ n)) ∧
  (∀ n : Nat, n < 2 ^ 31 → (nI n ≤ (24 : Int32) ↔ n ≤ 24)) ∧
  (∀ n : Nat, n < 2 ^ 31 → ((24 : Int32) < nI n ↔ 24 < n)) ∧
  (∀ n : Nat, n < 2 ^ 31 → (nI n < (24 : Int32) ↔ n < 24)) ∧
  (∀ n : Nat, n < 2 ^ 31 → (nI n = (24 : Int32) ↔ n = 24)) ∧
  (∀ n : Nat, n < 2 ^ 31 → ((24 : Int32) = nI n ↔ 24 = n)) ∧
  (∀ n : Nat, n < 2 ^ 31 → ((30 : Int32) ≤ nI n ↔ 30 ≤ n)) ∧
  (∀ n : Nat, n < 2 ^ 31 → (nI n ≤ (30 : Int32) ↔ n ≤ 30)) ∧
  (∀ n : Nat, n < 2 ^ 31 → ((30 : Int32) < nI n ↔ 30 < n)) ∧
  (∀ n : Nat, n < 2 ^ 31 → (nI n < (30 : Int32) ↔ n < 30)) ∧
  (∀ n : Nat, n < 2 ^ 31 → (nI n = (30 : Int32) ↔ n = 30)) ∧
  (∀ n : Nat, n < 2 ^ 31 → ((30 : Int32) = nI n ↔ 30 = n)) ∧
  (∀ n : Nat, n < 2 ^ 31 → ((32 : Int32) ≤ nI n ↔ 32 ≤ n)) ∧
  (∀ n : Nat, n < 2 ^ 31 → (nI n ≤ (32 : Int32) ↔ n ≤ 32)) ∧
  (∀ n : Nat, n < 2 ^ 31 → ((32 : Int32) < nI n ↔ 32 < n)) ∧
  (∀ n : Nat, n < 2 ^ 31 → (nI n < (32 : Int32) ↔ n < 32)) ∧
  (∀ n : Nat, n < 2 ^ 31 → (nI n = (32 : Int32) ↔ n = 32)) ∧
  (∀ n : Nat, n < 2 ^ 31 → ((32 : Int32) = nI n ↔ 32 = n)) ∧
  (∀ n : Nat, n < 2 ^ 31 → ((48 : Int32) ≤ nI n ↔ 48 ≤ n)) ∧
  (∀ n : Nat, n < 2 ^ 31 → (nI n ≤ (48 : Int32) ↔ n ≤ 48)) ∧
  (∀ n : Nat, n < 2 ^ 31 → ((48 : Int32) < nI n ↔ 48 < n)) ∧
  (∀ n : Nat, n < 2 ^ 31 → (nI n < (48 : Int32) ↔ n < 48)) ∧
  (∀ n : Nat, n < 2 ^ 31 → (nI n = (48 : Int32) ↔ n = 48)) ∧
  (∀ n : Nat, n < 2 ^ 31 → ((48 : Int32) = nI n ↔ 48 = n)) :=
  ⟨fun _ h => q_ll (k := 24) (by omega) h,
  fun _ h => q_ln (k := 24) (by omega) h,
  fun _ h => q_tl (k := 24) (by omega) h,
  fun _ h => q_tn (k := 24) (by omega) h,
  fun _ h => q_en (k := 24) (by omega) h,
  fun _ h => q_el (k := 24) (by omega) h,
  fun _ h => q_ll (k := 30) (by omega) h,
  fun _ h => q_ln (k := 30) (by omega) h,
  fun _ h => q_tl (k := 30) (by omega) h,
  fun _ h => q_tn (k := 30) (by omega) h,
  fun _ h => q_en (k := 30) (by omega) h,
  fun _ h => q_el (k := 30) (by omega) h,
  fun _ h => q_ll (k := 32) (by omega) h,
  fun _ h => q_ln (k := 32) (by omega) h,
  fun _ h => q_tl (k := 32) (by omega) h,
  fun _ h => q_tn (k := 32) (by omega) h,
  fun _ h => q_en (k := 32) (by omega) h,
  fun _ h => q_el (k := 32) (by omega) h,
  fun _ h => q_ll (k := 48) (by omega) h,
  fun _ h => q_ln (k := 48) (by omega) h,
  fun _ h => q_tl (k := 48) (by omega) h,
  fun _ h => q_tn (k := 48) (by omega) h,
  fun _ h => q_en (k := 48) (by omega) h,
  fun _ h => q_el (k := 48) (by omega) h⟩
theorem NL5 : (∀ n : Nat, n < 2 ^ 31 → ((59 : Int32) ≤ nI n ↔ 59 ≤ n)) ∧
  (∀ n : Nat, n < 2 ^ 31 → (nI n ≤ (59 : Int32) ↔ n ≤ 59)) ∧
  (∀ n : Nat, n < 2 ^ 31 → ((59 : Int32) < nI n ↔ 59 < n)) ∧
  (∀ n : Nat, n < 2 ^ 31 → (nI n < (59 : Int32) ↔ n < 59)) ∧
  (∀ n : Nat, n < 2 ^ 31 → (nI n = (59 : Int32) ↔ n = 59)) ∧
  (∀ n : Nat, n < 2 ^ 31 → ((59 : Int32) = nI n ↔ 59 = n)) ∧
  (∀ n : Nat, n < 2 ^ 31 → ((97 : Int32) ≤ nI n ↔ 97 ≤ n)) ∧
  (∀ n : Nat, n < 2 ^ 31 → (nI n ≤ (97 : Int32) ↔ n ≤ 97)) ∧
  (∀ n : Nat, n < 2 ^ 31 → ((97 : Int32) < nI n ↔ 97 < n)) ∧
  (∀ n : Nat, n < 2 ^ 31 → (nI n < (97 : Int32) ↔ n < 97)) ∧
  (∀ n : Nat, n < 2 ^ 31 → (nI n = (97 : Int32) ↔ n = 97)) ∧
  (∀ n : Nat, n < 2 ^ 31 → ((97 : Int32) = nI n ↔ 97 = n)) ∧
  (∀ n : Nat, n < 2 ^ 31 → ((100 : Int32) ≤ nI n ↔ 100 ≤ n)) ∧
  (∀ n : Nat, n < 2 ^ 31 → (nI n ≤ (100 : Int32) ↔ n ≤ 100)) ∧
  (∀ n : Nat, n < 2 ^ 31 → ((100 : Int32) < nI n ↔ 100 < n)) ∧
  (∀ n : Nat, n < 2 ^ 31 → (nI n < (100 : Int32) ↔ n < 100)) ∧
  (∀ n : Nat, n < 2 ^ 31 → (nI n = (100 : Int32) ↔ n = 100)) ∧
  (∀ n : Nat, n < 2 ^ 31 → ((100 : Int32) = nI n ↔ 100 = n)) ∧
  (∀ n : Nat, n < 2 ^ 31 → ((122 : Int32) ≤ nI n ↔ 122 ≤ n)) ∧
  (∀ n : Nat, n < 2 ^ 31 → (nI n ≤ (122 : Int32) ↔ n ≤ 122)) ∧
  (∀ n : Nat, n < 2 ^ 31 → ((122 : Int32) < nI n ↔ 122 < n)) ∧
  (∀ n : Nat, n < 2 ^ 31 → (nI n < (122 : Int32) ↔ n < 122)) ∧
  (∀ n : Nat, n < 2 ^ 31 → (nI n = (122 : Int32) ↔ n = 122)) ∧
  (∀ n : Nat, n < 2 ^ 31 → ((122 : Int32) = nI n ↔ 122 = n)) :=
  ⟨fun _ h => q_ll (k := 59) (by omega) h,
  fun _ h => q_ln (k := 59) (by omega) h,
  fun _ h => q_tl (k := 59) (by omega) h,
  fun _ h => q_tn (k := 59) (by omega) h,
  fun _ h => q_en (k := 59) (by omega) h,
  fun _ h => q_el (k := 59) (by omega) h,
  fun _ h => q_ll (k := 97) (by omega) h,
  fun _ h => q_ln (k := 97) (by omega) h,
  fun _ h => q_tl (k := 97) (by omega) h,
  fun _ h => q_tn (k := 97) (by omega) h,
  fun _ h => q_en (k := 97) (by omega) h,
  fun _ h => q_el (k := 97) (by omega) h,
  fun _ h => q_ll (k := 100) (by omega) h,
  fun _ h => q_ln (k := 100) (by omega) h,
  fun _ h => q_tl (k := 100) (by omega) h,
  fun _ h => q_tn (k := 100) (by omega) h,
  fun _ h => q_en (k := 100) (by omega) h,
  fun _ h => q_el (k := 100) (by omega) h,
  fun _ h => q_ll (k := 122) (by omega) h,
  fun _ h => q_ln (k := 122) (by omega) h,
  fun _ h => q_tl (k := 122) (by omega) h,
  fun _ h => q_tn (k := 122) (by omega) h,
  fun _ h => q_en (k := 122) (by omega) h,
  fun _ h => q_el (k := 122) (by omega) h⟩
theorem NL6 : (∀ n : Nat, n < 2 ^ 31 → ((150 : Int32) ≤ nI n ↔ 150 ≤ n)) ∧
  (∀ n : Nat, n < 2 ^ 31 → (nI n ≤ (150 : Int32) ↔ n ≤ 150)) ∧
  (∀ n : Nat, n < 2 ^ 31 → ((150 : Int32) < nI n ↔ 150 < n)) ∧
  (∀ n : Nat, n < 2 ^ 31 → (nI n < (150 : Int32) ↔ n < 150)) ∧
  (∀ n : Nat, n < 2 ^ 31 → (nI n = (150 : Int32) ↔ n = 150)) ∧
  (∀ n : Nat, n < 2 ^ 31 → ((150 : Int32) = nI n ↔ 150 = n)) ∧
  (∀ n : Nat, n < 2 ^ 31 → ((600 : Int32) ≤ nI n ↔ 600 ≤ n)) ∧
  (∀ n : Nat, n < 2 ^ 31 → (nI n ≤ (600 : Int32) ↔ n ≤ 600)) ∧
  (∀ n : Nat, n < 2 ^ 31 → ((600 : Int32) < nI n ↔ 600 < n)) ∧
  (∀ n : Nat, n < 2 ^ 31 → (nI n < (600 : Int32) ↔ n < 600)) ∧
  (∀ n : Nat, n < 2 ^ 31 → (nI n = (600 : Int32) ↔ n = 600)) ∧
  (∀ n : Nat, n < 2 ^ 31 → ((600 : Int32) = nI n ↔ 600 = n)) ∧
  (∀ n : Nat, n < 2 ^ 31 → ((999 : Int32) ≤ nI n ↔ 999 ≤ n)) ∧
  (∀ n : Nat, n < 2 ^ 31 → (nI n ≤ (999 : Int32) ↔ n ≤ 999)) ∧
  (∀ n : Nat, n < 2 ^ 31 → ((999 : Int32) < nI n ↔ 999 < n)) ∧
  (∀ n : Nat, n < 2 ^ 31 → (nI n < (999 : Int32) ↔ n < 999)) ∧
  (∀ n : Nat, n < 2 ^ 31 → (nI n = (999 : Int32) ↔ n = 999)) ∧
  (∀ n : Nat, n < 2 ^ 31 → ((999 : Int32) = nI n ↔ 999 = n)) ∧
  (∀ n : Nat, n < 2 ^ 31 → ((1000 : Int32) ≤ nI n ↔ 1000 ≤ n)) ∧
  (∀ n : Nat, n < 2 ^ 31 → (nI n ≤ (1000 : Int32) ↔ n ≤ 1000)) ∧
  (∀ n : Nat, n < 2 ^ 31 → ((1000 : Int32) < nI n ↔ 1000 < n)) ∧
  (∀ n : Nat, n < 2 ^ 31 → (nI n < (1000 : Int32) ↔ n < 1000)) ∧
  (∀ n : Nat, n < 2 ^ 31 → (nI n = (1000 : Int32) ↔ n = 1000)) ∧
  (∀ n : Nat, n < 2 ^ 31 → ((1000 : Int32) = nI n ↔ 1000 = n)) :=
  ⟨fun _ h => q_ll (k := 150) (by omega) h,
  fun _ h => q_ln (k := 150) (by omega) h,
  fun _ h => q_tl (k := 150) (by omega) h,
  fun _ h => q_tn (k := 150) (by omega) h,
  fun _ h => q_en (k := 150) (by omega) h,
  fun _ h => q_el (k := 150) (by omega) h,
  fun _ h => q_ll (k := 600) (by omega) h,
  fun _ h => q_ln (k := 600) (by omega) h,
  fun _ h => q_tl (k := 600) (by omega) h,
  fun _ h => q_tn (k := 600) (by omega) h,
  fun _ h => q_en (k := 600) (by omega) h,
  fun _ h => q_el (k := 600) (by omega) h,
  fun _ h => q_ll (k := 999) (by omega) h,
  fun _ h => q_ln (k := 999) (by omega) h,
  fun _ h => q_tl (k := 999) (by omega) h,
  fun _ h => q_tn (k := 999) (by omega) h,
  fun _ h => q_en (k := 999) (by omega) h,
  fun _ h => q_el (k := 999) (by omega) h,
  fun _ h => q_ll (k := 1000) (by omega) h,
  fun _ h => q_ln (k := 1000) (by omega) h,
  fun _ h => q_tl (k := 1000) (by omega) h,
  fun _ h => q_tn (k := 1000) (by omega) h,
  fun _ h => q_en (k := 1000) (by omega) h,
  fun _ h => q_el (k := 1000) (by omega) h⟩
theorem NL7 : (∀ n : Nat, n < 2 ^ 31 → ((6000 : Int32) ≤ nI n ↔ 6000 ≤ n)) ∧
  (∀ n : Nat, n < 2 ^ 31 → (nI n ≤ (6000 : Int32) ↔ n ≤ 6000)) ∧
  (∀ n : Nat, n < 2 ^ 31 → ((6000 : Int32) < nI n ↔ 6000 < n)) ∧
  (∀ n : Nat, n < 2 ^ 31 → (nI n < (6000 : Int32) ↔ n < 6000)) ∧
  (∀ n : Nat, n < 2 ^ 31 → (nI n = (6000 : Int32) ↔ n = 6000)) ∧
  (∀ n : Nat, n < 2 ^ 31 → ((6000 : Int32) = nI n ↔ 6000 = n)) ∧
  (∀ n : Nat, nI n + (1 : Int32) = nI (n + 1)) ∧
  (∀ n : Nat, (1 : Int32) + nI n = nI (1 + n)) ∧
  (∀ n : Nat, nI n + (20 : Int32) = nI (n + 20)) ∧
  (∀ n : Nat, (20 : Int32) + nI n = nI (20 + n)) ∧
  (∀ n : Nat, nI n + (30 : Int32) = nI (n + 30)) ∧
  (∀ n : Nat, (30 : Int32) + nI n = nI (30 + n)) ∧
  (∀ n : Nat, nI n + (29 : Int32) = nI (n + 29)) ∧
  (∀ n : Nat, (29 : Int32) + nI n = nI (29 + n)) ∧
  (∀ n : Nat, nI n + (220 : Int32) = nI (n + 220)) ∧
  (∀ n : Nat, (220 : Int32) + nI n = nI (220 + n)) ∧
  (∀ n : Nat, 1 ≤ n → nI n - (1 : Int32) = nI (n - 1)) ∧
  (∀ n : Nat, 11 ≤ n → nI n - (11 : Int32) = nI (n - 11)) ∧
  (∀ n : Nat, 14 ≤ n → nI n - (14 : Int32) = nI (n - 14)) ∧
  (∀ n : Nat, 29 ≤ n → nI n - (29 : Int32) = nI (n - 29)) ∧
  (∀ n : Nat, 30 ≤ n → nI n - (30 : Int32) = nI (n - 30)) ∧
  (∀ n : Nat, 48 ≤ n → nI n - (48 : Int32) = nI (n - 48)) ∧
  (∀ n : Nat, (2 : Int32) * nI n = nI (2 * n)) ∧
  (∀ n : Nat, nI n * (2 : Int32) = nI (n * 2)) :=
  ⟨fun _ h => q_ll (k := 6000) (by omega) h,
  fun _ h => q_ln (k := 6000) (by omega) h,
  fun _ h => q_tl (k := 6000) (by omega) h,
  fun _ h => q_tn (k := 6000) (by omega) h,
  fun _ h => q_en (k := 6000) (by omega) h,
  fun _ h => q_el (k := 6000) (by omega) h,
  q_add 1,
  q_add' 1,
  q_add 20,
  q_add' 20,
  q_add 30,
  q_add' 30,
  q_add 29,
  q_add' 29,
  q_add 220,
  q_add' 220,
  fun _ h => q_sub (k := 1) h,
  fun _ h => q_sub (k := 11) h,
  fun _ h => q_sub (k := 14) h,
  fun _ h => q_sub (k := 29) h,
  fun _ h => q_sub (k := 30) h,
  fun _ h => q_sub (k := 48) h,
  q_mul 2,
  q_mul' 2⟩
theorem NL8 : (∀ n : Nat, (5 : Int32) * nI n = nI (5 * n)) ∧
  (∀ n : Nat, nI n * (5 : Int32) = nI (n * 5)) ∧
  (∀ n : Nat, (10 : Int32) * nI n = nI (10 * n)) ∧
  (∀ n : Nat, nI n * (10 : Int32) = nI (n * 10)) ∧
  (∀ n : Nat, (11 : Int32) * nI n = nI (11 * n)) ∧
  (∀ n : Nat, nI n * (11 : Int32) = nI (n * 11)) ∧
  (∀ n : Nat, (24 : Int32) * nI n = nI (24 * n)) ∧
  (∀ n : Nat, nI n * (24 : Int32) = nI (n * 24)) ∧
  (∀ n : Nat, (100 : Int32) * nI n = nI (100 * n)) ∧
  (∀ n : Nat, nI n * (100 : Int32) = nI (n * 100)) ∧
  (∀ n : Nat, (1000 : Int32) * nI n = nI (1000 * n)) ∧
  (∀ n : Nat, nI n * (1000 : Int32) = nI (n * 1000)) ∧
  ((0 : Int32).toNatClampNeg = 0) ∧
  (∀ (β : Type) (N : Nat) (f : Option β), 0 < N → N < 2 ^ 31 → gd (0 : Int32) N f = f) ∧
  ((1 : Int32).toNatClampNeg = 1) ∧
  (∀ (β : Type) (N : Nat) (f : Option β), 1 < N → N < 2 ^ 31 → gd (1 : Int32) N f = f) ∧
  ((2 : Int32).toNatClampNeg = 2) ∧
  (∀ (β : Type) (N : Nat) (f : Option β), 2 < N → N < 2 ^ 31 → gd (2 : Int32) N f = f) ∧
  ((3 : Int32).toNatClampNeg = 3) ∧
  (∀ (β : Type) (N : Nat) (f : Option β), 3 < N → N < 2 ^ 31 → gd (3 : Int32) N f = f) ∧
  ((4 : Int32).toNatClampNeg = 4) ∧
  (∀ (β : Type) (N : Nat) (f : Option β), 4 < N → N < 2 ^ 31 → gd (4 : Int32) N f = f) ∧
  ((5 : Int32).toNatClampNeg = 5) ∧
  (∀ (β : Type) (N : Nat) (f : Option β), 5 < N → N < 2 ^ 31 → gd (5 : Int32) N f = f) :=
  ⟨q_mul 5,
  q_mul' 5,
  q_mul 10,
  q_mul' 10,
  q_mul 11,
  q_mul' 11,
  q_mul 24,
  q_mul' 24,
  q_mul 100,
  q_mul' 100,
  q_mul 1000,
  q_mul' 1000,
  q_cl (k := 0) (by omega),
  fun _ _ _ h h2 => gd_l (k := 0) h h2,
  q_cl (k := 1) (by omega),
  fun _ _ _ h h2 => gd_l (k := 1) h h2,
  q_cl (k := 2) (by omega),
  fun _ _ _ h h2 => gd_l (k := 2) h h2,
  q_cl (k := 3) (by omega),
  fun _ _ _ h h2 => gd_l (k := 3) h h2,
  q_cl (k := 4) (by omega),
  fun _ _ _ h h2 => gd_l (k := 4) h h2,
  q_cl (k := 5) (by omega),
  fun _ _ _ h h2 => gd_l (k := 5) h h2⟩
theorem NL9 : ((6 : Int32).toNatClampNeg = 6) ∧
  (∀ (β : Type) (N : Nat) (f : Option β), 6 < N → N < 2 ^ 31 → gd (6 : Int32) N f = f) ∧
  ((7 : Int32).toNatClampNeg = 7) ∧
  (∀ (β : Type) (N : Nat) (f : Option β), 7 < N → N < 2 ^ 31 → gd (7 : Int32) N f = f) ∧
  ((8 : Int32).toNatClampNeg = 8) ∧
  (∀ (β : Type) (N : Nat) (f : Option β), 8 < N → N < 2 ^ 31 → gd (8 : Int32) N f = f) ∧
  ((9 : Int32).toNatClampNeg = 9) ∧
  (∀ (β : Type) (N : Nat) (f : Option β), 9 < N → N < 2 ^ 31 → gd (9 : Int32) N f = f) ∧
  ((10 : Int32).toNatClampNeg = 10) ∧
  (∀ (β : Type) (N : Nat) (f : Option β), 10 < N → N < 2 ^ 31 → gd (10 : Int32) N f = f) ∧
  ((11 : Int32).toNatClampNeg = 11) ∧
  (∀ (β : Type) (N : Nat) (f : Option β), 11 < N → N < 2 ^ 31 → gd (11 : Int32) N f = f) ∧
  ((229 : Int32).toNatClampNeg = 229) ∧
  (∀ (β : Type) (N : Nat) (f : Option β), 229 < N → N < 2 ^ 31 → gd (229 : Int32) N f = f) ∧
  ((230 : Int32).toNatClampNeg = 230) ∧
  (∀ (β : Type) (N : Nat) (f : Option β), 230 < N → N < 2 ^ 31 → gd (230 : Int32) N f = f) :=
  ⟨q_cl (k := 6) (by omega),
  fun _ _ _ h h2 => gd_l (k := 6) h h2,
  q_cl (k := 7) (by omega),
  fun _ _ _ h h2 => gd_l (k := 7) h h2,
  q_cl (k := 8) (by omega),
  fun _ _ _ h h2 => gd_l (k := 8) h h2,
  q_cl (k := 9) (by omega),
  fun _ _ _ h h2 => gd_l (k := 9) h h2,
  q_cl (k := 10) (by omega),
  fun _ _ _ h h2 => gd_l (k := 10) h h2,
  q_cl (k := 11) (by omega),
  fun _ _ _ h h2 => gd_l (k := 11) h h2,
  q_cl (k := 229) (by omega),
  fun _ _ _ h h2 => gd_l (k := 229) h h2,
  q_cl (k := 230) (by omega),
  fun _ _ _ h h2 => gd_l (k := 230) h h2⟩
theorem gn_p {β : Type} {i n : Nat} {f : Option β} (h : i < n) : gn i n f = f := if_pos h
theorem gk_p {β : Type} {k : Nat} {f : Option β} (h : 25 ≤ k ∧ k ≤ 45) : gk k f = f := if_pos h
theorem gz_0 {β : Type} {f : Option β} : gz 0 f = f := if_pos (by decide)
theorem gz_1 {β : Type} {f : Option β} : gz 1 f = f := if_pos (by decide)
/-- an int by a whole number -/
def iI (z : Int) : Int32 := Int32.ofInt z
theorem iI_toInt {z : Int} (h1 : -2147483648 ≤ z) (h2 : z < 2147483648) : (iI z).toInt = z := by
  unfold iI
  rw [Int32.toInt_ofInt]
  exact fb_bmod h1 h2
theorem iI_nat {n : Nat} (h : n < 2 ^ 31) : iI (n : Int) = nI n := by
  apply Int32.toInt_inj.mp
  rw [nI_toInt h, iI_toInt (by omega) (by omega)]
theorem iI_of (x : Int32) : iI x.toInt = x := by
  apply Int32.toInt_inj.mp
  have := fb_rng x
  rw [iI_toInt this.1 this.2]
theorem iI_add {a b : Int} (h1 : -1073741824 ≤ a) (h2 : a < 1073741824) (h3 : -1073741824 ≤ b) (h4 : b < 1073741824) : iI a + iI b = iI (a + b) := by
  apply Int32.toInt_inj.mp
  have ha := iI_toInt (z := a) (by omega) (by omega)
  have hb := iI_toInt (z := b) (by omega) (by omega)
  rw [fb_addI (by omega) (by omega), ha, hb, iI_toInt (by omega) (by omega)]
theorem iI_sub {a b : Int} (h1 : -1073741824 ≤ a) (h2 : a < 1073741824) (h3 : -1073741824 ≤ b) (h4 : b < 1073741824) : iI a - iI b = iI (a - b) := by
  apply Int32.toInt_inj.mp
  have ha := iI_toInt (z := a) (by omega) (by omega)
  have hb := iI_toInt (z := b) (by omega) (by omega)
  rw [fb_subI (by omega) (by omega), ha, hb, iI_toInt (by omega) (by omega)]
theorem iI_lt {a b : Int} (h1 : -2147483648 ≤ a) (h2 : a < 2147483648) (h3 : -2147483648 ≤ b) (h4 : b < 2147483648) : iI a < iI b ↔ a < b := by
  rw [fa_lt, iI_toInt h1 h2, iI_toInt h3 h4]
theorem iI_le {a b : Int} (h1 : -2147483648 ≤ a) (h2 : a < 2147483648) (h3 : -2147483648 ≤ b) (h4 : b < 2147483648) : iI a ≤ iI b ↔ a ≤ b := by
  rw [fa_le, iI_toInt h1 h2, iI_toInt h3 h4]
theorem iI_eq {a b : Int} (h1 : -2147483648 ≤ a) (h2 : a < 2147483648) (h3 : -2147483648 ≤ b) (h4 : b < 2147483648) : iI a = iI b ↔ a = b := by
  rw [fa_eq, iI_toInt h1 h2, iI_toInt h3 h4]
theorem iC {x y : Int} (h : x = y) : iI x = iI y := congrArg iI h
theorem kC {x y : Nat} (h : x = y) : nI x = nI y := congrArg nI h
theorem nI_z (x : Nat) : nI x + 0 = nI x := nI_add x 0
/-- yes or no for all of a stretch -/
def allB (n : Nat) (p : Nat → Bool) : Bool := decide (fb_ct (fun j => !p j) n = 0)
theorem allB_iff {n : Nat} {p : Nat → Bool} : allB n p = true ↔ ∀ j, j < n → p j = true := by
  unfold allB
  rw [decide_eq_true_iff, fb_ct_zero]
  constructor
  · intro h j hj
    have := h j hj
    simpa using this
  · intro h j hj
    rw [h j hj]
    rfl
theorem allB_f {n : Nat} {p : Nat → Bool} {j : Nat} (hj : j < n) (h : p j = false) : allB n p = false := by
  cases q : allB n p
  · rfl
  · rw [allB_iff.mp q j hj] at h
    cases h
/-- yes or no as an int -/
def bI (b : Bool) : Int32 := if b then 1 else 0
theorem bI_t : bI true = 1 := rfl
theorem bI_f : bI false = 0 := rfl
theorem bI_0 (b : Bool) : bI b = 0 ↔ b = false := by cases b <;> decide
theorem bI_1 (b : Bool) : bI b = 1 ↔ b = true := by cases b <;> decide
theorem bI_gz {β : Type} {b : Bool} {f : Option β} : gz (bI b) f = f := by cases b <;> exact if_pos (by decide)
theorem bI_inj (a b : Bool) : bI a = bI b ↔ a = b := by cases a <;> cases b <;> decide
theorem bI_ite (c : Prop) [Decidable c] : (if c then (1 : Int32) else 0) = bI (decide c) := by
  by_cases h : c <;> simp [h, bI]
theorem bI_nar (b : Bool) : vp_nar .boolean (bI b) = bI b := by cases b <;> decide
theorem nar_1 : vp_nar .boolean 1 = bI true := by decide
theorem nar_0 : vp_nar .boolean 0 = bI false := by decide
/-! ===== pure part: what comes out ===== -/
def Ok {α : Type} (x : Option α) (Q : α → Prop) : Prop := ∃ r, x = some r ∧ Q r
theorem Ok.sm {α : Type} {x : α} {Q : α → Prop} (h : Q x) : Ok (some x) Q := ⟨x, rfl, h⟩
theorem Ok.bd {α β : Type} {x : Option α} {f : α → Option β} {P : α → Prop} {Q : β → Prop} (h : Ok x P) (k : ∀ a, P a → Ok (f a) Q) : Ok (x.bind f) Q := by
  obtain ⟨a, e, p⟩ := h
  rw [e]
  exact k a p
theorem Ok.be {α β : Type} {x : Option α} {f : α → Option β} {a : α} {Q : β → Prop} (e : x = some a) (k : Ok (f a) Q) : Ok (x.bind f) Q := by
  rw [e]
  exact k
theorem Ok.gn {β : Type} {n N : Nat} {f : Option β} {Q : β → Prop} (h : n < N) (hN : N < 2 ^ 31) (k : Ok f Q) : Ok (gd (nI n) N f) Q := by
  rw [gd_nI h hN]
  exact k
theorem Ok.t {β : Type} {c : Prop} [Decidable c] {f g : Option β} {Q : β → Prop} (h : c) (k : Ok f Q) : Ok (if c then f else g) Q := by
  rw [if_pos h]
  exact k
theorem Ok.f {β : Type} {c : Prop} [Decidable c] {f g : Option β} {Q : β → Prop} (h : ¬ c) (k : Ok g Q) : Ok (if c then f else g) Q := by
  rw [if_neg h]
  exact k
theorem Ok.c {β : Type} {c : Prop} [Decidable c] {f g : Option β} {Q : β → Prop} (k1 : c → Ok f Q) (k2 : ¬ c → Ok g Q) : Ok (if c then f else g) Q := by
  by_cases h : c
  · rw [if_pos h]; exact k1 h
  · rw [if_neg h]; exact k2 h
theorem Ok.eq {α : Type} {x : Option α} {a : α} (h : Ok x (fun r => r = a)) : x = some a := by
  obtain ⟨r, e, rfl⟩ := h
  exact e
theorem Ok.of {α : Type} {x : Option α} {a : α} {Q : α → Prop} (e : x = some a) (h : Q a) : Ok x Q := ⟨a, e, h⟩
theorem Ok.imp {α : Type} {x : Option α} {P Q : α → Prop} (h : Ok x P) (k : ∀ a, P a → Q a) : Ok x Q := by
  obtain ⟨a, e, p⟩ := h
  exact ⟨a, e, k a p⟩
/-- a loop: at place i the state has I; N places at most -/
theorem loop_okF {σ ρ : Type} {body : σ → Option (σ ⊕ ρ)} {Q : ρ → Prop} (I : Nat → σ → Prop) (N : Nat)
    (step : ∀ i s, i ≤ N → I i s → Ok (body s) (fun t => (∃ s', t = .inl s' ∧ i < N ∧ I (i + 1) s') ∨ (∃ r, t = .inr r ∧ Q r))) :
    ∀ (F i : Nat) (s : σ), i ≤ N → N - i < F → I i s → Ok (loopF body F s) Q
  | 0, _, _, _, h, _ => absurd h (by omega)
  | F + 1, i, s, hi, hF, hI => by
    obtain ⟨t, e, h⟩ := step i s hi hI
    rcases h with ⟨s', rfl, h1, h2⟩ | ⟨r, rfl, h1⟩
    · simp only [loopF, e]
      exact loop_okF I N step F (i + 1) s' (by omega) (by omega) h2
    · simp only [loopF, e]
      exact ⟨r, rfl, h1⟩
theorem loop_ok {σ ρ : Type} {body : σ → Option (σ ⊕ ρ)} {Q : ρ → Prop} (I : Nat → σ → Prop) (N : Nat) (s : σ) (hN : N < 20000) (h0 : I 0 s)
    (step : ∀ i s, i ≤ N → I i s → Ok (body s) (fun t => (∃ s', t = .inl s' ∧ i < N ∧ I (i + 1) s') ∨ (∃ r, t = .inr r ∧ Q r))) : Ok (loopF body FU s) Q :=
  loop_okF I N step FU 0 s (Nat.zero_le N) (by unfold FU; omega) h0
theorem go {σ ρ : Type} {x : Option (σ ⊕ ρ)} {i N : Nat} {P : σ → Prop} {Q : ρ → Prop} {s' : σ} (e : x = some (.inl s')) (hi : i < N) (h : P s') : Ok x (fun t => (∃ s', t = .inl s' ∧ i < N ∧ P s') ∨ (∃ r, t = .inr r ∧ Q r)) :=
  ⟨_, e, Or.inl ⟨s', rfl, hi, h⟩⟩
theorem out {σ ρ : Type} {x : Option (σ ⊕ ρ)} {i N : Nat} {P : σ → Prop} {Q : ρ → Prop} {r : ρ} (e : x = some (.inr r)) (h : Q r) : Ok x (fun t => (∃ s', t = .inl s' ∧ i < N ∧ P s') ∨ (∃ r, t = .inr r ∧ Q r)) :=
  ⟨_, e, Or.inr ⟨r, rfl, h⟩⟩
/-- a loop that is all known ahead -/
theorem loop_eq {σ ρ : Type} {body : σ → Option (σ ⊕ ρ)} (s : Nat → σ) (N : Nat) {r : ρ} {s0 : σ} (h0 : s0 = s 0) (hN : N < 20000) (step : ∀ i, i < N → body (s i) = some (.inl (s (i + 1)))) (fin : body (s N) = some (.inr r)) : loopF body FU s0 = some r := by
  rw [h0]
  exact loopF_seq s N FU 0 (by unfold FU; omega) (fun j _ h => step j (by omega)) (by simpa using fin)
theorem its {α : Type} {c : Prop} [Decidable c] (a b : α) : (if c then some a else some b) = some (if c then a else b) := by split <;> rfl
theorem its_r {α β : Type} {c : Prop} [Decidable c] (a b : β) : (if c then some (.inr a : α ⊕ β) else some (.inr b)) = some (.inr (if c then a else b)) := by split <;> rfl
theorem bT {β : Type} (A : Option β) (B : Int32 → Option β) : ((some (1 : Int32)).bind (fun r => if r = 0 then A else B r)) = B 1 := rfl
theorem bF {β : Type} (A : Option β) (B : Int32 → Option β) : ((some (0 : Int32)).bind (fun r => if r = 0 then A else B r)) = A := rfl
/-! ===== pure part: reading a changed state ===== -/
theorem gI_sI_s (S : St) (k : Nat) (v : Int32) : gI (sI S k v) k = v := va_up_self _ _ _
theorem gI_sI_n (S : St) {k j : Nat} (v : Int32) (h : j ≠ k) : gI (sI S k v) j = gI S j := va_up_ne _ _ h
theorem gI_sM (S : St) (k j : Nat) (v : Int32) (i : Nat) : gI (sM S k j v) i = gI S i := rfl
theorem gI_sF (S : St) (k : Nat) (f : Nat → Int32) (i : Nat) : gI (sF S k f) i = gI S i := rfl
theorem gI_sC (S : St) (k j : Nat) (v : Int32) (i : Nat) : gI (sC S k j v) i = gI S i := rfl
theorem gI_sJ (S : St) (j : Nat) (v : Int64) (i : Nat) : gI (sJ S j v) i = gI S i := rfl
theorem gM_sI (S : St) (k : Nat) (v : Int32) (i : Nat) : gM (sI S k v) i = gM S i := rfl
theorem gM_sC (S : St) (k j : Nat) (v : Int32) (i : Nat) : gM (sC S k j v) i = gM S i := rfl
theorem gM_sJ (S : St) (j : Nat) (v : Int64) (i : Nat) : gM (sJ S j v) i = gM S i := rfl
theorem gM_sF_s (S : St) (k : Nat) (f : Nat → Int32) : gM (sF S k f) k = f := va_up_self _ _ _
theorem gM_sF_n (S : St) {k i : Nat} (f : Nat → Int32) (h : i ≠ k) : gM (sF S k f) i = gM S i := va_up_ne _ _ h
theorem gM_sM_s (S : St) (k j : Nat) (v : Int32) : gM (sM S k j v) k = upd (gM S k) j v := va_up_self _ _ _
theorem gM_sM_n (S : St) {k i : Nat} (j : Nat) (v : Int32) (h : i ≠ k) : gM (sM S k j v) i = gM S i := va_up_ne _ _ h
theorem gC_sI (S : St) (k : Nat) (v : Int32) (i f : Nat) : gC (sI S k v) i f = gC S i f := rfl
theorem gC_sM (S : St) (k j : Nat) (v : Int32) (i f : Nat) : gC (sM S k j v) i f = gC S i f := rfl
theorem gC_sF (S : St) (k : Nat) (g : Nat → Int32) (i f : Nat) : gC (sF S k g) i f = gC S i f := rfl
theorem gC_sJ (S : St) (j : Nat) (v : Int64) (i f : Nat) : gC (sJ S j v) i f = gC S i f := rfl
theorem gC_sC_s (S : St) (i f : Nat) (v : Int32) : gC (sC S i f v) i f = v := by simp [gC, sC, va_up]
theorem gC_sC_n (S : St) (i : Nat) {f g : Nat} (v : Int32) (h : g ≠ f) : gC (sC S i f v) i g = gC S i g := by simp [gC, sC, va_up, h]
theorem gC_sC_m (S : St) {i j : Nat} (f g : Nat) (v : Int32) (h : j ≠ i) : gC (sC S i f v) j g = gC S j g := by simp [gC, sC, va_up, h]
theorem nC_sI (S : St) (k : Nat) (v : Int32) : nC (sI S k v) = nC S := rfl
theorem nC_sM (S : St) (k j : Nat) (v : Int32) : nC (sM S k j v) = nC S := rfl
theorem nC_sF (S : St) (k : Nat) (g : Nat → Int32) : nC (sF S k g) = nC S := rfl
theorem nC_sC (S : St) (i f : Nat) (v : Int32) : nC (sC S i f v) = nC S := rfl
theorem nC_sJ (S : St) (j : Nat) (v : Int64) : nC (sJ S j v) = nC S := rfl
theorem gJ_sI (S : St) (k : Nat) (v : Int32) : gJ (sI S k v) = gJ S := rfl
theorem gJ_sM (S : St) (k j : Nat) (v : Int32) : gJ (sM S k j v) = gJ S := rfl
theorem gJ_sF (S : St) (k : Nat) (g : Nat → Int32) : gJ (sF S k g) = gJ S := rfl
theorem gJ_sC (S : St) (i f : Nat) (v : Int32) : gJ (sC S i f v) = gJ S := rfl
theorem gJ_sJ (S : St) (j : Nat) (v : Int64) : gJ (sJ S j v) = vp_updL (gJ S) j v := rfl
/-! ===== pure part: one bit ===== -/
theorem hb_eq (x : Int32) {l : Nat} (hl : l < 32) : ((x >>> (nI l &&& 31)) &&& 1) = bI (bt x l) := by
  apply b_ext
  intro i hi
  rw [b_and, b_sshr l hl x hi]
  have h1 : ∀ i, i < 32 → bt 1 i = decide (i = 0) := by decide +kernel
  have h2 : ∀ i, i < 32 → ∀ b, bt (bI b) i = (b && decide (i = 0)) := by decide +kernel
  rw [h1 i hi, h2 i hi]
  by_cases h : i = 0
  · subst h
    simp [hl]
  · simp [h]
theorem hasBit_eq (x : Int32) {l : Nat} (hl : l < 32) : f_X7_hasBit x (nI l) = some (bI (bt x l)) := by
  unfold f_X7_hasBit
  rw [hb_eq x hl]
  cases bt x l <;> decide
theorem bt_one {l i : Nat} (hl : l < 32) (hi : i < 32) : bt ((1 : Int32) <<< (nI l &&& 31)) i = decide (i = l) := by
  rw [b_shl l hl 1 hi]
  have h1 : ∀ i, i < 32 → bt 1 i = decide (i = 0) := by decide +kernel
  rw [h1 (i - l) (by omega)]
  by_cases h : i = l
  · subst h; simp
  · have : decide (i = l) = false := by simp [h]
    rw [this]
    by_cases h2 : l ≤ i
    · have : ¬ (i - l = 0) := by omega
      simp [h2, this]
    · simp [h2]
theorem bt_set (x : Int32) {l i : Nat} (hl : l < 32) (hi : i < 32) : bt (x ||| ((1 : Int32) <<< (nI l &&& 31))) i = (bt x i || decide (i = l)) := by
  rw [b_or, bt_one hl hi]
theorem bt_flip (x : Int32) {l i : Nat} (hl : l < 32) (hi : i < 32) : bt (x ^^^ ((1 : Int32) <<< (nI l &&& 31))) i = (bt x i ^^ decide (i = l)) := by
  rw [b_xor, bt_one hl hi]
theorem bt_clear (x : Int32) {l i : Nat} (hl : l < 32) (hi : i < 32) : bt (x &&& (((1 : Int32) <<< (nI l &&& 31)) ^^^ (-1))) i = (bt x i && !decide (i = l)) := by
  rw [b_and, b_xor, bt_one hl hi, b_m1 i hi]
  simp
/-- the five bits of a panel -/
def fld (h : Int32) (p : Nat) : Int32 := ((h >>> ((nI p * 5) &&& 31)) &&& 31)
theorem fld_bt (h : Int32) {p i : Nat} (hp : p < 6) (hi : i < 32) : bt (fld h p) i = (decide (i < 5) && bt h (5 * p + i)) := by
  unfold fld
  rw [q_mul', b_and, b_sshr (p * 5) (by omega) h hi]
  have h1 : ∀ i, i < 32 → bt 31 i = decide (i < 5) := by decide +kernel
  rw [h1 i hi]
  by_cases q : i < 5
  · rw [if_pos (by omega), Nat.mul_comm p 5, Bool.and_comm]
  · simp [q]
theorem fld_put (h v : Int32) {p q : Nat} (hp : p < 6) (hq : q < 6) (hv : ∀ i, 5 ≤ i → bt v i = false) : fld ((h &&& (((31 : Int32) <<< ((nI p * 5) &&& 31)) ^^^ (-1))) ||| (v <<< ((nI p * 5) &&& 31))) q = if q = p then v else fld h q := by
  have h1 : ∀ i, bt 31 i = decide (i < 5) := by
    intro i
    rcases Nat.lt_or_ge i 32 with q | q
    · exact (by decide +kernel : ∀ i, i < 32 → bt 31 i = decide (i < 5)) i q
    · rw [b_big q, decide_eq_false (by omega)]
  apply b_ext
  intro i hi
  rw [fld_bt _ hq hi]
  by_cases i5 : i < 5
  · rw [b_or, b_and, b_xor, b_m1 _ (by omega), q_mul', b_shl (p * 5) (by omega) _ (by omega), b_shl (p * 5) (by omega) _ (by omega), h1]
    by_cases e : q = p
    · subst e
      rw [if_pos rfl]
      have e1 : 5 * q + i - q * 5 = i := by omega
      have e2 : q * 5 ≤ 5 * q + i := by omega
      rw [e1]
      simp [i5, e2]
    · rw [if_neg e, fld_bt h hq hi]
      rcases Nat.lt_or_ge q p with g | g
      · have : ¬ (p * 5 ≤ 5 * q + i) := by omega
        simp [this, i5]
      · have e3 : ¬ (5 * q + i - p * 5 < 5) := by omega
        rw [hv (5 * q + i - p * 5) (by omega)]
        simp [e3, i5]
  · by_cases e : q = p
    · rw [if_pos e, hv i (by omega)]
      simp [i5]
    · rw [if_neg e, fld_bt h hq hi]
      simp [i5]
theorem small_bt : ∀ n, n < 32 → ∀ i, 5 ≤ i → bt (nI n) i = false := by
  intro n hn i hi
  rcases Nat.lt_or_ge i 32 with q | q
  · exact (by decide +kernel : ∀ n, n < 32 → ∀ i, i < 32 → 5 ≤ i → bt (nI n) i = false) n hn i q hi
  · exact b_big q
/-! ===== pure part: range checks of both ===== -/
theorem below_cases (p : Int32) {b c : Int32} (N : Nat) (hb : b = nI N) (hc : c.toInt = (N : Int) - 1) (hN : N < 2 ^ 31) :
    (f_X7_isBelow p b = some 0 ∧ f_X8_in p 0 c = some 0) ∨ ∃ n, n < N ∧ p = nI n ∧ f_X7_isBelow p b = some 1 ∧ f_X8_in p 0 c = some 1 := by
  subst hb
  unfold f_X7_isBelow f_X8_in
  by_cases h : p < 0
  · left
    rw [if_pos h, if_pos h]
    exact ⟨rfl, rfl⟩
  · obtain ⟨n, hn, rfl⟩ := nI_of h
    rw [if_neg h, if_neg h]
    have e : c < nI n ↔ N ≤ n := by
      rw [fa_lt, hc, nI_toInt hn]
      omega
    by_cases g : N ≤ n
    · left
      rw [if_pos ((nI_leI hN hn).mpr g), if_pos (e.mpr g)]
      exact ⟨rfl, rfl⟩
    · right
      refine ⟨n, by omega, rfl, ?_, ?_⟩
      · rw [if_neg (fun q => g ((nI_leI hN hn).mp q))]
      · rw [if_neg (fun q => g (e.mp q))]
theorem in_cases (p : Int32) {c : Int32} (N : Nat) (hc : c.toInt = (N : Int) - 1) (hN : N < 2 ^ 31) :
    (f_X8_in p (-1) c = some 0 ∧ (p < (-1) ∨ (∃ n, N ≤ n ∧ n < 2 ^ 31 ∧ p = nI n))) ∨ (f_X8_in p (-1) c = some 1 ∧ (p = -1 ∨ ∃ n, n < N ∧ p = nI n)) := by
  unfold f_X8_in
  by_cases h : p < (-1)
  · left
    rw [if_pos h]
    exact ⟨rfl, Or.inl h⟩
  · rw [if_neg h]
    by_cases z : p < 0
    · have e : p = -1 := by
        apply Int32.toInt_inj.mp
        rw [fa_lt, Int32.toInt_zero] at z
        rw [fa_lt, m1_toInt] at h
        rw [m1_toInt]
        omega
      right
      have : ¬ c < p := by
        rw [fa_lt, hc, e, m1_toInt]
        omega
      rw [if_neg this]
      exact ⟨rfl, Or.inl e⟩
    · obtain ⟨n, hn, rfl⟩ := nI_of z
      by_cases g : N ≤ n
      · left
        have : c < nI n := by
          rw [fa_lt, hc, nI_toInt hn]
          omega
        rw [if_pos this]
        exact ⟨rfl, Or.inr ⟨n, g, hn, rfl⟩⟩
      · right
        have : ¬ c < nI n := by
          rw [fa_lt, hc, nI_toInt hn]
          omega
        rw [if_neg this]
        exact ⟨rfl, Or.inr ⟨n, by omega, rfl⟩⟩
