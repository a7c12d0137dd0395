/-! ===== pure part: the two new objects ===== -/
theorem dt00 {p d : Nat} (hp : p < 6) (hd' : d < 1000) : dt T00 p d = -1 := by
  show fill0 (fun _ => 0) 6000 (-1) (1000 * p + d) = -1
  unfold fill0
  rw [if_pos (by omega)]
theorem c600 {l d : Nat} (hl : l < 24) (hd' : d < 1000) : c6 T00 l d = 0 := by
  unfold c6
  rw [fb_ct_zero]
  intro k hk
  rw [dt00 hk hd']
  simp (disch := omega) only [q_m1', decide_false]
theorem rel00 : Rel S00 T00 := by
  refine ⟨⟨0, by omega, rfl, rfl, fun _ _ => rfl, fun _ _ => ?_⟩, ⟨rfl, rfl⟩, 0, 0, 0, ⟨⟨by omega, rfl, fun e he => by omega⟩, rfl, fun e he => by omega⟩, ⟨by omega, rfl, rfl, fun l hl => by omega, fun l _ hl => ?_, fun l d _ _ => ?_, fun k hk => ?_⟩, ⟨⟨fun p d hp hd' => Or.inl (dt00 hp hd'), fun p q d l hp hq hd' hl h1 _ => ?_⟩, fun p d hp hd' => ?_, fun l d hl hd' => ?_, fun l hl => ?_⟩, ⟨fun l c _ _ => ?_, fun c a _ _ => ?_⟩, ⟨by omega, rfl, rfl, rfl, fun i hi => by omega, fun l hl => rfl⟩⟩
  · show -128 ≤ (0 : Int32).toInt ∧ (0 : Int32).toInt < 128
    decide
  · show fill0 (fun _ => 0) 24 (-1) l = -1
    unfold fill0
    rw [if_pos hl]
  · show (0 : Int32) = bI (bt 0 l)
    rw [b_0]
    rfl
  · show mn0 10 k = tv0 100 k ∧ (tv0 100 k = -1 ∨ ∃ m, m ≤ 600 ∧ tv0 100 k = nI m)
    unfold mn0 tv0
    rw [if_pos hk, if_pos hk]
    by_cases a : k % 11 = 0
    · rw [if_pos ⟨a, by omega⟩, if_pos a]
      exact ⟨rfl, Or.inr ⟨10, by omega, rfl⟩⟩
    · rw [if_neg (fun z => a z.1), if_neg a]
      exact ⟨rfl, Or.inl rfl⟩
  · rw [dt00 hp hd'] at h1
    exact absurd h1 (by simp (disch := omega) only [q_m1', not_false_eq_true])
  · rw [dt00 hp hd']
    show fld 0 p = -1 + 1
    exact (by decide +kernel : ∀ p, p < 6 → fld 0 p = -1 + 1) p hp
  · show bt 0 l = hd T00 l d
    unfold hd
    rw [c600 hl hd', b_0]
    rfl
  · show (0 : Int32) = nI (dtn T00 l 1000)
    have : dtn T00 l 1000 = 0 := by
      unfold dtn
      have h : ∀ n, n ≤ 1000 → fb_sm (c6 T00 l) n = 0 := by
        intro n
        induction n with
        | zero => intro _; rfl
        | succ n ih =>
          intro hn
          rw [fb_sm_succ, ih (by omega), c600 hl (by omega)]
      exact h 1000 (Nat.le_refl _)
    rw [this]
    rfl
  · show (0 : Int32) = bI (bt 0 l)
    rw [b_0]
    rfl
  · show (0 : Int32) = bI (bt 0 a)
    rw [b_0]
    rfl
