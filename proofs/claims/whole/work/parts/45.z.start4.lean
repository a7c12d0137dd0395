theorem nw_le18 : ∀ i, i < 18 → scL.getD i 0 < 2 ^ 31 := by decide +kernel
theorem nw_pa : (Cond.arrayOf (.static "DutyDesk" "PLAIN_TEXT" "[I") .int) ∈ nwL := by decide +kernel
theorem nw_pl : (Cond.eq (.length (.static "DutyDesk" "PLAIN_TEXT" "[I")) (.int (Int32.ofNat 12))) ∈ nwL := by decide +kernel
theorem nw_pe : ∀ j, j < 12 → (Cond.eq (.elem (.static "DutyDesk" "PLAIN_TEXT" "[I") (.int (Int32.ofNat j))) (.int (plF j))) ∈ nwL := by decide +kernel
theorem nw_cs : (Cond.eq (.static "java/lang/String" "COMPACT_STRINGS" "Z") (.int 1)) ∈ nwL := by decide +kernel
theorem nw_sf : (Cond.isRef (.static "jdk/internal/util/Preconditions" "SIOOBE_FORMATTER" "Ljava/util/function/BiFunction;")) ∈ nwL := by decide +kernel
theorem arr_of {ty : FieldType} {args : Array Value} {s : State} (h : (Cond.arrayClass ty).before args s = true) : ∃ cA : ClassId, ArrOfT s cA ty ∧ s.vm.findClass ("[" ++ ty.toString) = some cA := by
  obtain ⟨cA, kA, comp, h1, h2, h3⟩ := Cond.arrayClass_spec h
  exact ⟨cA, fun n z => ⟨fun k h => (by cases h), kA, h2, comp, h3⟩, h1⟩
theorem arr_ofC {C : String} {s : State} (h : va_AO C s) : ∃ cA : ClassId, ArrOfT s cA (.object C) ∧ va_RA s cA (.object C) := by
  obtain ⟨comp, c, k, h1, h2, h3, h4, h5⟩ := Cond.arrayOver_spec h
  exact ⟨c, fun n z => ⟨fun k h => (by cases h), k, h3, comp, h4⟩, k, comp, h3, h4, h1, h5⟩
theorem arr_ofA {ty : FieldType} {s : State} (h : va_AOA ty s) : ∃ cA : ClassId, ArrOfT s cA (.array ty) ∧ va_RA s cA (.array ty) := by
  unfold va_AOA at h
  simp only [Cond.before, Cond.holds, Cond.value, beq_iff_eq, Option.bind_eq_some_iff, Option.map_eq_some_iff] at h
  obtain ⟨comp, h1, c, h2, k, h3, h4⟩ := h
  cases hkind : k.kind with
  | array component t =>
    rw [hkind] at h4
    simp only [Bool.and_eq_true, decide_eq_true_eq] at h4
    exact ⟨c, fun n z => ⟨fun k h => (by cases h), k, h3, component, by rw [hkind, h4.1]⟩, h4.2⟩
  | _ => rw [hkind] at h4; simp at h4
set_option maxHeartbeats 4000000 in
set_option maxRecDepth 100000 in
theorem g_start {p : Program} {s : State} {m : MethodId} {meth : Method} {c : Code} {b L : Nat} {xs : Nat → Int32} (C0 : lw_At p s m meth c b L xs) : ∃ G : GP, Gb G (fun q : Nat => s.heap.size ≤ q) s s.heap ∧ Ao s := by
  obtain ⟨hx, hb, hr, hml, hown, hts, hX, hbl, hlocks, hgv⟩ := C0
  have hA : ∀ a : Nat, a < s.heap.size → ¬ (fun q : Nat => s.heap.size ≤ q) a := fun a h => Nat.not_le.mpr h
  have hn : ∀ w ∈ nwL, w.before #[Value.ref b] s = true := flat_of_before _ hgv
  obtain ⟨c0, j0, hK0⟩ := u_known (C := RX0) (T := TX0) (N := 15) (n := 15) hts wlu_wsX00 (hts _ gnt_i0)
  obtain ⟨c1, j1, hK1⟩ := u_known (C := RX1) (T := TX1) (N := 7) (n := 7) hts wlu_wsX10 (hts _ gnt_i1)
  obtain ⟨c2, j2, hK2⟩ := u_known (C := RX2) (T := TX2) (N := 6) (n := 6) hts wlu_wsX20 (hts _ gnt_i2)
  obtain ⟨c3, j3, hK3⟩ := u_known (C := RX3) (T := TX3) (N := 8) (n := 8) hts wlu_wsX30 (hts _ gnt_i3)
  obtain ⟨c4, j4, hK4⟩ := u_known (C := RX4) (T := TX4) (N := 3) (n := 3) hts wlu_wsX40 (hts _ gnt_i4)
  obtain ⟨c5, j5, hK5⟩ := u_known (C := RX5) (T := TX5) (N := 12) (n := 12) hts wlu_wsX50 (hts _ gnt_i5)
  obtain ⟨c6, j6, hK6⟩ := u_known (C := RX6) (T := TX6) (N := 2) (n := 2) hts wlu_wsX60 (hts _ gnt_i6)
  obtain ⟨c7, j7, hK7⟩ := u_known (C := RX7) (T := TX7) (N := 6) (n := 6) hts wlu_wsX70 (hts _ gnt_i7)
  obtain ⟨c8, j8, hK8⟩ := u_known (C := RX8) (T := TX8) (N := 45) (n := 45) hts wlu_wsX80 (hts _ gnt_i8)
  have hO : Ao s := ⟨va_AO.of (hts _ gnt_ao), va_AOA.of (hts _ gnt_aa)⟩
  obtain ⟨k0, a0, b0⟩ := arr_of (hts _ gnt_ab)
  obtain ⟨k1, a1, b1⟩ := arr_of (hts _ gnt_ai)
  obtain ⟨k2, a2, b2⟩ := arr_of (hts _ gnt_aj)
  obtain ⟨k3, a3, b3⟩ := arr_of (hts _ gnt_az)
  obtain ⟨k4, a4, b4⟩ := arr_ofC hO.1
  obtain ⟨k5, a5, b5⟩ := arr_ofA hO.2
  obtain ⟨t, ht, hT⟩ := va_Tof (ty := .int) (N := 12) (f := fun j => .int (plF j)) (A := fun q : Nat => s.heap.size ≤ q) (by decide) (hn _ nw_pa) (va_eqt (hn _ nw_pl)) (fun j hj => va_eqt (hn _ (nw_pe j hj))) hA
  obtain ⟨adK, adV, hS, hE⟩ := vk_Sof (tm := tmS) (byt := scB) (A := fun q : Nat => s.heap.size ≤ q) nw_le18 (fun i hi => hn _ (nw_ex i hi)) (fun i hi => hn _ (nw_co i hi)) (fun i hi => hn _ (nw_ar i hi)) (fun i hi => hn _ (nw_le i hi)) (fun i hi j hj => hn _ (nw_el i hi j hj)) (fun i j hi hj hij => by
    rcases Nat.lt_or_gt_of_ne hij with q | q
    · exact Or.inl (hn _ (nw_ne j hj i q))
    · exact Or.inr (hn _ (nw_ne i hi j q))) hA
  refine ⟨((fun k => ([c0, c1, c2, c3, c4, c5, c6, c7, c8] : List ClassId).getD k c0, fun k => ([j0, j1, j2, j3, j4, j5, j6, j7, j8] : List (Nat → Nat)).getD k j0), (fun k => ([k0, k1, k2, k3, k4, k5] : List ClassId).getD k k0), t, adK, adV), ⟨⟨?_, ?_⟩, fun w hw => va_Nw.of (gnW_tb w hw) (hts w (gnW_in w hw)), va_Zref (hts _ gnt_lp) (hts _ gnt_ip) ht hA, hT, va_Zof (hts _ gnt_lc) (hts _ gnt_ic) (va_eqi (hn _ nw_cs)) hA, va_Zqof (hts _ gnt_lq) (hts _ gnt_iq) (hn _ nw_sf) hA, hS, fun i hi => vk_R.of (hts _ (str_in i hi)) (hE i hi)⟩, hO⟩
  · intro k q hq
    match k, hq with
    | 0, hq => cases hq; exact hK0
    | 1, hq => cases hq; exact hK1
    | 2, hq => cases hq; exact hK2
    | 3, hq => cases hq; exact hK3
    | 4, hq => cases hq; exact hK4
    | 5, hq => cases hq; exact hK5
    | 6, hq => cases hq; exact hK6
    | 7, hq => cases hq; exact hK7
    | 8, hq => cases hq; exact hK8
    | k + 9, hq => simp at hq
  · intro k q hq
    match k, hq with
    | 0, hq => cases hq; exact ⟨a0, b0⟩
    | 1, hq => cases hq; exact ⟨a1, b1⟩
    | 2, hq => cases hq; exact ⟨a2, b2⟩
    | 3, hq => cases hq; exact ⟨a3, b3⟩
    | 4, hq => cases hq; exact ⟨a4, b4⟩
    | 5, hq => cases hq; exact ⟨a5, b5⟩
    | k + 6, hq => simp [tyG] at hq
