def S00 : St := ((fun k => if k = 9 then -1 else 0), (fun k => if k = 13 then fill0 (fun _ => 0) 24 (-1) else if k = 16 then mn0 10 else fun _ => 0), (fun _ => 0), 0, fun _ _ => 0)
def T00 : St := ((fun k => if k = 8 then -1 else 0), (fun k => if k = 10 then tv0 100 else if k = 11 then fill0 (fun _ => 0) 6000 (-1) else fun _ => 0), (fun _ => 0), 0, fun _ _ => 0)
set_option maxHeartbeats 4000000 in
set_option maxRecDepth 100000 in
theorem start_w {G : GP} {A : Nat → Prop} {s : State} {H : Heap} {locs : List Loc} {rr : Nat → Nat} {q7 qr qr0 qr1 qs qs0 qp qp0 qp1 qp2 qp3 qp4 qp5 qp6 qn qn0 qn1 qn2 qn3 ql ql0 qc qc0 qc1 qc2 q8 r0 r1 r2 r3 r4 r5 r6 r7 r8 r9 r10 r11 r12 r13 r14 r15 r16 r17 r18 r19 r20 r21 r22 r23 r24 r25 r26 r27 r28 r29 r30 : Nat} (hw : Wd G A s H locs (([] ++ ([(q7, .inr (7, [.ref qr, .ref qs, .ref qp, .ref qn, .ref ql, .ref qc])), (qr, .inr (5, [.ref qr0, .int 0, .ref qr1, .int 0, .int 0, .int 0, .int 0, .int 0, .int 0, .int 0, .int 0, .int (-1)])), (qr0, .inl (G.2.1 0, 1000, .inl (fun _ => 0))), (qr1, .inl (G.2.1 1, 12, .inl (fun _ => 0))), (qs, .inr (6, [.ref qs0, .int 0])), (qs0, .inl (G.2.1 5, 20, .inr (.inr (.inr (.inr (fun i => if i < 20 then some (rr i) else none))))))] ++ ((List.range 20).map (fun i => (rr i, (.inl (G.2.1 1, 12, .inl (fun _ => 0)) : va_E))) ++ [(qp, .inr (3, [.ref qp0, .ref qp1, .ref qp2, .ref qp3, .ref qp4, .ref qp5, .ref qp6, .int 0])), (qp0, .inl (G.2.1 1, 24, .inl (fun _ => 0))), (qp1, .inl (G.2.1 1, 24, .inl (fun _ => 0))), (qp2, .inl (G.2.1 1, 24, .inl (fun _ => 0))), (qp3, .inl (G.2.1 1, 24, .inl (fill0 (fun _ => 0) 24 (-1)))), (qp4, .inl (G.2.1 1, 24, .inl (fun _ => 0))), (qp5, .inl (G.2.1 1, 1000, .inl (fun _ => 0))), (qp6, .inl (G.2.1 1, 100, .inl (mn0 10))), (qn, .inr (2, [.ref qp, .ref qs, .ref qn0, .ref qn1, .ref qn2, .ref qn3])), (qn0, .inl (G.2.1 1, 1000, .inl (fun _ => 0))), (qn1, .inl (G.2.1 1, 1000, .inl (fun _ => 0))), (qn2, .inl (G.2.1 1, 24, .inl (fun _ => 0))), (qn3, .inl (G.2.1 1, 24, .inl (fun _ => 0))), (ql, .inr (4, [.ref qp, .ref qn, .ref ql0])), (ql0, .inl (G.2.1 2, 16, .inr (.inl (fun _ => 0)))), (qc, .inr (1, [.ref qp, .ref qs, .ref qn, .ref qc0, .int 0, .ref qc1, .ref qc2])), (qc0, .inl (G.2.1 4, 150, .inr (.inr (.inr (.inr (fun _ => none)))))), (qc1, .inl (G.2.1 1, 100, .inl (fun _ => 0))), (qc2, .inl (G.2.1 1, 100, .inl (fun _ => 0)))]))) ++ [(q8, .inr (8, [.ref r0, .int 0, .int 0, .int 0, .int 0, .int 0, .int 0, .int 0, .int 0, .int (-1), .ref r1, .ref r2, .int 0, .ref r3, .int 0, .ref r4, .ref r5, .ref r6, .ref r7, .ref r8, .ref r9, .ref r10, .ref r11, .ref r12, .ref r13, .int 0, .int 0, .int 0, .ref r14, .ref r15, .ref r16, .ref r17, .ref r18, .ref r19, .ref r20, .ref r21, .ref r22, .ref r23, .ref r24, .ref r25, .ref r26, .ref r27, .ref r28, .ref r29, .ref r30])), (r0, .inl (G.2.1 0, 1000, .inl (fun _ => 0))), (r1, .inl (G.2.1 1, 242, .inl (fun _ => 0))), (r2, .inl (G.2.1 1, 21, .inl (fun _ => 0))), (r3, .inl (G.2.1 3, 11, .inl (fun _ => 0))), (r4, .inl (G.2.1 1, 24, .inl (fun _ => 0))), (r5, .inl (G.2.1 1, 24, .inl (fun _ => 0))), (r6, .inl (G.2.1 1, 24, .inl (fun _ => 0))), (r7, .inl (G.2.1 1, 24, .inl (fun _ => 0))), (r8, .inl (G.2.1 3, 24000, .inl (fun _ => 0))), (r9, .inl (G.2.1 1, 100, .inl (tv0 100))), (r10, .inl (G.2.1 1, 6000, .inl (fill0 (fun _ => 0) 6000 (-1)))), (r11, .inl (G.2.1 1, 6, .inl (fun _ => 0))), (r12, .inl (G.2.1 1, 6, .inl (fun _ => 0))), (r13, .inl (G.2.1 1, 24, .inl (fun _ => 0))), (r14, .inl (G.2.1 1, 150, .inl (fun _ => 0))), (r15, .inl (G.2.1 1, 150, .inl (fun _ => 0))), (r16, .inl (G.2.1 1, 150, .inl (fun _ => 0))), (r17, .inl (G.2.1 1, 150, .inl (fun _ => 0))), (r18, .inl (G.2.1 1, 150, .inl (fun _ => 0))), (r19, .inl (G.2.1 1, 150, .inl (fun _ => 0))), (r20, .inl (G.2.1 1, 150, .inl (fun _ => 0))), (r21, .inl (G.2.1 1, 150, .inl (fun _ => 0))), (r22, .inl (G.2.1 1, 150, .inl (fun _ => 0))), (r23, .inl (G.2.1 1, 150, .inl (fun _ => 0))), (r24, .inl (G.2.1 1, 150, .inl (fun _ => 0))), (r25, .inl (G.2.1 1, 150, .inl (fun _ => 0))), (r26, .inl (G.2.1 3, 150, .inl (fun _ => 0))), (r27, .inl (G.2.1 1, 150, .inl (fun _ => 0))), (r28, .inl (G.2.1 3, 3600, .inl (fun _ => 0))), (r29, .inl (G.2.1 3, 2400, .inl (fun _ => 0))), (r30, .inl (G.2.1 3, 1000, .inl (fun _ => 0)))])) : ∃ a b2 : Nat → Nat, a 0 = q7 ∧ b2 0 = q8 ∧ a 45 = G.2.2.1 ∧ Wd G A s H locs (xw G.2.1 a (mw G.2.1 b2 [] T00) S00) := by
  have hr : ∀ i, i < 20 → ([q7, qr, qs, qp, qn, ql, qc, qr0, qr1, qs0, qp0, qp1, qp2, qp3, qp4, qp5, qp6, qn0, qn1, qn2, qn3, ql0, qc0, qc1, qc2, rr 0, rr 1, rr 2, rr 3, rr 4, rr 5, rr 6, rr 7, rr 8, rr 9, rr 10, rr 11, rr 12, rr 13, rr 14, rr 15, rr 16, rr 17, rr 18, rr 19, G.2.2.1] : List Nat).getD (25 + i) 0 = rr i := by
    intro i hi
    match i, hi with
    | 0, _ => rfl
    | 1, _ => rfl
    | 2, _ => rfl
    | 3, _ => rfl
    | 4, _ => rfl
    | 5, _ => rfl
    | 6, _ => rfl
    | 7, _ => rfl
    | 8, _ => rfl
    | 9, _ => rfl
    | 10, _ => rfl
    | 11, _ => rfl
    | 12, _ => rfl
    | 13, _ => rfl
    | 14, _ => rfl
    | 15, _ => rfl
    | 16, _ => rfl
    | 17, _ => rfl
    | 18, _ => rfl
    | 19, _ => rfl
    | n + 20, h => exact absurd h (by omega)
  have e1 : (fun i => if i < 20 then some (rr i) else none) = (fun i => if i < 20 then some (([q7, qr, qs, qp, qn, ql, qc, qr0, qr1, qs0, qp0, qp1, qp2, qp3, qp4, qp5, qp6, qn0, qn1, qn2, qn3, ql0, qc0, qc1, qc2, rr 0, rr 1, rr 2, rr 3, rr 4, rr 5, rr 6, rr 7, rr 8, rr 9, rr 10, rr 11, rr 12, rr 13, rr 14, rr 15, rr 16, rr 17, rr 18, rr 19, G.2.2.1] : List Nat).getD (25 + i) 0) else none) := by
    funext i
    by_cases h : i < 20
    · rw [if_pos h, if_pos h, hr i h]
    · rw [if_neg h, if_neg h]
  have e2 : (fun _ => none : Nat → Option Nat) = (fun i => if i < nC S00 then some (([q7, qr, qs, qp, qn, ql, qc, qr0, qr1, qs0, qp0, qp1, qp2, qp3, qp4, qp5, qp6, qn0, qn1, qn2, qn3, ql0, qc0, qc1, qc2, rr 0, rr 1, rr 2, rr 3, rr 4, rr 5, rr 6, rr 7, rr 8, rr 9, rr 10, rr 11, rr 12, rr 13, rr 14, rr 15, rr 16, rr 17, rr 18, rr 19, G.2.2.1] : List Nat).getD (50 + i) 0) else none) := by
    funext i
    rw [if_neg (show ¬ i < nC S00 from Nat.not_lt_zero i)]
  rw [e1, e2] at hw
  refine ⟨fun k => ([q7, qr, qs, qp, qn, ql, qc, qr0, qr1, qs0, qp0, qp1, qp2, qp3, qp4, qp5, qp6, qn0, qn1, qn2, qn3, ql0, qc0, qc1, qc2, rr 0, rr 1, rr 2, rr 3, rr 4, rr 5, rr 6, rr 7, rr 8, rr 9, rr 10, rr 11, rr 12, rr 13, rr 14, rr 15, rr 16, rr 17, rr 18, rr 19, G.2.2.1] : List Nat).getD k 0, fun k => ([q8, r0, r1, r2, r3, r4, r5, r6, r7, r8, r9, r10, r11, r12, r13, r14, r15, r16, r17, r18, r19, r20, r21, r22, r23, r24, r25, r26, r27, r28, r29, r30] : List Nat).getD k 0, rfl, rfl, rfl, hw.1.sub [0, 1, 4, 26, 34, 39, 41, 2, 3, 5, 27, 28, 29, 30, 31, 32, 33, 35, 36, 37, 38, 40, 42, 43, 44, 6, 7, 8, 9, 10, 11, 12, 13, 14, 15, 16, 17, 18, 19, 20, 21, 22, 23, 24, 25, 45, 46, 47, 48, 49, 50, 51, 52, 53, 54, 55, 56, 57, 58, 59, 60, 61, 62, 63, 64, 65, 66, 67, 68, 69, 70, 71, 72, 73, 74, 75, 76] ?_, hw.2.1.sub [0, 1, 4, 26, 34, 39, 41, 2, 3, 5, 27, 28, 29, 30, 31, 32, 33, 35, 36, 37, 38, 40, 42, 43, 44, 6, 7, 8, 9, 10, 11, 12, 13, 14, 15, 16, 17, 18, 19, 20, 21, 22, 23, 24, 25, 45, 46, 47, 48, 49, 50, 51, 52, 53, 54, 55, 56, 57, 58, 59, 60, 61, 62, 63, 64, 65, 66, 67, 68, 69, 70, 71, 72, 73, 74, 75, 76] (by decide +kernel) ?_, hw.2.2⟩
  · rfl
  · rfl
