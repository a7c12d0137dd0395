def Rel (S T : St) : Prop := S = S ∧ T = T
theorem op_feed {S T : St} (h : Rel S T) (p1 p2 p3 p4 p5 : Int32) : ∃ (r : Int32) (S2 T2 : St), (f_X7_feed S p1 p2 p3 p4 p5 = some (r, S2)) ∧ (f_X8_feed T p1 p2 p3 p4 p5 = some (r, T2)) ∧ Rel S2 T2 := by
  sorry
theorem op_end {S T : St} (h : Rel S T) (p1 : Int32) : ∃ (r : Int32) (S2 T2 : St), (f_X7_end S p1 = some (r, S2)) ∧ (f_X8_end T p1 = some (r, T2)) ∧ Rel S2 T2 := by
  sorry
theorem op_enter {S T : St} (h : Rel S T) (p1 p2 p3 : Int32) : ∃ (r : Int32) (S2 T2 : St), (f_X7_enter S p1 p2 p3 = some (r, S2)) ∧ (f_X8_enter T p1 p2 p3 = some (r, T2)) ∧ Rel S2 T2 := by
  sorry
theorem op_away {S T : St} (h : Rel S T) (p1 p2 p3 : Int32) (hz : p3 = 0 ∨ p3 = 1) : ∃ (r : Int32) (S2 T2 : St), (f_X7_away S p1 p2 p3 = some (r, S2)) ∧ (f_X8_away T p1 p2 p3 = some (r, T2)) ∧ Rel S2 T2 := by
  sorry
theorem op_strike {S T : St} (h : Rel S T) (p1 p2 : Int32) : ∃ (r : Int32) (S2 T2 : St), (f_X7_strike S p1 p2 = some (r, S2)) ∧ (f_X8_strike T p1 p2 = some (r, T2)) ∧ Rel S2 T2 := by
  sorry
theorem op_travel {S T : St} (h : Rel S T) (p1 p2 p3 : Int32) : ∃ (r : Int32) (S2 T2 : St), (f_X7_travel S p1 p2 p3 = some (r, S2)) ∧ (f_X8_travel T p1 p2 p3 = some (r, T2)) ∧ Rel S2 T2 := by
  sorry
theorem op_lawyer {S T : St} (h : Rel S T) (p1 p2 : Int32) : ∃ (r : Int32) (S2 T2 : St), (f_X7_lawyer S p1 p2 = some r ∧ S2 = S) ∧ (f_X8_lawyer T p1 p2 = some r ∧ T2 = T) ∧ Rel S2 T2 := by
  sorry
theorem op_edition {S T : St} (h : Rel S T) (p1 : Int32) : ∃ (r : Int32) (S2 T2 : St), (f_X7_edition S p1 = some (r, S2)) ∧ (f_X8_edition T p1 = some (r, T2)) ∧ Rel S2 T2 := by
  sorry
theorem op_fault {S T : St} (h : Rel S T) (p1 : Int32) : ∃ (r : Int32) (S2 T2 : St), (f_X7_fault S p1 = some r ∧ S2 = S) ∧ (f_X8_fault T p1 = some r ∧ T2 = T) ∧ Rel S2 T2 := by
  sorry
theorem op_inForce {S T : St} (h : Rel S T) (p1 p2 : Int32) : ∃ (r : Int32) (S2 T2 : St), (f_X7_inForce S p1 p2 = some r ∧ S2 = S) ∧ (f_X8_inForce T p1 p2 = some r ∧ T2 = T) ∧ Rel S2 T2 := by
  sorry
theorem op_rule {S T : St} (h : Rel S T) (p1 p2 : Int32) : ∃ (r : Int32) (S2 T2 : St), (f_X7_rule S p1 p2 = some r ∧ S2 = S) ∧ (f_X8_rule T p1 p2 = some r ∧ T2 = T) ∧ Rel S2 T2 := by
  sorry
theorem op_duty {S T : St} (h : Rel S T) (p1 p2 p3 : Int32) : ∃ (r : Int32) (S2 T2 : St), (f_X7_duty S p1 p2 p3 = some (r, S2)) ∧ (f_X8_duty T p1 p2 p3 = some (r, T2)) ∧ Rel S2 T2 := by
  sorry
theorem op_onDuty {S T : St} (h : Rel S T) (p1 p2 : Int32) : ∃ (r : Int32) (S2 T2 : St), (f_X7_onDuty S p1 p2 = some r ∧ S2 = S) ∧ (f_X8_onDuty T p1 p2 = some r ∧ T2 = T) ∧ Rel S2 T2 := by
  sorry
theorem op_plan {S T : St} (h : Rel S T) (p1 p2 p3 : Int32) : ∃ (r : Int32) (S2 T2 : St), (f_X7_plan S p1 p2 p3 = some (r, S2)) ∧ (f_X8_plan T p1 p2 p3 = some (r, T2)) ∧ Rel S2 T2 := by
  sorry
theorem op_uneven {S T : St} (h : Rel S T) : ∃ (r : Int32) (S2 T2 : St), (f_X7_uneven S = some r ∧ S2 = S) ∧ (f_X8_uneven T = some r ∧ T2 = T) ∧ Rel S2 T2 := by
  sorry
theorem op_against {S T : St} (h : Rel S T) (p1 p2 : Int32) : ∃ (r : Int32) (S2 T2 : St), (f_X7_against S p1 p2 = some (r, S2)) ∧ (f_X8_against T p1 p2 = some (r, T2)) ∧ Rel S2 T2 := by
  sorry
theorem op_waive {S T : St} (h : Rel S T) (p1 p2 : Int32) : ∃ (r : Int32) (S2 T2 : St), (f_X7_waive S p1 p2 = some (r, S2)) ∧ (f_X8_waive T p1 p2 = some (r, T2)) ∧ Rel S2 T2 := by
  sorry
theorem op_call {S T : St} (h : Rel S T) (p1 p2 p3 p4 p5 p6 p7 : Int32) : ∃ (r : Int32) (S2 T2 : St), (f_X7_call S p1 p2 p3 p4 p5 p6 p7 = some (r, S2)) ∧ (f_X8_call T p1 p2 p3 p4 p5 p6 p7 = some (r, T2)) ∧ Rel S2 T2 := by
  sorry
theorem op_asked {S T : St} (h : Rel S T) (p1 : Int32) : ∃ (r : Int32) (S2 T2 : St), (f_X7_asked S p1 = some r ∧ S2 = S) ∧ (f_X8_asked T p1 = some r ∧ T2 = T) ∧ Rel S2 T2 := by
  sorry
theorem op_answer {S T : St} (h : Rel S T) (p1 p2 : Int32) (hz : p2 = 0 ∨ p2 = 1) : ∃ (r : Int32) (S2 T2 : St), (f_X7_answer S p1 p2 = some (r, S2)) ∧ (f_X8_answer T p1 p2 = some (r, T2)) ∧ Rel S2 T2 := by
  sorry
theorem op_told {S T : St} (h : Rel S T) (p1 p2 : Int32) : ∃ (r : Int32) (S2 T2 : St), (f_X7_told S p1 p2 = some r ∧ S2 = S) ∧ (f_X8_told T p1 p2 = some r ∧ T2 = T) ∧ Rel S2 T2 := by
  sorry
theorem op_barred {S T : St} (h : Rel S T) (p1 p2 : Int32) : ∃ (r : Int32) (S2 T2 : St), (f_X7_barred S p1 p2 = some r ∧ S2 = S) ∧ (f_X8_barred T p1 p2 = some r ∧ T2 = T) ∧ Rel S2 T2 := by
  sorry
theorem op_claim {S T : St} (h : Rel S T) (p1 p2 : Int32) : ∃ (r : Int32) (S2 T2 : St), (f_X7_claim S p1 p2 = some r ∧ S2 = S) ∧ (f_X8_claim T p1 p2 = some r ∧ T2 = T) ∧ Rel S2 T2 := by
  sorry
theorem op_line {S T : St} (h : Rel S T) (p1 p2 p3 : Int32) : ∃ (r : Int32) (S2 T2 : St), (f_X7_line S p1 p2 p3 = some r ∧ S2 = S) ∧ (f_X8_line T p1 p2 p3 = some r ∧ T2 = T) ∧ Rel S2 T2 := by
  sorry
theorem op_pay {S T : St} (h : Rel S T) (p1 : Int32) : ∃ (r : Int32) (S2 T2 : St), (f_X7_pay S p1 = some (r, S2)) ∧ (f_X8_pay T p1 = some (r, T2)) ∧ Rel S2 T2 := by
  sorry
theorem op_paid {S T : St} (h : Rel S T) (p1 : Int32) : ∃ (r : Int32) (S2 T2 : St), (f_X7_paid S p1 = some r ∧ S2 = S) ∧ (f_X8_paid T p1 = some r ∧ T2 = T) ∧ Rel S2 T2 := by
  sorry
theorem op_count {S T : St} (h : Rel S T) (p1 : Int32) : ∃ (r : Int32) (S2 T2 : St), (f_X7_count S p1 = some r ∧ S2 = S) ∧ (f_X8_count T p1 = some r ∧ T2 = T) ∧ Rel S2 T2 := by
  sorry
