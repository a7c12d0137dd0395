def tmS (i : Nat) : Term := Term.string (scO.getD i "") (scK.getD i 0)
theorem str_in : ∀ i, i < 18 → (Cond.stringRef (scO.getD i "") (scK.getD i 0) (scT.getD i "")) ∈ lw_tbl := by decide +kernel
def nwL : List Cond   := flatC (Jvm.Cond.and given_1 narrow_1)
theorem nw_ex : ∀ i, i < 18 → (Cond.exactly (tmS i) "java/lang/String") ∈ nwL := by decide +kernel
theorem nw_co : ∀ i, i < 18 → (Cond.eq (.field (tmS i) "java/lang/String" "coder" "B") (.int 0)) ∈ nwL := by decide +kernel
theorem nw_ar : ∀ i, i < 18 → (Cond.arrayOf (.field (tmS i) "java/lang/String" "value" "[B") .byte) ∈ nwL := by decide +kernel
theorem nw_le : ∀ i, i < 18 → (Cond.eq (.length (.field (tmS i) "java/lang/String" "value" "[B")) (.int (Int32.ofNat (scL.getD i 0)))) ∈ nwL := by decide +kernel
