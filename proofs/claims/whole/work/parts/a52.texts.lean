abbrev sC : List Cond := flatC (Jvm.Cond.and given_1 narrow_1)
theorem tx_ex : ∀ i, i < 23 → Cond.exactly (sK i) "java/lang/String" ∈ sC := by decide +kernel
theorem tx_co : ∀ i, i < 23 → Cond.eq (.field (sK i) "java/lang/String" "coder" "B") (.int 0) ∈ sC := by decide +kernel
theorem tx_ar : ∀ i, i < 23 → Cond.arrayOf (.field (sK i) "java/lang/String" "value" "[B") .byte ∈ sC := by decide +kernel
theorem tx_le : ∀ i, i < 23 → Cond.eq (.length (.field (sK i) "java/lang/String" "value" "[B")) (.int (Int32.ofNat (sLen.getD i 0))) ∈ sC := by decide +kernel
