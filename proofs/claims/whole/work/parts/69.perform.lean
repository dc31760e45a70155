/-! MATH HALF: one line of a work, what it keeps -/
def pf (Λ : Lv) (S : Sv) (verb obj : Nat) (val : Int32) : Nat × Sv :=
  if verb = 0 then (if canR Λ S obj then (1, rdS Λ S obj) else (0, S))
  else if verb = 1 then (if canW Λ S obj then (1, wrS Λ S obj val) else (0, S))
  else if verb = 2 then (if upP S obj then (1, lsS Λ S obj) else (0, S))
  else if verb = 3 then (if upP S obj then (0, S) else (1, rpS S obj))
  else if verb = 4 then (1, (rbL Λ S obj (yS Λ)).2)
  else (1, (hmL Λ S obj (yS Λ)).2)
abbrev okL (Λ : Lv) (verb obj : Nat) : Prop := verb ≤ 5 ∧ (verb ≤ 1 → obj < yX Λ) ∧ ((verb = 2 ∨ verb = 3) → obj < yD Λ) ∧ obj < 2147483648
section Pf
variable {Λ : Lv} {a x k d n i N many verb obj B : Nat} {S T : Sv} {m : Mm} {t v val : Int32}
theorem pf_le : (pf Λ S verb obj val).1 < 2 := by
  unfold pf
  repeat' split
  all_goals first | exact Nat.one_lt_two | exact Nat.zero_lt_two
theorem c_perform (ha : 54 ≤ a) (hC : RelC Λ m) (hW : WL1 Λ) (h3 : WL3 Λ) (hS : WS Λ S) (hA : WA Λ S) (ho : okL Λ verb obj) : f_X6_perform a (nI verb) (nI obj) val (pS a S m) = some (nI (pf Λ S verb obj val).1, pS a (pf Λ S verb obj val).2 m) := by
  obtain ⟨h0, h1, h2, h4⟩ := ho
  have h5 := hW.1
  have hpr : ∀ i, priceN Λ S i < 2147483648 ∨ ¬ i < yX Λ := fun i => by
    by_cases hi : i < yX Λ
    · left
      have hx := (h3.1 i hi).1
      have h6 := (hW.2.2.2.1 _ hx.1)
      unfold priceN
      split
      · omega
      · split <;> omega
    · exact Or.inr hi
  have hv : verb = 0 ∨ verb = 1 ∨ verb = 2 ∨ verb = 3 ∨ verb = 4 ∨ verb = 5 := by omega
  unfold f_X6_perform
  rcases hv with rfl | rfl | rfl | rfl | rfl | rfl
  · simp (maxSteps := 500000) (disch := first | assumption | omega) only [q_l0, q_l1, q_l2, q_l3, q_l4, q_l5, q_l6, q_l7, q_l8, q_l9, q_l10, q_l11, q_l12, q_l13, q_l14, q_l15, q_l16, q_l20, q_l21, q_l22, q_l24, q_l25, q_l26, q_l27, q_l28, q_l29, q_l30, q_l31, q_l32, q_l40, q_l48, q_l57, q_l80, q_l97, q_l100, q_l120, q_l122, q_l126, q_l160, q_l200, q_l214, q_l255, q_l256, q_l374, q_l400, q_l999, q_l1000, q_l9999, q_l99, q_l99999, q_nm, q_gd, q_gd2, q_ix, q_lt, q_eq, q_m5a, q_m5b, q_m40b, q_m8a, q_m8b, q_m16b, q_m374b, q_m160b, q_m10a, q_div5, q_rem5, nI_add, q_moe, q_moe2, q_mol, q_mol2, q_mor, q_bd2, q_bd1, q_stI, q_oI0, if_true, if_false, ite_true, ite_false, ↓reduceIte, Nat.lt_irrefl, Nat.not_lt_zero, Nat.add_zero, Nat.zero_add, Nat.reduceEqDiff, Nat.reduceLeDiff, Nat.reduceLT, Nat.reduceAdd, Bool.false_eq_true, and_self, and_false, false_and, true_and, and_true, not_true_eq_false, not_false_eq_true, pf]
    rw [c_readDatum ha hC hW h3 hS (h1 (by omega))]
    by_cases hc : canR Λ S obj
    · rw [if_pos hc, if_pos hc]
      simp (maxSteps := 500000) (disch := first | assumption | omega) only [q_l0, q_l1, q_l2, q_l3, q_l4, q_l5, q_l6, q_l7, q_l8, q_l9, q_l10, q_l11, q_l12, q_l13, q_l14, q_l15, q_l16, q_l20, q_l21, q_l22, q_l24, q_l25, q_l26, q_l27, q_l28, q_l29, q_l30, q_l31, q_l32, q_l40, q_l48, q_l57, q_l80, q_l97, q_l100, q_l120, q_l122, q_l126, q_l160, q_l200, q_l214, q_l255, q_l256, q_l374, q_l400, q_l999, q_l1000, q_l9999, q_l99, q_l99999, q_nm, q_gd, q_gd2, q_ix, q_lt, q_eq, q_m5a, q_m5b, q_m40b, q_m8a, q_m8b, q_m16b, q_m374b, q_m160b, q_m10a, q_div5, q_rem5, nI_add, q_moe, q_moe2, q_mol, q_mol2, q_mor, q_bd2, q_bd1, q_stI, q_oI0, if_true, if_false, ite_true, ite_false, ↓reduceIte, Nat.lt_irrefl, Nat.not_lt_zero, Nat.add_zero, Nat.zero_add, Nat.reduceEqDiff, Nat.reduceLeDiff, Nat.reduceLT, Nat.reduceAdd, Bool.false_eq_true, and_self, and_false, false_and, true_and, and_true, not_true_eq_false, not_false_eq_true]
    · rw [if_neg hc, if_neg hc]
      simp (maxSteps := 500000) (disch := first | assumption | omega) only [q_l0, q_l1, q_l2, q_l3, q_l4, q_l5, q_l6, q_l7, q_l8, q_l9, q_l10, q_l11, q_l12, q_l13, q_l14, q_l15, q_l16, q_l20, q_l21, q_l22, q_l24, q_l25, q_l26, q_l27, q_l28, q_l29, q_l30, q_l31, q_l32, q_l40, q_l48, q_l57, q_l80, q_l97, q_l100, q_l120, q_l122, q_l126, q_l160, q_l200, q_l214, q_l255, q_l256, q_l374, q_l400, q_l999, q_l1000, q_l9999, q_l99, q_l99999, q_nm, q_gd, q_gd2, q_ix, q_lt, q_eq, q_m5a, q_m5b, q_m40b, q_m8a, q_m8b, q_m16b, q_m374b, q_m160b, q_m10a, q_div5, q_rem5, nI_add, q_moe, q_moe2, q_mol, q_mol2, q_mor, q_bd2, q_bd1, q_stI, q_oI0, if_true, if_false, ite_true, ite_false, ↓reduceIte, Nat.lt_irrefl, Nat.not_lt_zero, Nat.add_zero, Nat.zero_add, Nat.reduceEqDiff, Nat.reduceLeDiff, Nat.reduceLT, Nat.reduceAdd, Bool.false_eq_true, and_self, and_false, false_and, true_and, and_true, not_true_eq_false, not_false_eq_true]
  · simp (maxSteps := 500000) (disch := first | assumption | omega) only [q_l0, q_l1, q_l2, q_l3, q_l4, q_l5, q_l6, q_l7, q_l8, q_l9, q_l10, q_l11, q_l12, q_l13, q_l14, q_l15, q_l16, q_l20, q_l21, q_l22, q_l24, q_l25, q_l26, q_l27, q_l28, q_l29, q_l30, q_l31, q_l32, q_l40, q_l48, q_l57, q_l80, q_l97, q_l100, q_l120, q_l122, q_l126, q_l160, q_l200, q_l214, q_l255, q_l256, q_l374, q_l400, q_l999, q_l1000, q_l9999, q_l99, q_l99999, q_nm, q_gd, q_gd2, q_ix, q_lt, q_eq, q_m5a, q_m5b, q_m40b, q_m8a, q_m8b, q_m16b, q_m374b, q_m160b, q_m10a, q_div5, q_rem5, nI_add, q_moe, q_moe2, q_mol, q_mol2, q_mor, q_bd2, q_bd1, q_stI, q_oI0, if_true, if_false, ite_true, ite_false, ↓reduceIte, Nat.lt_irrefl, Nat.not_lt_zero, Nat.add_zero, Nat.zero_add, Nat.reduceEqDiff, Nat.reduceLeDiff, Nat.reduceLT, Nat.reduceAdd, Bool.false_eq_true, and_self, and_false, false_and, true_and, and_true, not_true_eq_false, not_false_eq_true, pf]
    rw [c_writeDatum ha hC hW h3 hS (h1 (by omega))]
    have hp := (hpr obj).resolve_right (fun h => h (h1 (by omega)))
    by_cases hc : canW Λ S obj
    · rw [if_pos hc, if_pos hc]
      simp (maxSteps := 500000) (disch := first | assumption | omega) only [q_l0, q_l1, q_l2, q_l3, q_l4, q_l5, q_l6, q_l7, q_l8, q_l9, q_l10, q_l11, q_l12, q_l13, q_l14, q_l15, q_l16, q_l20, q_l21, q_l22, q_l24, q_l25, q_l26, q_l27, q_l28, q_l29, q_l30, q_l31, q_l32, q_l40, q_l48, q_l57, q_l80, q_l97, q_l100, q_l120, q_l122, q_l126, q_l160, q_l200, q_l214, q_l255, q_l256, q_l374, q_l400, q_l999, q_l1000, q_l9999, q_l99, q_l99999, q_nm, q_gd, q_gd2, q_ix, q_lt, q_eq, q_m5a, q_m5b, q_m40b, q_m8a, q_m8b, q_m16b, q_m374b, q_m160b, q_m10a, q_div5, q_rem5, nI_add, q_moe, q_moe2, q_mol, q_mol2, q_mor, q_bd2, q_bd1, q_stI, q_oI0, if_true, if_false, ite_true, ite_false, ↓reduceIte, Nat.lt_irrefl, Nat.not_lt_zero, Nat.add_zero, Nat.zero_add, Nat.reduceEqDiff, Nat.reduceLeDiff, Nat.reduceLT, Nat.reduceAdd, Bool.false_eq_true, and_self, and_false, false_and, true_and, and_true, not_true_eq_false, not_false_eq_true]
    · rw [if_neg hc, if_neg hc]
      simp (maxSteps := 500000) (disch := first | assumption | omega) only [q_l0, q_l1, q_l2, q_l3, q_l4, q_l5, q_l6, q_l7, q_l8, q_l9, q_l10, q_l11, q_l12, q_l13, q_l14, q_l15, q_l16, q_l20, q_l21, q_l22, q_l24, q_l25, q_l26, q_l27, q_l28, q_l29, q_l30, q_l31, q_l32, q_l40, q_l48, q_l57, q_l80, q_l97, q_l100, q_l120, q_l122, q_l126, q_l160, q_l200, q_l214, q_l255, q_l256, q_l374, q_l400, q_l999, q_l1000, q_l9999, q_l99, q_l99999, q_nm, q_gd, q_gd2, q_ix, q_lt, q_eq, q_m5a, q_m5b, q_m40b, q_m8a, q_m8b, q_m16b, q_m374b, q_m160b, q_m10a, q_div5, q_rem5, nI_add, q_moe, q_moe2, q_mol, q_mol2, q_mor, q_bd2, q_bd1, q_stI, q_oI0, if_true, if_false, ite_true, ite_false, ↓reduceIte, Nat.lt_irrefl, Nat.not_lt_zero, Nat.add_zero, Nat.zero_add, Nat.reduceEqDiff, Nat.reduceLeDiff, Nat.reduceLT, Nat.reduceAdd, Bool.false_eq_true, and_self, and_false, false_and, true_and, and_true, not_true_eq_false, not_false_eq_true]
  · simp (maxSteps := 500000) (disch := first | assumption | omega) only [q_l0, q_l1, q_l2, q_l3, q_l4, q_l5, q_l6, q_l7, q_l8, q_l9, q_l10, q_l11, q_l12, q_l13, q_l14, q_l15, q_l16, q_l20, q_l21, q_l22, q_l24, q_l25, q_l26, q_l27, q_l28, q_l29, q_l30, q_l31, q_l32, q_l40, q_l48, q_l57, q_l80, q_l97, q_l100, q_l120, q_l122, q_l126, q_l160, q_l200, q_l214, q_l255, q_l256, q_l374, q_l400, q_l999, q_l1000, q_l9999, q_l99, q_l99999, q_nm, q_gd, q_gd2, q_ix, q_lt, q_eq, q_m5a, q_m5b, q_m40b, q_m8a, q_m8b, q_m16b, q_m374b, q_m160b, q_m10a, q_div5, q_rem5, nI_add, q_moe, q_moe2, q_mol, q_mol2, q_mor, q_bd2, q_bd1, q_stI, q_oI0, if_true, if_false, ite_true, ite_false, ↓reduceIte, Nat.lt_irrefl, Nat.not_lt_zero, Nat.add_zero, Nat.zero_add, Nat.reduceEqDiff, Nat.reduceLeDiff, Nat.reduceLT, Nat.reduceAdd, Bool.false_eq_true, and_self, and_false, false_and, true_and, and_true, not_true_eq_false, not_false_eq_true, pf]
    rw [c_loseDisk ha hC hW hS (h2 (by omega))]
    have hl := lsC_le (Λ := Λ) (S := S) (d := obj) (N := 5 * yS Λ)
    have h6 := hW.2.1
    by_cases hc : upP S obj
    · rw [if_pos hc, if_pos hc]
      simp (maxSteps := 500000) (disch := first | assumption | omega) only [q_l0, q_l1, q_l2, q_l3, q_l4, q_l5, q_l6, q_l7, q_l8, q_l9, q_l10, q_l11, q_l12, q_l13, q_l14, q_l15, q_l16, q_l20, q_l21, q_l22, q_l24, q_l25, q_l26, q_l27, q_l28, q_l29, q_l30, q_l31, q_l32, q_l40, q_l48, q_l57, q_l80, q_l97, q_l100, q_l120, q_l122, q_l126, q_l160, q_l200, q_l214, q_l255, q_l256, q_l374, q_l400, q_l999, q_l1000, q_l9999, q_l99, q_l99999, q_nm, q_gd, q_gd2, q_ix, q_lt, q_eq, q_m5a, q_m5b, q_m40b, q_m8a, q_m8b, q_m16b, q_m374b, q_m160b, q_m10a, q_div5, q_rem5, nI_add, q_moe, q_moe2, q_mol, q_mol2, q_mor, q_bd2, q_bd1, q_stI, q_oI0, if_true, if_false, ite_true, ite_false, ↓reduceIte, Nat.lt_irrefl, Nat.not_lt_zero, Nat.add_zero, Nat.zero_add, Nat.reduceEqDiff, Nat.reduceLeDiff, Nat.reduceLT, Nat.reduceAdd, Bool.false_eq_true, and_self, and_false, false_and, true_and, and_true, not_true_eq_false, not_false_eq_true]
    · rw [if_neg hc, if_neg hc]
      simp (maxSteps := 500000) (disch := first | assumption | omega) only [q_l0, q_l1, q_l2, q_l3, q_l4, q_l5, q_l6, q_l7, q_l8, q_l9, q_l10, q_l11, q_l12, q_l13, q_l14, q_l15, q_l16, q_l20, q_l21, q_l22, q_l24, q_l25, q_l26, q_l27, q_l28, q_l29, q_l30, q_l31, q_l32, q_l40, q_l48, q_l57, q_l80, q_l97, q_l100, q_l120, q_l122, q_l126, q_l160, q_l200, q_l214, q_l255, q_l256, q_l374, q_l400, q_l999, q_l1000, q_l9999, q_l99, q_l99999, q_nm, q_gd, q_gd2, q_ix, q_lt, q_eq, q_m5a, q_m5b, q_m40b, q_m8a, q_m8b, q_m16b, q_m374b, q_m160b, q_m10a, q_div5, q_rem5, nI_add, q_moe, q_moe2, q_mol, q_mol2, q_mor, q_bd2, q_bd1, q_stI, q_oI0, if_true, if_false, ite_true, ite_false, ↓reduceIte, Nat.lt_irrefl, Nat.not_lt_zero, Nat.add_zero, Nat.zero_add, Nat.reduceEqDiff, Nat.reduceLeDiff, Nat.reduceLT, Nat.reduceAdd, Bool.false_eq_true, and_self, and_false, false_and, true_and, and_true, not_true_eq_false, not_false_eq_true]
  · simp (maxSteps := 500000) (disch := first | assumption | omega) only [q_l0, q_l1, q_l2, q_l3, q_l4, q_l5, q_l6, q_l7, q_l8, q_l9, q_l10, q_l11, q_l12, q_l13, q_l14, q_l15, q_l16, q_l20, q_l21, q_l22, q_l24, q_l25, q_l26, q_l27, q_l28, q_l29, q_l30, q_l31, q_l32, q_l40, q_l48, q_l57, q_l80, q_l97, q_l100, q_l120, q_l122, q_l126, q_l160, q_l200, q_l214, q_l255, q_l256, q_l374, q_l400, q_l999, q_l1000, q_l9999, q_l99, q_l99999, q_nm, q_gd, q_gd2, q_ix, q_lt, q_eq, q_m5a, q_m5b, q_m40b, q_m8a, q_m8b, q_m16b, q_m374b, q_m160b, q_m10a, q_div5, q_rem5, nI_add, q_moe, q_moe2, q_mol, q_mol2, q_mor, q_bd2, q_bd1, q_stI, q_oI0, if_true, if_false, ite_true, ite_false, ↓reduceIte, Nat.lt_irrefl, Nat.not_lt_zero, Nat.add_zero, Nat.zero_add, Nat.reduceEqDiff, Nat.reduceLeDiff, Nat.reduceLT, Nat.reduceAdd, Bool.false_eq_true, and_self, and_false, false_and, true_and, and_true, not_true_eq_false, not_false_eq_true, pf]
    have h6 := h2 (by omega)
    rw [c_replaceDisk (by omega)]
    by_cases hc : upP S obj
    · rw [if_pos hc, if_pos hc]
      simp (maxSteps := 500000) (disch := first | assumption | omega) only [q_l0, q_l1, q_l2, q_l3, q_l4, q_l5, q_l6, q_l7, q_l8, q_l9, q_l10, q_l11, q_l12, q_l13, q_l14, q_l15, q_l16, q_l20, q_l21, q_l22, q_l24, q_l25, q_l26, q_l27, q_l28, q_l29, q_l30, q_l31, q_l32, q_l40, q_l48, q_l57, q_l80, q_l97, q_l100, q_l120, q_l122, q_l126, q_l160, q_l200, q_l214, q_l255, q_l256, q_l374, q_l400, q_l999, q_l1000, q_l9999, q_l99, q_l99999, q_nm, q_gd, q_gd2, q_ix, q_lt, q_eq, q_m5a, q_m5b, q_m40b, q_m8a, q_m8b, q_m16b, q_m374b, q_m160b, q_m10a, q_div5, q_rem5, nI_add, q_moe, q_moe2, q_mol, q_mol2, q_mor, q_bd2, q_bd1, q_stI, q_oI0, if_true, if_false, ite_true, ite_false, ↓reduceIte, Nat.lt_irrefl, Nat.not_lt_zero, Nat.add_zero, Nat.zero_add, Nat.reduceEqDiff, Nat.reduceLeDiff, Nat.reduceLT, Nat.reduceAdd, Bool.false_eq_true, and_self, and_false, false_and, true_and, and_true, not_true_eq_false, not_false_eq_true]
    · rw [if_neg hc, if_neg hc]
      simp (maxSteps := 500000) (disch := first | assumption | omega) only [q_l0, q_l1, q_l2, q_l3, q_l4, q_l5, q_l6, q_l7, q_l8, q_l9, q_l10, q_l11, q_l12, q_l13, q_l14, q_l15, q_l16, q_l20, q_l21, q_l22, q_l24, q_l25, q_l26, q_l27, q_l28, q_l29, q_l30, q_l31, q_l32, q_l40, q_l48, q_l57, q_l80, q_l97, q_l100, q_l120, q_l122, q_l126, q_l160, q_l200, q_l214, q_l255, q_l256, q_l374, q_l400, q_l999, q_l1000, q_l9999, q_l99, q_l99999, q_nm, q_gd, q_gd2, q_ix, q_lt, q_eq, q_m5a, q_m5b, q_m40b, q_m8a, q_m8b, q_m16b, q_m374b, q_m160b, q_m10a, q_div5, q_rem5, nI_add, q_moe, q_moe2, q_mol, q_mol2, q_mor, q_bd2, q_bd1, q_stI, q_oI0, if_true, if_false, ite_true, ite_false, ↓reduceIte, Nat.lt_irrefl, Nat.not_lt_zero, Nat.add_zero, Nat.zero_add, Nat.reduceEqDiff, Nat.reduceLeDiff, Nat.reduceLT, Nat.reduceAdd, Bool.false_eq_true, and_self, and_false, false_and, true_and, and_true, not_true_eq_false, not_false_eq_true]
  · simp (maxSteps := 500000) (disch := first | assumption | omega) only [q_l0, q_l1, q_l2, q_l3, q_l4, q_l5, q_l6, q_l7, q_l8, q_l9, q_l10, q_l11, q_l12, q_l13, q_l14, q_l15, q_l16, q_l20, q_l21, q_l22, q_l24, q_l25, q_l26, q_l27, q_l28, q_l29, q_l30, q_l31, q_l32, q_l40, q_l48, q_l57, q_l80, q_l97, q_l100, q_l120, q_l122, q_l126, q_l160, q_l200, q_l214, q_l255, q_l256, q_l374, q_l400, q_l999, q_l1000, q_l9999, q_l99, q_l99999, q_nm, q_gd, q_gd2, q_ix, q_lt, q_eq, q_m5a, q_m5b, q_m40b, q_m8a, q_m8b, q_m16b, q_m374b, q_m160b, q_m10a, q_div5, q_rem5, nI_add, q_moe, q_moe2, q_mol, q_mol2, q_mor, q_bd2, q_bd1, q_stI, q_oI0, if_true, if_false, ite_true, ite_false, ↓reduceIte, Nat.lt_irrefl, Nat.not_lt_zero, Nat.add_zero, Nat.zero_add, Nat.reduceEqDiff, Nat.reduceLeDiff, Nat.reduceLT, Nat.reduceAdd, Bool.false_eq_true, and_self, and_false, false_and, true_and, and_true, not_true_eq_false, not_false_eq_true, pf, c_rebuildUnits ha hC hW hS hA h4]
  · simp (maxSteps := 500000) (disch := first | assumption | omega) only [q_l0, q_l1, q_l2, q_l3, q_l4, q_l5, q_l6, q_l7, q_l8, q_l9, q_l10, q_l11, q_l12, q_l13, q_l14, q_l15, q_l16, q_l20, q_l21, q_l22, q_l24, q_l25, q_l26, q_l27, q_l28, q_l29, q_l30, q_l31, q_l32, q_l40, q_l48, q_l57, q_l80, q_l97, q_l100, q_l120, q_l122, q_l126, q_l160, q_l200, q_l214, q_l255, q_l256, q_l374, q_l400, q_l999, q_l1000, q_l9999, q_l99, q_l99999, q_nm, q_gd, q_gd2, q_ix, q_lt, q_eq, q_m5a, q_m5b, q_m40b, q_m8a, q_m8b, q_m16b, q_m374b, q_m160b, q_m10a, q_div5, q_rem5, nI_add, q_moe, q_moe2, q_mol, q_mol2, q_mor, q_bd2, q_bd1, q_stI, q_oI0, if_true, if_false, ite_true, ite_false, ↓reduceIte, Nat.lt_irrefl, Nat.not_lt_zero, Nat.add_zero, Nat.zero_add, Nat.reduceEqDiff, Nat.reduceLeDiff, Nat.reduceLT, Nat.reduceAdd, Bool.false_eq_true, and_self, and_false, false_and, true_and, and_true, not_true_eq_false, not_false_eq_true, pf, c_bringHome ha hC hW hS hA h4]
theorem r_isDone (hR : RelR Λ m) (hW : WL1 Λ) (h3 : WL3 Λ) (hS : WS Λ S) (hA : WA Λ S) (ho : okL Λ verb obj) : f_X11_isDone (nI verb) (nI obj) val (pR Λ S m) = some (nI (pf Λ S verb obj val).1, pR Λ (pf Λ S verb obj val).2 m) := by
  obtain ⟨h0, h1, h2, h4⟩ := ho
  have h5 := hW.1
  have hv : verb = 0 ∨ verb = 1 ∨ verb = 2 ∨ verb = 3 ∨ verb = 4 ∨ verb = 5 := by omega
  unfold f_X11_isDone
  rcases hv with rfl | rfl | rfl | rfl | rfl | rfl
  · simp (maxSteps := 500000) (disch := first | assumption | omega) only [q_l0, q_l1, q_l2, q_l3, q_l4, q_l5, q_l6, q_l7, q_l8, q_l9, q_l10, q_l11, q_l12, q_l13, q_l14, q_l15, q_l16, q_l20, q_l21, q_l22, q_l24, q_l25, q_l26, q_l27, q_l28, q_l29, q_l30, q_l31, q_l32, q_l40, q_l48, q_l57, q_l80, q_l97, q_l100, q_l120, q_l122, q_l126, q_l160, q_l200, q_l214, q_l255, q_l256, q_l374, q_l400, q_l999, q_l1000, q_l9999, q_l99, q_l99999, q_nm, q_gd, q_gd2, q_ix, q_lt, q_eq, q_m5a, q_m5b, q_m40b, q_m8a, q_m8b, q_m16b, q_m374b, q_m160b, q_m10a, q_div5, q_rem5, nI_add, q_moe, q_moe2, q_mol, q_mol2, q_mor, q_bd2, q_bd1, q_stI, q_oI0, if_true, if_false, ite_true, ite_false, ↓reduceIte, Nat.lt_irrefl, Nat.not_lt_zero, Nat.add_zero, Nat.zero_add, Nat.reduceEqDiff, Nat.reduceLeDiff, Nat.reduceLT, Nat.reduceAdd, Bool.false_eq_true, and_self, and_false, false_and, true_and, and_true, not_true_eq_false, not_false_eq_true, pf]
    have hi := h1 (by omega)
    rw [r_canRead hR hW h3 hi]
    by_cases hc : canR Λ S obj
    · rw [if_pos hc, if_pos hc]
      simp (maxSteps := 500000) (disch := first | assumption | omega) only [q_l0, q_l1, q_l2, q_l3, q_l4, q_l5, q_l6, q_l7, q_l8, q_l9, q_l10, q_l11, q_l12, q_l13, q_l14, q_l15, q_l16, q_l20, q_l21, q_l22, q_l24, q_l25, q_l26, q_l27, q_l28, q_l29, q_l30, q_l31, q_l32, q_l40, q_l48, q_l57, q_l80, q_l97, q_l100, q_l120, q_l122, q_l126, q_l160, q_l200, q_l214, q_l255, q_l256, q_l374, q_l400, q_l999, q_l1000, q_l9999, q_l99, q_l99999, q_nm, q_gd, q_gd2, q_ix, q_lt, q_eq, q_m5a, q_m5b, q_m40b, q_m8a, q_m8b, q_m16b, q_m374b, q_m160b, q_m10a, q_div5, q_rem5, nI_add, q_moe, q_moe2, q_mol, q_mol2, q_mor, q_bd2, q_bd1, q_stI, q_oI0, if_true, if_false, ite_true, ite_false, ↓reduceIte, Nat.lt_irrefl, Nat.not_lt_zero, Nat.add_zero, Nat.zero_add, Nat.reduceEqDiff, Nat.reduceLeDiff, Nat.reduceLT, Nat.reduceAdd, Bool.false_eq_true, and_self, and_false, false_and, true_and, and_true, not_true_eq_false, not_false_eq_true, r_readsDatum hR hW h3 hS hi]
    · rw [if_neg hc, if_neg hc]
      simp (maxSteps := 500000) (disch := first | assumption | omega) only [q_l0, q_l1, q_l2, q_l3, q_l4, q_l5, q_l6, q_l7, q_l8, q_l9, q_l10, q_l11, q_l12, q_l13, q_l14, q_l15, q_l16, q_l20, q_l21, q_l22, q_l24, q_l25, q_l26, q_l27, q_l28, q_l29, q_l30, q_l31, q_l32, q_l40, q_l48, q_l57, q_l80, q_l97, q_l100, q_l120, q_l122, q_l126, q_l160, q_l200, q_l214, q_l255, q_l256, q_l374, q_l400, q_l999, q_l1000, q_l9999, q_l99, q_l99999, q_nm, q_gd, q_gd2, q_ix, q_lt, q_eq, q_m5a, q_m5b, q_m40b, q_m8a, q_m8b, q_m16b, q_m374b, q_m160b, q_m10a, q_div5, q_rem5, nI_add, q_moe, q_moe2, q_mol, q_mol2, q_mor, q_bd2, q_bd1, q_stI, q_oI0, if_true, if_false, ite_true, ite_false, ↓reduceIte, Nat.lt_irrefl, Nat.not_lt_zero, Nat.add_zero, Nat.zero_add, Nat.reduceEqDiff, Nat.reduceLeDiff, Nat.reduceLT, Nat.reduceAdd, Bool.false_eq_true, and_self, and_false, false_and, true_and, and_true, not_true_eq_false, not_false_eq_true]
  · simp (maxSteps := 500000) (disch := first | assumption | omega) only [q_l0, q_l1, q_l2, q_l3, q_l4, q_l5, q_l6, q_l7, q_l8, q_l9, q_l10, q_l11, q_l12, q_l13, q_l14, q_l15, q_l16, q_l20, q_l21, q_l22, q_l24, q_l25, q_l26, q_l27, q_l28, q_l29, q_l30, q_l31, q_l32, q_l40, q_l48, q_l57, q_l80, q_l97, q_l100, q_l120, q_l122, q_l126, q_l160, q_l200, q_l214, q_l255, q_l256, q_l374, q_l400, q_l999, q_l1000, q_l9999, q_l99, q_l99999, q_nm, q_gd, q_gd2, q_ix, q_lt, q_eq, q_m5a, q_m5b, q_m40b, q_m8a, q_m8b, q_m16b, q_m374b, q_m160b, q_m10a, q_div5, q_rem5, nI_add, q_moe, q_moe2, q_mol, q_mol2, q_mor, q_bd2, q_bd1, q_stI, q_oI0, if_true, if_false, ite_true, ite_false, ↓reduceIte, Nat.lt_irrefl, Nat.not_lt_zero, Nat.add_zero, Nat.zero_add, Nat.reduceEqDiff, Nat.reduceLeDiff, Nat.reduceLT, Nat.reduceAdd, Bool.false_eq_true, and_self, and_false, false_and, true_and, and_true, not_true_eq_false, not_false_eq_true, pf]
    have hi := h1 (by omega)
    rw [r_canWrite hR hW h3 hi]
    by_cases hc : canW Λ S obj
    · rw [if_pos hc, if_pos hc]
      simp (maxSteps := 500000) (disch := first | assumption | omega) only [q_l0, q_l1, q_l2, q_l3, q_l4, q_l5, q_l6, q_l7, q_l8, q_l9, q_l10, q_l11, q_l12, q_l13, q_l14, q_l15, q_l16, q_l20, q_l21, q_l22, q_l24, q_l25, q_l26, q_l27, q_l28, q_l29, q_l30, q_l31, q_l32, q_l40, q_l48, q_l57, q_l80, q_l97, q_l100, q_l120, q_l122, q_l126, q_l160, q_l200, q_l214, q_l255, q_l256, q_l374, q_l400, q_l999, q_l1000, q_l9999, q_l99, q_l99999, q_nm, q_gd, q_gd2, q_ix, q_lt, q_eq, q_m5a, q_m5b, q_m40b, q_m8a, q_m8b, q_m16b, q_m374b, q_m160b, q_m10a, q_div5, q_rem5, nI_add, q_moe, q_moe2, q_mol, q_mol2, q_mor, q_bd2, q_bd1, q_stI, q_oI0, if_true, if_false, ite_true, ite_false, ↓reduceIte, Nat.lt_irrefl, Nat.not_lt_zero, Nat.add_zero, Nat.zero_add, Nat.reduceEqDiff, Nat.reduceLeDiff, Nat.reduceLT, Nat.reduceAdd, Bool.false_eq_true, and_self, and_false, false_and, true_and, and_true, not_true_eq_false, not_false_eq_true, r_writesDatum hR hW h3 hS hi hc]
    · rw [if_neg hc, if_neg hc]
      simp (maxSteps := 500000) (disch := first | assumption | omega) only [q_l0, q_l1, q_l2, q_l3, q_l4, q_l5, q_l6, q_l7, q_l8, q_l9, q_l10, q_l11, q_l12, q_l13, q_l14, q_l15, q_l16, q_l20, q_l21, q_l22, q_l24, q_l25, q_l26, q_l27, q_l28, q_l29, q_l30, q_l31, q_l32, q_l40, q_l48, q_l57, q_l80, q_l97, q_l100, q_l120, q_l122, q_l126, q_l160, q_l200, q_l214, q_l255, q_l256, q_l374, q_l400, q_l999, q_l1000, q_l9999, q_l99, q_l99999, q_nm, q_gd, q_gd2, q_ix, q_lt, q_eq, q_m5a, q_m5b, q_m40b, q_m8a, q_m8b, q_m16b, q_m374b, q_m160b, q_m10a, q_div5, q_rem5, nI_add, q_moe, q_moe2, q_mol, q_mol2, q_mor, q_bd2, q_bd1, q_stI, q_oI0, if_true, if_false, ite_true, ite_false, ↓reduceIte, Nat.lt_irrefl, Nat.not_lt_zero, Nat.add_zero, Nat.zero_add, Nat.reduceEqDiff, Nat.reduceLeDiff, Nat.reduceLT, Nat.reduceAdd, Bool.false_eq_true, and_self, and_false, false_and, true_and, and_true, not_true_eq_false, not_false_eq_true]
  · simp (maxSteps := 500000) (disch := first | assumption | omega) only [q_l0, q_l1, q_l2, q_l3, q_l4, q_l5, q_l6, q_l7, q_l8, q_l9, q_l10, q_l11, q_l12, q_l13, q_l14, q_l15, q_l16, q_l20, q_l21, q_l22, q_l24, q_l25, q_l26, q_l27, q_l28, q_l29, q_l30, q_l31, q_l32, q_l40, q_l48, q_l57, q_l80, q_l97, q_l100, q_l120, q_l122, q_l126, q_l160, q_l200, q_l214, q_l255, q_l256, q_l374, q_l400, q_l999, q_l1000, q_l9999, q_l99, q_l99999, q_nm, q_gd, q_gd2, q_ix, q_lt, q_eq, q_m5a, q_m5b, q_m40b, q_m8a, q_m8b, q_m16b, q_m374b, q_m160b, q_m10a, q_div5, q_rem5, nI_add, q_moe, q_moe2, q_mol, q_mol2, q_mor, q_bd2, q_bd1, q_stI, q_oI0, if_true, if_false, ite_true, ite_false, ↓reduceIte, Nat.lt_irrefl, Nat.not_lt_zero, Nat.add_zero, Nat.zero_add, Nat.reduceEqDiff, Nat.reduceLeDiff, Nat.reduceLT, Nat.reduceAdd, Bool.false_eq_true, and_self, and_false, false_and, true_and, and_true, not_true_eq_false, not_false_eq_true, pf]
    have h6 := h2 (by omega)
    rw [r_isUp (by omega)]
    by_cases hc : upP S obj
    · rw [if_pos hc, if_pos hc]
      simp (maxSteps := 500000) (disch := first | assumption | omega) only [q_l0, q_l1, q_l2, q_l3, q_l4, q_l5, q_l6, q_l7, q_l8, q_l9, q_l10, q_l11, q_l12, q_l13, q_l14, q_l15, q_l16, q_l20, q_l21, q_l22, q_l24, q_l25, q_l26, q_l27, q_l28, q_l29, q_l30, q_l31, q_l32, q_l40, q_l48, q_l57, q_l80, q_l97, q_l100, q_l120, q_l122, q_l126, q_l160, q_l200, q_l214, q_l255, q_l256, q_l374, q_l400, q_l999, q_l1000, q_l9999, q_l99, q_l99999, q_nm, q_gd, q_gd2, q_ix, q_lt, q_eq, q_m5a, q_m5b, q_m40b, q_m8a, q_m8b, q_m16b, q_m374b, q_m160b, q_m10a, q_div5, q_rem5, nI_add, q_moe, q_moe2, q_mol, q_mol2, q_mor, q_bd2, q_bd1, q_stI, q_oI0, if_true, if_false, ite_true, ite_false, ↓reduceIte, Nat.lt_irrefl, Nat.not_lt_zero, Nat.add_zero, Nat.zero_add, Nat.reduceEqDiff, Nat.reduceLeDiff, Nat.reduceLT, Nat.reduceAdd, Bool.false_eq_true, and_self, and_false, false_and, true_and, and_true, not_true_eq_false, not_false_eq_true, r_losesDisk hR hW hS h6]
    · rw [if_neg hc, if_neg hc]
      simp (maxSteps := 500000) (disch := first | assumption | omega) only [q_l0, q_l1, q_l2, q_l3, q_l4, q_l5, q_l6, q_l7, q_l8, q_l9, q_l10, q_l11, q_l12, q_l13, q_l14, q_l15, q_l16, q_l20, q_l21, q_l22, q_l24, q_l25, q_l26, q_l27, q_l28, q_l29, q_l30, q_l31, q_l32, q_l40, q_l48, q_l57, q_l80, q_l97, q_l100, q_l120, q_l122, q_l126, q_l160, q_l200, q_l214, q_l255, q_l256, q_l374, q_l400, q_l999, q_l1000, q_l9999, q_l99, q_l99999, q_nm, q_gd, q_gd2, q_ix, q_lt, q_eq, q_m5a, q_m5b, q_m40b, q_m8a, q_m8b, q_m16b, q_m374b, q_m160b, q_m10a, q_div5, q_rem5, nI_add, q_moe, q_moe2, q_mol, q_mol2, q_mor, q_bd2, q_bd1, q_stI, q_oI0, if_true, if_false, ite_true, ite_false, ↓reduceIte, Nat.lt_irrefl, Nat.not_lt_zero, Nat.add_zero, Nat.zero_add, Nat.reduceEqDiff, Nat.reduceLeDiff, Nat.reduceLT, Nat.reduceAdd, Bool.false_eq_true, and_self, and_false, false_and, true_and, and_true, not_true_eq_false, not_false_eq_true]
  · simp (maxSteps := 500000) (disch := first | assumption | omega) only [q_l0, q_l1, q_l2, q_l3, q_l4, q_l5, q_l6, q_l7, q_l8, q_l9, q_l10, q_l11, q_l12, q_l13, q_l14, q_l15, q_l16, q_l20, q_l21, q_l22, q_l24, q_l25, q_l26, q_l27, q_l28, q_l29, q_l30, q_l31, q_l32, q_l40, q_l48, q_l57, q_l80, q_l97, q_l100, q_l120, q_l122, q_l126, q_l160, q_l200, q_l214, q_l255, q_l256, q_l374, q_l400, q_l999, q_l1000, q_l9999, q_l99, q_l99999, q_nm, q_gd, q_gd2, q_ix, q_lt, q_eq, q_m5a, q_m5b, q_m40b, q_m8a, q_m8b, q_m16b, q_m374b, q_m160b, q_m10a, q_div5, q_rem5, nI_add, q_moe, q_moe2, q_mol, q_mol2, q_mor, q_bd2, q_bd1, q_stI, q_oI0, if_true, if_false, ite_true, ite_false, ↓reduceIte, Nat.lt_irrefl, Nat.not_lt_zero, Nat.add_zero, Nat.zero_add, Nat.reduceEqDiff, Nat.reduceLeDiff, Nat.reduceLT, Nat.reduceAdd, Bool.false_eq_true, and_self, and_false, false_and, true_and, and_true, not_true_eq_false, not_false_eq_true, pf]
    have h6 := h2 (by omega)
    rw [r_isUp (by omega)]
    by_cases hc : upP S obj
    · rw [if_pos hc, if_pos hc]
      simp (maxSteps := 500000) (disch := first | assumption | omega) only [q_l0, q_l1, q_l2, q_l3, q_l4, q_l5, q_l6, q_l7, q_l8, q_l9, q_l10, q_l11, q_l12, q_l13, q_l14, q_l15, q_l16, q_l20, q_l21, q_l22, q_l24, q_l25, q_l26, q_l27, q_l28, q_l29, q_l30, q_l31, q_l32, q_l40, q_l48, q_l57, q_l80, q_l97, q_l100, q_l120, q_l122, q_l126, q_l160, q_l200, q_l214, q_l255, q_l256, q_l374, q_l400, q_l999, q_l1000, q_l9999, q_l99, q_l99999, q_nm, q_gd, q_gd2, q_ix, q_lt, q_eq, q_m5a, q_m5b, q_m40b, q_m8a, q_m8b, q_m16b, q_m374b, q_m160b, q_m10a, q_div5, q_rem5, nI_add, q_moe, q_moe2, q_mol, q_mol2, q_mor, q_bd2, q_bd1, q_stI, q_oI0, if_true, if_false, ite_true, ite_false, ↓reduceIte, Nat.lt_irrefl, Nat.not_lt_zero, Nat.add_zero, Nat.zero_add, Nat.reduceEqDiff, Nat.reduceLeDiff, Nat.reduceLT, Nat.reduceAdd, Bool.false_eq_true, and_self, and_false, false_and, true_and, and_true, not_true_eq_false, not_false_eq_true]
    · rw [if_neg hc, if_neg hc]
      simp (maxSteps := 500000) (disch := first | assumption | omega) only [q_l0, q_l1, q_l2, q_l3, q_l4, q_l5, q_l6, q_l7, q_l8, q_l9, q_l10, q_l11, q_l12, q_l13, q_l14, q_l15, q_l16, q_l20, q_l21, q_l22, q_l24, q_l25, q_l26, q_l27, q_l28, q_l29, q_l30, q_l31, q_l32, q_l40, q_l48, q_l57, q_l80, q_l97, q_l100, q_l120, q_l122, q_l126, q_l160, q_l200, q_l214, q_l255, q_l256, q_l374, q_l400, q_l999, q_l1000, q_l9999, q_l99, q_l99999, q_nm, q_gd, q_gd2, q_ix, q_lt, q_eq, q_m5a, q_m5b, q_m40b, q_m8a, q_m8b, q_m16b, q_m374b, q_m160b, q_m10a, q_div5, q_rem5, nI_add, q_moe, q_moe2, q_mol, q_mol2, q_mor, q_bd2, q_bd1, q_stI, q_oI0, if_true, if_false, ite_true, ite_false, ↓reduceIte, Nat.lt_irrefl, Nat.not_lt_zero, Nat.add_zero, Nat.zero_add, Nat.reduceEqDiff, Nat.reduceLeDiff, Nat.reduceLT, Nat.reduceAdd, Bool.false_eq_true, and_self, and_false, false_and, true_and, and_true, not_true_eq_false, not_false_eq_true, pR_up, pR_sup, q_shl, rpS]
  · simp (maxSteps := 500000) (disch := first | assumption | omega) only [q_l0, q_l1, q_l2, q_l3, q_l4, q_l5, q_l6, q_l7, q_l8, q_l9, q_l10, q_l11, q_l12, q_l13, q_l14, q_l15, q_l16, q_l20, q_l21, q_l22, q_l24, q_l25, q_l26, q_l27, q_l28, q_l29, q_l30, q_l31, q_l32, q_l40, q_l48, q_l57, q_l80, q_l97, q_l100, q_l120, q_l122, q_l126, q_l160, q_l200, q_l214, q_l255, q_l256, q_l374, q_l400, q_l999, q_l1000, q_l9999, q_l99, q_l99999, q_nm, q_gd, q_gd2, q_ix, q_lt, q_eq, q_m5a, q_m5b, q_m40b, q_m8a, q_m8b, q_m16b, q_m374b, q_m160b, q_m10a, q_div5, q_rem5, nI_add, q_moe, q_moe2, q_mol, q_mol2, q_mor, q_bd2, q_bd1, q_stI, q_oI0, if_true, if_false, ite_true, ite_false, ↓reduceIte, Nat.lt_irrefl, Nat.not_lt_zero, Nat.add_zero, Nat.zero_add, Nat.reduceEqDiff, Nat.reduceLeDiff, Nat.reduceLT, Nat.reduceAdd, Bool.false_eq_true, and_self, and_false, false_and, true_and, and_true, not_true_eq_false, not_false_eq_true, pf, r_rebuilds hR hW hS hA h4]
  · simp (maxSteps := 500000) (disch := first | assumption | omega) only [q_l0, q_l1, q_l2, q_l3, q_l4, q_l5, q_l6, q_l7, q_l8, q_l9, q_l10, q_l11, q_l12, q_l13, q_l14, q_l15, q_l16, q_l20, q_l21, q_l22, q_l24, q_l25, q_l26, q_l27, q_l28, q_l29, q_l30, q_l31, q_l32, q_l40, q_l48, q_l57, q_l80, q_l97, q_l100, q_l120, q_l122, q_l126, q_l160, q_l200, q_l214, q_l255, q_l256, q_l374, q_l400, q_l999, q_l1000, q_l9999, q_l99, q_l99999, q_nm, q_gd, q_gd2, q_ix, q_lt, q_eq, q_m5a, q_m5b, q_m40b, q_m8a, q_m8b, q_m16b, q_m374b, q_m160b, q_m10a, q_div5, q_rem5, nI_add, q_moe, q_moe2, q_mol, q_mol2, q_mor, q_bd2, q_bd1, q_stI, q_oI0, if_true, if_false, ite_true, ite_false, ↓reduceIte, Nat.lt_irrefl, Nat.not_lt_zero, Nat.add_zero, Nat.zero_add, Nat.reduceEqDiff, Nat.reduceLeDiff, Nat.reduceLT, Nat.reduceAdd, Bool.false_eq_true, and_self, and_false, false_and, true_and, and_true, not_true_eq_false, not_false_eq_true, pf, r_goesHome hR hW hS hA h4]
/-- no disk has two units of a stripe -/
theorem dn_inj (hW : WL1 Λ) (h2 : WL2 Λ) (hS : WS Λ S) (hA : WA Λ S) (hk : k < yS Λ) {u w : Nat} (hu : u < yZ Λ k) (hw : w < yZ Λ k) {d : Nat} (hd : d < 13) (e1 : dnow Λ S (5 * k + u) = nI d) (e2 : dnow Λ S (5 * k + w) = nI d) : u = w := by
  have h4 := hW.1
  have hv1 := vx_mk hW hk hu
  have hv2 := vx_mk hW hk hw
  have q1 := q_5d hW hk hu
  have q2 := q_5d hW hk hw
  have hq := (hW.2.2.2.1 k hk).2.2.2
  have hK1 := hW.2.2.2.2 _ hv1
  have hK2 := hW.2.2.2.2 _ hv2
  unfold dnow at e1 e2
  rw [q1] at e1
  rw [q2] at e2
  rcases hS _ hv1 with a1 | ⟨a1, a2⟩ | a1
  · rw [a1, if_neg n02, if_pos rfl, q_eq (by omega) (by omega)] at e1
    rcases hS _ hv2 with b1 | ⟨b1, b2⟩ | b1
    · rw [b1, if_neg n02, if_pos rfl, q_eq (by omega) (by omega)] at e2
      exact h2.1 k u w hk hu hw (by omega)
    · rw [q2] at b2
      rw [b1, if_neg n12, if_neg n10, q_oIp b2, q_eq (by omega) (by omega)] at e2
      exact absurd (by omega) (h2.2 k u hk hu)
    · rw [b1, if_pos rfl, q_moe2 (by omega)] at e2
      exact e2.elim
  · rw [q1] at a2
    rw [a1, if_neg n12, if_neg n10, q_oIp a2, q_eq (by omega) (by omega)] at e1
    rcases hS _ hv2 with b1 | ⟨b1, b2⟩ | b1
    · rw [b1, if_neg n02, if_pos rfl, q_eq (by omega) (by omega)] at e2
      exact absurd (by omega) (h2.2 k w hk hw)
    · exact hA k u w hk hu hw a1 b1
    · rw [b1, if_pos rfl, q_moe2 (by omega)] at e2
      exact e2.elim
  · rw [a1, if_pos rfl, q_moe2 (by omega)] at e1
    exact e1.elim
theorem ct_inj {p : Nat → Prop} [DecidablePred p] : ∀ {n : Nat}, (∀ u v, u < n → v < n → p u → p v → u = v) → ct p n ≤ 1
  | 0, _ => Nat.zero_le _
  | n + 1, h => by
    have ih := ct_inj (p := p) (n := n) (fun u v hu hv => h u v (by omega) (by omega))
    unfold ct
    by_cases hp : p n
    · rw [if_pos hp, ct_none (n := n) (fun i hi hq => by
        have := h i n (by omega) (by omega) hq hp
        omega)]
      omega
    · rw [if_neg hp]; omega
/-- loads: none where no disk is, none above B -/
def WLo (Λ : Lv) (B : Nat) (S : Sv) : Prop := (∀ d, yD Λ ≤ d → d < 13 → S.2.2.2 d = nI 0) ∧ ∀ d, d < 13 → ∃ v, v ≤ B ∧ S.2.2.2 d = nI v
theorem WLo_mono {B C : Nat} (h : B ≤ C) (hL : WLo Λ B S) : WLo Λ C S := ⟨hL.1, fun d hd => by
  obtain ⟨v, h1, h2⟩ := hL.2 d hd
  exact ⟨v, by omega, h2⟩⟩
theorem WLo_c {T : Sv} (h : T.2.2.2 = S.2.2.2) (hL : WLo Λ B S) : WLo Λ B T := by unfold WLo; rw [h]; exact hL
theorem WLo_ld (hW : WL1 Λ) (hS : WS Λ S) (hx : vx Λ x) {c : Nat} (hL : WLo Λ B S) : WLo Λ (B + c) (ld Λ S x (nI c)) := by
  have h4 := hW.1
  unfold ld
  rcases dnow_cases hW hS hx with ⟨h1, h2⟩ | ⟨h1, e, he, h2⟩
  · rw [if_pos h2]; exact WLo_mono (by omega) hL
  · rw [h2, if_neg (by rw [q_moe (by omega)]; exact fun h => h), q_ix (by omega)]
    refine ⟨fun d hd1 hd2 => ?_, fun d hd => ?_⟩
    · dsimp only
      unfold upd
      rw [if_neg (by omega)]
      exact hL.1 d hd1 hd2
    · dsimp only
      unfold upd
      obtain ⟨w, hw1, hw2⟩ := hL.2 d hd
      by_cases h5 : d = e
      · subst h5
        rw [if_pos rfl, hw2, nI_add]
        exact ⟨w + c, by omega, rfl⟩
      · rw [if_neg h5]
        exact ⟨w, by omega, hw2⟩
theorem WLo_ldA (hW : WL1 Λ) (h2 : WL2 Λ) (hS : WS Λ S) (hA : WA Λ S) (hk : k < yS Λ) (hL : WLo Λ B S) : WLo Λ (B + 1) (ldA Λ S k (yZ Λ k)) := by
  have h4 := hW.1
  have hon : ∀ d, d < 13 → ∀ u, u < yZ Λ k → onI Λ S d (5 * k + u) → dnow Λ S (5 * k + u) = nI d ∧ d < yD Λ := fun d hd u hu h => by
    rcases dnow_cases hW hS (vx_mk hW hk hu) with ⟨_, h5⟩ | ⟨_, e, he, h5⟩
    · exact absurd h5 h.1
    · have h6 := h.2
      rw [h5, q_ix (by omega)] at h6
      subst h6
      exact ⟨h5, he⟩
  refine ⟨fun d hd1 hd2 => ?_, fun d hd => ?_⟩
  · rw [ldA_lo, ct_none (fun u hu h => by
      have := (hon d hd2 u hu h).2
      omega), nI_0, Int32.add_zero]
    exact hL.1 d hd1 hd2
  · obtain ⟨w, hw1, hw2⟩ := hL.2 d hd
    rw [ldA_lo, hw2, nI_add]
    have h7 := ct_inj (p := fun u => onI Λ S d (5 * k + u)) (n := yZ Λ k) (fun u v hu hv p1 p2 => dn_inj hW h2 hS hA hk hu hv hd (hon d hd u hu p1).1 (hon d hd v hv p2).1)
    exact ⟨w + ct (fun u => onI Λ S d (5 * k + u)) (yZ Λ k), by omega, rfl⟩
theorem WLo_rbL (hW : WL1 Λ) (h2 : WL2 Λ) (hS : WS Λ S) (hA : WA Λ S) (hL : WLo Λ B S) : ∀ n, n ≤ yS Λ → WLo Λ (B + n) (rbL Λ S many n).2
  | 0, _ => hL
  | n + 1, h => by
    have ih := WLo_rbL hW h2 hS hA hL n (by omega)
    have hws := WS_rbL (many := many) hW hS hA n (by omega)
    unfold rbL
    split
    · rename_i h1
      have h5 := WS_rbS hW (k := n) (by omega) hws.1 hws.2 h1.2
      have h6 : WS Λ (rbW Λ (rbL Λ S many n).2 n) := WS_c (S := rbS Λ (rbL Λ S many n).2 n) (by unfold rbS; rw [ldA_2]) h5.1
      have h7 : WA Λ (rbW Λ (rbL Λ S many n).2 n) := WA_c (S := rbS Λ (rbL Λ S many n).2 n) (by unfold rbS; rw [ldA_2]) h5.2
      exact WLo_ldA hW h2 h6 h7 (by omega) (WLo_c (S := (rbL Λ S many n).2) rfl ih)
    · exact WLo_mono (by omega) ih
theorem WLo_hmL (hW : WL1 Λ) (hS : WS Λ S) (hA : WA Λ S) (hL : WLo Λ B S) : ∀ n, n ≤ yS Λ → WLo Λ (B + 2 * n) (hmL Λ S many n).2
  | 0, _ => hL
  | n + 1, h => by
    have ih := WLo_hmL hW hS hA hL n (by omega)
    have hws := WS_hmL (Λ := Λ) (many := many) hS hA n
    unfold hmL
    split
    · rename_i h1
      obtain ⟨h6, _⟩ := aw_some h1.2.1
      have hv : vx Λ (hmX Λ (hmL Λ S many n).2 n) := vx_mk hW (by omega) h6
      have h8 := WLo_ld (c := 1) hW hws.1 hv ih
      exact WLo_ld (c := 1) hW (WS_set0 (WS_c (T := ld Λ (hmL Λ S many n).2 (hmX Λ (hmL Λ S many n).2 n) (nI 1)) ld_2 hws.1)) hv (WLo_c (S := ld Λ (hmL Λ S many n).2 (hmX Λ (hmL Λ S many n).2 n) (nI 1)) rfl h8)
    · exact WLo_mono (by omega) ih
/-- all that a state keeps -/
def WT (Λ : Lv) (B : Nat) (S : Sv) : Prop := WS Λ S ∧ WA Λ S ∧ WLo Λ B S
theorem WA_ls (hA : WA Λ S) : WA Λ (lsS Λ S d) := by
  intro k u v hk hu hv h1 h2
  unfold lsS lsW at h1 h2
  dsimp only at h1 h2
  split at h1
  · exact absurd h1 n21
  · split at h2
    · exact absurd h2 n21
    · exact hA k u v hk hu hv h1 h2
theorem WT_pf (hW : WL1 Λ) (h2 : WL2 Λ) (h3 : WL3 Λ) (hT : WT Λ B S) (ho : okL Λ verb obj) : WT Λ (B + 80) (pf Λ S verb obj val).2 := by
  obtain ⟨hS, hA, hL⟩ := hT
  obtain ⟨h0, h1, h5, h4⟩ := ho
  have h7 := hW.2.1
  have hid : WT Λ (B + 80) S := ⟨hS, hA, WLo_mono (by omega) hL⟩
  have hv : verb = 0 ∨ verb = 1 ∨ verb = 2 ∨ verb = 3 ∨ verb = 4 ∨ verb = 5 := by omega
  unfold pf
  rcases hv with rfl | rfl | rfl | rfl | rfl | rfl
  · rw [if_pos rfl]
    split
    · have hx := (h3.1 obj (h1 (by omega))).1
      show WT Λ (B + 80) (rdS Λ S obj)
      unfold rdS
      split
      · exact ⟨WS_c ldA_2 hS, WA_c ldA_2 hA, WLo_mono (by omega) (WLo_ldA hW h2 hS hA hx.1 hL)⟩
      · exact ⟨WS_c ld_2 hS, WA_c ld_2 hA, WLo_mono (by omega) (WLo_ld hW hS hx hL)⟩
    · exact hid
  · rw [if_neg (by omega), if_pos rfl]
    split
    · have hx := (h3.1 obj (h1 (by omega))).1
      have hp := vx_pu hW h3 (h1 (by omega))
      have key : WT Λ (B + 80) (wrL Λ S obj) := by
        unfold wrL
        split
        · exact ⟨WS_c ldA_2 hS, WA_c ldA_2 hA, WLo_mono (by omega) (WLo_ldA hW h2 hS hA hx.1 hL)⟩
        · split
          · exact ⟨WS_c ld_2 hS, WA_c ld_2 hA, WLo_mono (by omega) (WLo_ld hW hS hx hL)⟩
          · have e : (ld Λ (ld Λ S (yU Λ obj) (nI 2)) (puX Λ obj) (nI 2)).2.1 = S.2.1 := by rw [ld_2, ld_2]
            exact ⟨WS_c e hS, WA_c e hA, WLo_mono (by omega) (WLo_ld hW (WS_c ld_2 hS) hp (WLo_ld hW hS hx hL))⟩
      exact ⟨WS_c (S := wrL Λ S obj) rfl key.1, WA_c (S := wrL Λ S obj) rfl key.2.1, WLo_c (S := wrL Λ S obj) rfl key.2.2⟩
    · exact hid
  · rw [if_neg (by omega), if_neg (by omega), if_pos rfl]
    split
    · exact ⟨WS_ls (S := S) hS, WA_ls hA, WLo_mono (by omega) (WLo_c (S := S) rfl hL)⟩
    · exact hid
  · rw [if_neg (by omega), if_neg (by omega), if_neg (by omega), if_pos rfl]
    split
    · exact hid
    · exact ⟨WS_c (S := S) rfl hS, WA_c (S := S) rfl hA, WLo_mono (by omega) (WLo_c (S := S) rfl hL)⟩
  · rw [if_neg (by omega), if_neg (by omega), if_neg (by omega), if_neg (by omega), if_pos rfl]
    have h8 := WS_rbL (many := obj) hW hS hA (yS Λ) (Nat.le_refl _)
    exact ⟨h8.1, h8.2, WLo_mono (by omega) (WLo_rbL hW h2 hS hA hL (yS Λ) (Nat.le_refl _))⟩
  · rw [if_neg (by omega), if_neg (by omega), if_neg (by omega), if_neg (by omega), if_neg (by omega)]
    have h8 := WS_hmL (Λ := Λ) (many := obj) hS hA (yS Λ)
    exact ⟨h8.1, h8.2, WLo_mono (by omega) (WLo_hmL hW hS hA hL (yS Λ) (Nat.le_refl _))⟩
end Pf
