/-! MATH HALF: family, seek -/
theorem FU_j : ∃ j, FU = j + 1 ∧ 100 ≤ j := ⟨4095, rfl, by omega⟩
section Fam
variable {Λ T : Lv} {a b x k d o n i N K z c B t u w v p s q by' : Nat} {S : Sv} {m : Mm} {x1 x2 x3 st : Int32}
theorem fm_le (hT : WTo T) : ∀ n, fmN T by' n ≤ 13 * n
  | 0 => Nat.le_refl _
  | n + 1 => by
    have ih := fm_le hT n
    have h := df_le (n := tD T) (s := sbN T n (tZ T n)) (by' := by')
    have h13 := hT.2.1
    unfold fmN
    split <;> omega
theorem c_ofCycles (hC : ToC t T m) (hT : WTo T) (h1 : 1 ≤ by') (h2 : by' < tD T) : f_X1_ofCycles t (nI by') m = some (if anyC T (tB T) then nI (fmN T by' (tB T)) else mo, m) := by
  have hC2 := hC
  obtain ⟨c0, c2, c1, ck, cz, cm⟩ := hC2
  have h6 := hT.2.2.1
  have h13 := hT.2.1
  refine lp0 (fun j b => f_X1_ofCycles_L4 t j (nI by') (if anyC T b then nI (fmN T by' b) else mo) (nI b) m) (tB T) _ (fun j => ?_) (fun j b hb => ?_) (by omega)
  · simp (maxSteps := 500000) (disch := first | assumption | omega) only [f_X1_ofCycles_L4, q_l0, q_l1, q_l2, q_l3, q_l4, q_l5, q_l6, q_l7, q_l8, q_l9, q_l10, q_l11, q_l12, q_l13, q_l14, q_l15, q_l16, q_l20, q_l21, q_l22, q_l24, q_l25, q_l26, q_l27, q_l28, q_l29, q_l30, q_l31, q_l32, q_l40, q_l48, q_l57, q_l80, q_l97, q_l100, q_l120, q_l122, q_l126, q_l160, q_l200, q_l214, q_l255, q_l256, q_l374, q_l400, q_l999, q_l1000, q_l9999, q_l99, q_l99999, q_nm, q_gd, q_gd2, q_ix, q_lt, q_eq, q_m5a, q_m5b, q_m40b, q_m8a, q_m8b, q_m16b, q_m374b, q_m160b, q_m10a, q_div5, q_rem5, nI_add, q_moe, q_moe2, q_mol, q_mol2, q_mor, q_bd2, q_bd1, q_stI, q_oI0, if_true, if_false, ite_true, ite_false, ↓reduceIte, Nat.lt_irrefl, Nat.not_lt_zero, Nat.add_zero, Nat.zero_add, Nat.reduceEqDiff, Nat.reduceLeDiff, Nat.reduceLT, Nat.reduceAdd, Bool.false_eq_true, and_self, and_false, false_and, true_and, and_true, not_true_eq_false, not_false_eq_true, c2]
  · have hk := hT.2.2.2.2.2.2.1 b hb
    have hf := fm_le (by' := by') hT b
    have hd := df_le (n := tD T) (s := sbN T b (tZ T b)) (by' := by')
    have e := c_ofSet (m := m) (sb_lt hT hb _ (Nat.le_refl _)) h13 h1 h2
    have e2 := c_bitsOf hC hT hb
    by_cases p1 : tK T b = 1
    · have ha : anyC T (b + 1) := ⟨b, by omega, p1⟩
      rw [if_pos ha]
      simp (maxSteps := 500000) (disch := first | assumption | omega) only [f_X1_ofCycles_L4, q_l0, q_l1, q_l2, q_l3, q_l4, q_l5, q_l6, q_l7, q_l8, q_l9, q_l10, q_l11, q_l12, q_l13, q_l14, q_l15, q_l16, q_l20, q_l21, q_l22, q_l24, q_l25, q_l26, q_l27, q_l28, q_l29, q_l30, q_l31, q_l32, q_l40, q_l48, q_l57, q_l80, q_l97, q_l100, q_l120, q_l122, q_l126, q_l160, q_l200, q_l214, q_l255, q_l256, q_l374, q_l400, q_l999, q_l1000, q_l9999, q_l99, q_l99999, q_nm, q_gd, q_gd2, q_ix, q_lt, q_eq, q_m5a, q_m5b, q_m40b, q_m8a, q_m8b, q_m16b, q_m374b, q_m160b, q_m10a, q_div5, q_rem5, nI_add, q_moe, q_moe2, q_mol, q_mol2, q_mor, q_bd2, q_bd1, q_stI, q_oI0, if_true, if_false, ite_true, ite_false, ↓reduceIte, Nat.lt_irrefl, Nat.not_lt_zero, Nat.add_zero, Nat.zero_add, Nat.reduceEqDiff, Nat.reduceLeDiff, Nat.reduceLT, Nat.reduceAdd, Bool.false_eq_true, and_self, and_false, false_and, true_and, and_true, not_true_eq_false, not_false_eq_true, c2, hb, ck, p1, e2, c0, e, fmN]
      by_cases p2 : anyC T b
      · rw [if_pos p2, q_imax (by omega) (by omega)]
        simp (maxSteps := 500000) (disch := first | assumption | omega) only [q_l0, q_l1, q_l2, q_l3, q_l4, q_l5, q_l6, q_l7, q_l8, q_l9, q_l10, q_l11, q_l12, q_l13, q_l14, q_l15, q_l16, q_l20, q_l21, q_l22, q_l24, q_l25, q_l26, q_l27, q_l28, q_l29, q_l30, q_l31, q_l32, q_l40, q_l48, q_l57, q_l80, q_l97, q_l100, q_l120, q_l122, q_l126, q_l160, q_l200, q_l214, q_l255, q_l256, q_l374, q_l400, q_l999, q_l1000, q_l9999, q_l99, q_l99999, q_nm, q_gd, q_gd2, q_ix, q_lt, q_eq, q_m5a, q_m5b, q_m40b, q_m8a, q_m8b, q_m16b, q_m374b, q_m160b, q_m10a, q_div5, q_rem5, nI_add, q_moe, q_moe2, q_mol, q_mol2, q_mor, q_bd2, q_bd1, q_stI, q_oI0, if_true, if_false, ite_true, ite_false, ↓reduceIte, Nat.lt_irrefl, Nat.not_lt_zero, Nat.add_zero, Nat.zero_add, Nat.reduceEqDiff, Nat.reduceLeDiff, Nat.reduceLT, Nat.reduceAdd, Bool.false_eq_true, and_self, and_false, false_and, true_and, and_true, not_true_eq_false, not_false_eq_true]
      · have z : fmN T by' b = 0 := by
          have : ∀ q, q ≤ b → fmN T by' q = 0 := by
            intro q
            induction q with
            | zero => intro _; rfl
            | succ q ih =>
              intro hq
              unfold fmN
              rw [if_neg (fun h => p2 ⟨q, by omega, h⟩)]
              exact ih (by omega)
          exact this b (Nat.le_refl _)
        rw [if_neg p2, z, show imax mo (nI 0) = nI 0 from by decide, nI_add]
    · have hab : anyC T (b + 1) ↔ anyC T b := by
        constructor
        · rintro ⟨q, h3, h4⟩
          have : q ≠ b := fun e => p1 (e ▸ h4)
          exact ⟨q, by omega, h4⟩
        · rintro ⟨q, h3, h4⟩
          exact ⟨q, by omega, h4⟩
      have e3 : (if anyC T (b + 1) then nI (fmN T by' (b + 1)) else mo) = (if anyC T b then nI (fmN T by' b) else mo) := by
        have e4 : fmN T by' (b + 1) = fmN T by' b := by
          conv => lhs; unfold fmN
          rw [if_neg p1]
        rw [e4]
        by_cases p2 : anyC T b
        · rw [if_pos p2, if_pos (hab.mpr p2)]
        · rw [if_neg p2, if_neg (fun h => p2 (hab.mp h))]
      rw [e3]
      simp (maxSteps := 500000) (disch := first | assumption | omega) only [f_X1_ofCycles_L4, q_l0, q_l1, q_l2, q_l3, q_l4, q_l5, q_l6, q_l7, q_l8, q_l9, q_l10, q_l11, q_l12, q_l13, q_l14, q_l15, q_l16, q_l20, q_l21, q_l22, q_l24, q_l25, q_l26, q_l27, q_l28, q_l29, q_l30, q_l31, q_l32, q_l40, q_l48, q_l57, q_l80, q_l97, q_l100, q_l120, q_l122, q_l126, q_l160, q_l200, q_l214, q_l255, q_l256, q_l374, q_l400, q_l999, q_l1000, q_l9999, q_l99, q_l99999, q_nm, q_gd, q_gd2, q_ix, q_lt, q_eq, q_m5a, q_m5b, q_m40b, q_m8a, q_m8b, q_m16b, q_m374b, q_m160b, q_m10a, q_div5, q_rem5, nI_add, q_moe, q_moe2, q_mol, q_mol2, q_mor, q_bd2, q_bd1, q_stI, q_oI0, if_true, if_false, ite_true, ite_false, ↓reduceIte, Nat.lt_irrefl, Nat.not_lt_zero, Nat.add_zero, Nat.zero_add, Nat.reduceEqDiff, Nat.reduceLeDiff, Nat.reduceLT, Nat.reduceAdd, Bool.false_eq_true, and_self, and_false, false_and, true_and, and_true, not_true_eq_false, not_false_eq_true, c2, hb, ck, p1]
theorem r_familyBy (hR : ToR T m) (hT : WTo T) (h2 : by' < 14) : f_X11_familyBy (nI by') m = some (nI (fmN T by' (tB T)), m) := by
  have hR2 := hR
  obtain ⟨c0, c2, c1, ck, cz, cm⟩ := hR2
  have h6 := hT.2.2.1
  have h13 := hT.2.1
  refine lp0 (fun j b => f_X11_familyBy_L4 j (nI by') (nI (fmN T by' b)) (nI b) m) (tB T) _ (fun j => ?_) (fun j b hb => ?_) (by omega)
  · simp (maxSteps := 500000) (disch := first | assumption | omega) only [f_X11_familyBy_L4, q_l0, q_l1, q_l2, q_l3, q_l4, q_l5, q_l6, q_l7, q_l8, q_l9, q_l10, q_l11, q_l12, q_l13, q_l14, q_l15, q_l16, q_l20, q_l21, q_l22, q_l24, q_l25, q_l26, q_l27, q_l28, q_l29, q_l30, q_l31, q_l32, q_l40, q_l48, q_l57, q_l80, q_l97, q_l100, q_l120, q_l122, q_l126, q_l160, q_l200, q_l214, q_l255, q_l256, q_l374, q_l400, q_l999, q_l1000, q_l9999, q_l99, q_l99999, q_nm, q_gd, q_gd2, q_ix, q_lt, q_eq, q_m5a, q_m5b, q_m40b, q_m8a, q_m8b, q_m16b, q_m374b, q_m160b, q_m10a, q_div5, q_rem5, nI_add, q_moe, q_moe2, q_mol, q_mol2, q_mor, q_bd2, q_bd1, q_stI, q_oI0, if_true, if_false, ite_true, ite_false, ↓reduceIte, Nat.lt_irrefl, Nat.not_lt_zero, Nat.add_zero, Nat.zero_add, Nat.reduceEqDiff, Nat.reduceLeDiff, Nat.reduceLT, Nat.reduceAdd, Bool.false_eq_true, and_self, and_false, false_and, true_and, and_true, not_true_eq_false, not_false_eq_true, c2]
  · have hk := hT.2.2.2.2.2.2.1 b hb
    have hf := fm_le (by' := by') hT b
    have hd := df_le (n := tD T) (s := sbN T b (tZ T b)) (by' := by')
    have e := r_differsBy (by' := by') c0 (sb_lt hT hb _ (Nat.le_refl _)) h13 h2
    have e2 := r_setOf hR hT hb
    by_cases p1 : tK T b = 1
    · simp (maxSteps := 500000) (disch := first | assumption | omega) only [f_X11_familyBy_L4, q_l0, q_l1, q_l2, q_l3, q_l4, q_l5, q_l6, q_l7, q_l8, q_l9, q_l10, q_l11, q_l12, q_l13, q_l14, q_l15, q_l16, q_l20, q_l21, q_l22, q_l24, q_l25, q_l26, q_l27, q_l28, q_l29, q_l30, q_l31, q_l32, q_l40, q_l48, q_l57, q_l80, q_l97, q_l100, q_l120, q_l122, q_l126, q_l160, q_l200, q_l214, q_l255, q_l256, q_l374, q_l400, q_l999, q_l1000, q_l9999, q_l99, q_l99999, q_nm, q_gd, q_gd2, q_ix, q_lt, q_eq, q_m5a, q_m5b, q_m40b, q_m8a, q_m8b, q_m16b, q_m374b, q_m160b, q_m10a, q_div5, q_rem5, nI_add, q_moe, q_moe2, q_mol, q_mol2, q_mor, q_bd2, q_bd1, q_stI, q_oI0, if_true, if_false, ite_true, ite_false, ↓reduceIte, Nat.lt_irrefl, Nat.not_lt_zero, Nat.add_zero, Nat.zero_add, Nat.reduceEqDiff, Nat.reduceLeDiff, Nat.reduceLT, Nat.reduceAdd, Bool.false_eq_true, and_self, and_false, false_and, true_and, and_true, not_true_eq_false, not_false_eq_true, c2, hb, ck, p1, e2, e, fmN]
    · simp (maxSteps := 500000) (disch := first | assumption | omega) only [f_X11_familyBy_L4, q_l0, q_l1, q_l2, q_l3, q_l4, q_l5, q_l6, q_l7, q_l8, q_l9, q_l10, q_l11, q_l12, q_l13, q_l14, q_l15, q_l16, q_l20, q_l21, q_l22, q_l24, q_l25, q_l26, q_l27, q_l28, q_l29, q_l30, q_l31, q_l32, q_l40, q_l48, q_l57, q_l80, q_l97, q_l100, q_l120, q_l122, q_l126, q_l160, q_l200, q_l214, q_l255, q_l256, q_l374, q_l400, q_l999, q_l1000, q_l9999, q_l99, q_l99999, q_nm, q_gd, q_gd2, q_ix, q_lt, q_eq, q_m5a, q_m5b, q_m40b, q_m8a, q_m8b, q_m16b, q_m374b, q_m160b, q_m10a, q_div5, q_rem5, nI_add, q_moe, q_moe2, q_mol, q_mol2, q_mor, q_bd2, q_bd1, q_stI, q_oI0, if_true, if_false, ite_true, ite_false, ↓reduceIte, Nat.lt_irrefl, Nat.not_lt_zero, Nat.add_zero, Nat.zero_add, Nat.reduceEqDiff, Nat.reduceLeDiff, Nat.reduceLT, Nat.reduceAdd, Bool.false_eq_true, and_self, and_false, false_and, true_and, and_true, not_true_eq_false, not_false_eq_true, c2, hb, ck, p1, fmN]
def famF (T : Lv) : Int32 := if anyC T (tB T) then (if (∃ y, y < tD T ∧ 2 ≤ y ∧ fmN T y (tB T) ≠ fmN T 1 (tB T)) then mo else nI (fmN T 1 (tB T))) else mo
theorem fm78 (hT : WTo T) : fmN T by' (tB T) ≤ 78 := by
  have := fm_le (by' := by') hT (tB T)
  have := hT.2.2.1
  omega
theorem c_fam0 (hC : ToC t T m) (hT : WTo T) (hA : ¬ anyC T (tB T)) (j : Nat) : f_X1_ofFamily_L4 t (j + 1) (nI 1 * mo) (nI 1) m = some (nI 1 * mo, m) ∨ f_X1_ofFamily_L4 t (j + 1) mo (nI 1) m = some (mo, m) := by
  right
  have c0 := hC.1
  have h13 := hT.2.1
  by_cases hd1 : 1 < tD T
  · have e := c_ofCycles (by' := 1) hC hT (by omega) hd1
    rw [if_neg hA] at e
    simp (maxSteps := 500000) (disch := first | assumption | omega) only [f_X1_ofFamily_L4, q_l0, q_l1, q_l2, q_l3, q_l4, q_l5, q_l6, q_l7, q_l8, q_l9, q_l10, q_l11, q_l12, q_l13, q_l14, q_l15, q_l16, q_l20, q_l21, q_l22, q_l24, q_l25, q_l26, q_l27, q_l28, q_l29, q_l30, q_l31, q_l32, q_l40, q_l48, q_l57, q_l80, q_l97, q_l100, q_l120, q_l122, q_l126, q_l160, q_l200, q_l214, q_l255, q_l256, q_l374, q_l400, q_l999, q_l1000, q_l9999, q_l99, q_l99999, q_nm, q_gd, q_gd2, q_ix, q_lt, q_eq, q_m5a, q_m5b, q_m40b, q_m8a, q_m8b, q_m16b, q_m374b, q_m160b, q_m10a, q_div5, q_rem5, nI_add, q_moe, q_moe2, q_mol, q_mol2, q_mor, q_bd2, q_bd1, q_stI, q_oI0, if_true, if_false, ite_true, ite_false, ↓reduceIte, Nat.lt_irrefl, Nat.not_lt_zero, Nat.add_zero, Nat.zero_add, Nat.reduceEqDiff, Nat.reduceLeDiff, Nat.reduceLT, Nat.reduceAdd, Bool.false_eq_true, and_self, and_false, false_and, true_and, and_true, not_true_eq_false, not_false_eq_true, c0, hd1, e]
  · simp (maxSteps := 500000) (disch := first | assumption | omega) only [f_X1_ofFamily_L4, q_l0, q_l1, q_l2, q_l3, q_l4, q_l5, q_l6, q_l7, q_l8, q_l9, q_l10, q_l11, q_l12, q_l13, q_l14, q_l15, q_l16, q_l20, q_l21, q_l22, q_l24, q_l25, q_l26, q_l27, q_l28, q_l29, q_l30, q_l31, q_l32, q_l40, q_l48, q_l57, q_l80, q_l97, q_l100, q_l120, q_l122, q_l126, q_l160, q_l200, q_l214, q_l255, q_l256, q_l374, q_l400, q_l999, q_l1000, q_l9999, q_l99, q_l99999, q_nm, q_gd, q_gd2, q_ix, q_lt, q_eq, q_m5a, q_m5b, q_m40b, q_m8a, q_m8b, q_m16b, q_m374b, q_m160b, q_m10a, q_div5, q_rem5, nI_add, q_moe, q_moe2, q_mol, q_mol2, q_mor, q_bd2, q_bd1, q_stI, q_oI0, if_true, if_false, ite_true, ite_false, ↓reduceIte, Nat.lt_irrefl, Nat.not_lt_zero, Nat.add_zero, Nat.zero_add, Nat.reduceEqDiff, Nat.reduceLeDiff, Nat.reduceLT, Nat.reduceAdd, Bool.false_eq_true, and_self, and_false, false_and, true_and, and_true, not_true_eq_false, not_false_eq_true, c0, hd1]
theorem c_fam1 (hC : ToC t T m) (hT : WTo T) (hA : anyC T (tB T)) (hd1 : 1 < tD T) (j : Nat) : f_X1_ofFamily_L4 t (j + 1) mo (nI 1) m = f_X1_ofFamily_L4 t j (nI (fmN T 1 (tB T))) (nI 2) m := by
  have c0 := hC.1
  have h13 := hT.2.1
  have e := c_ofCycles (by' := 1) hC hT (by omega) hd1
  rw [if_pos hA] at e
  have h78 := fm78 (by' := 1) hT
  simp (maxSteps := 500000) (disch := first | assumption | omega) only [f_X1_ofFamily_L4, q_l0, q_l1, q_l2, q_l3, q_l4, q_l5, q_l6, q_l7, q_l8, q_l9, q_l10, q_l11, q_l12, q_l13, q_l14, q_l15, q_l16, q_l20, q_l21, q_l22, q_l24, q_l25, q_l26, q_l27, q_l28, q_l29, q_l30, q_l31, q_l32, q_l40, q_l48, q_l57, q_l80, q_l97, q_l100, q_l120, q_l122, q_l126, q_l160, q_l200, q_l214, q_l255, q_l256, q_l374, q_l400, q_l999, q_l1000, q_l9999, q_l99, q_l99999, q_nm, q_gd, q_gd2, q_ix, q_lt, q_eq, q_m5a, q_m5b, q_m40b, q_m8a, q_m8b, q_m16b, q_m374b, q_m160b, q_m10a, q_div5, q_rem5, nI_add, q_moe, q_moe2, q_mol, q_mol2, q_mor, q_bd2, q_bd1, q_stI, q_oI0, if_true, if_false, ite_true, ite_false, ↓reduceIte, Nat.lt_irrefl, Nat.not_lt_zero, Nat.add_zero, Nat.zero_add, Nat.reduceEqDiff, Nat.reduceLeDiff, Nat.reduceLT, Nat.reduceAdd, Bool.false_eq_true, and_self, and_false, false_and, true_and, and_true, not_true_eq_false, not_false_eq_true, c0, hd1, e]
theorem c_fam2 (hC : ToC t T m) (hT : WTo T) (hA : anyC T (tB T)) (hd1 : 1 < tD T) (j : Nat) (hj : 100 ≤ j) : f_X1_ofFamily_L4 t j (nI (fmN T 1 (tB T))) (nI 2) m = some (if (∃ y, y < tD T ∧ 2 ≤ y ∧ fmN T y (tB T) ≠ fmN T 1 (tB T)) then mo else nI (fmN T 1 (tB T)), m) := by
  have c0 := hC.1
  have h13 := hT.2.1
  have h78 := fm78 (by' := 1) hT
  have eC : ∀ y, 1 ≤ y → y < tD T → f_X1_ofCycles t (nI y) m = some (nI (fmN T y (tB T)), m) := fun y y1 y2 => by
    rw [c_ofCycles hC hT y1 y2, if_pos hA]
  have hstep : ∀ k y, 2 ≤ y → y < tD T → fmN T y (tB T) = fmN T 1 (tB T) → f_X1_ofFamily_L4 t (k + 1) (nI (fmN T 1 (tB T))) (nI y) m = f_X1_ofFamily_L4 t k (nI (fmN T 1 (tB T))) (nI (y + 1)) m := fun k y y1 y2 g4 => by
    have e := eC y (by omega) y2
    have g3 : 1 < y := by omega
    rw [g4] at e
    simp (maxSteps := 500000) (disch := first | assumption | omega) only [f_X1_ofFamily_L4, q_l0, q_l1, q_l2, q_l3, q_l4, q_l5, q_l6, q_l7, q_l8, q_l9, q_l10, q_l11, q_l12, q_l13, q_l14, q_l15, q_l16, q_l20, q_l21, q_l22, q_l24, q_l25, q_l26, q_l27, q_l28, q_l29, q_l30, q_l31, q_l32, q_l40, q_l48, q_l57, q_l80, q_l97, q_l100, q_l120, q_l122, q_l126, q_l160, q_l200, q_l214, q_l255, q_l256, q_l374, q_l400, q_l999, q_l1000, q_l9999, q_l99, q_l99999, q_nm, q_gd, q_gd2, q_ix, q_lt, q_eq, q_m5a, q_m5b, q_m40b, q_m8a, q_m8b, q_m16b, q_m374b, q_m160b, q_m10a, q_div5, q_rem5, nI_add, q_moe, q_moe2, q_mol, q_mol2, q_mor, q_bd2, q_bd1, q_stI, q_oI0, if_true, if_false, ite_true, ite_false, ↓reduceIte, Nat.lt_irrefl, Nat.not_lt_zero, Nat.add_zero, Nat.zero_add, Nat.reduceEqDiff, Nat.reduceLeDiff, Nat.reduceLT, Nat.reduceAdd, Bool.false_eq_true, and_self, and_false, false_and, true_and, and_true, not_true_eq_false, not_false_eq_true, c0, y2, e, g3]
  by_cases hall : ∃ y, y < tD T ∧ 2 ≤ y ∧ fmN T y (tB T) ≠ fmN T 1 (tB T)
  · rw [if_pos hall]
    have hlt : fs (fun y => 2 ≤ y ∧ fmN T y (tB T) ≠ fmN T 1 (tB T)) (tD T) < tD T := by
      obtain ⟨y, y2, y1, y3⟩ := hall
      rcases Nat.lt_or_ge (fs (fun y => 2 ≤ y ∧ fmN T y (tB T) ≠ fmN T 1 (tB T)) (tD T)) (tD T) with h | h
      · exact h
      · exact absurd ⟨y1, y3⟩ (fs_not (fun y => 2 ≤ y ∧ fmN T y (tB T) ≠ fmN T 1 (tB T)) (tD T) y (by omega))
    have his := fs_is (fun y => 2 ≤ y ∧ fmN T y (tB T) ≠ fmN T 1 (tB T)) (tD T) hlt
    have hno := fs_not (fun y => 2 ≤ y ∧ fmN T y (tB T) ≠ fmN T 1 (tB T)) (tD T)
    generalize fs (fun y => 2 ≤ y ∧ fmN T y (tB T) ≠ fmN T 1 (tB T)) (tD T) = y0 at hlt his hno
    refine lpsK (fun j y => f_X1_ofFamily_L4 t j (nI (fmN T 1 (tB T))) (nI y) m) 2 y0 (some (mo, m)) (fun k => ?_) (fun k y y1 y2 => hstep k y y1 (by omega) (Classical.byContradiction fun h => hno y y2 ⟨y1, h⟩)) his.1 j (by omega)
    have e := eC y0 (by omega) hlt
    have g1 := fm78 (by' := y0) hT
    have g3 : 1 < y0 := by omega
    have g4 : (fmN T y0 (tB T) = fmN T 1 (tB T)) = False := eq_false his.2
    simp (maxSteps := 500000) (disch := first | assumption | omega) only [f_X1_ofFamily_L4, q_l0, q_l1, q_l2, q_l3, q_l4, q_l5, q_l6, q_l7, q_l8, q_l9, q_l10, q_l11, q_l12, q_l13, q_l14, q_l15, q_l16, q_l20, q_l21, q_l22, q_l24, q_l25, q_l26, q_l27, q_l28, q_l29, q_l30, q_l31, q_l32, q_l40, q_l48, q_l57, q_l80, q_l97, q_l100, q_l120, q_l122, q_l126, q_l160, q_l200, q_l214, q_l255, q_l256, q_l374, q_l400, q_l999, q_l1000, q_l9999, q_l99, q_l99999, q_nm, q_gd, q_gd2, q_ix, q_lt, q_eq, q_m5a, q_m5b, q_m40b, q_m8a, q_m8b, q_m16b, q_m374b, q_m160b, q_m10a, q_div5, q_rem5, nI_add, q_moe, q_moe2, q_mol, q_mol2, q_mor, q_bd2, q_bd1, q_stI, q_oI0, if_true, if_false, ite_true, ite_false, ↓reduceIte, Nat.lt_irrefl, Nat.not_lt_zero, Nat.add_zero, Nat.zero_add, Nat.reduceEqDiff, Nat.reduceLeDiff, Nat.reduceLT, Nat.reduceAdd, Bool.false_eq_true, and_self, and_false, false_and, true_and, and_true, not_true_eq_false, not_false_eq_true, c0, hlt, e, g3, g4]
  · rw [if_neg hall]
    refine lpsK (fun j y => f_X1_ofFamily_L4 t j (nI (fmN T 1 (tB T))) (nI y) m) 2 (tD T) (some (nI (fmN T 1 (tB T)), m)) (fun k => ?_) (fun k y y1 y2 => hstep k y y1 y2 (Classical.byContradiction fun h => hall ⟨y, y2, y1, h⟩)) (by omega) j (by omega)
    simp (maxSteps := 500000) (disch := first | assumption | omega) only [f_X1_ofFamily_L4, q_l0, q_l1, q_l2, q_l3, q_l4, q_l5, q_l6, q_l7, q_l8, q_l9, q_l10, q_l11, q_l12, q_l13, q_l14, q_l15, q_l16, q_l20, q_l21, q_l22, q_l24, q_l25, q_l26, q_l27, q_l28, q_l29, q_l30, q_l31, q_l32, q_l40, q_l48, q_l57, q_l80, q_l97, q_l100, q_l120, q_l122, q_l126, q_l160, q_l200, q_l214, q_l255, q_l256, q_l374, q_l400, q_l999, q_l1000, q_l9999, q_l99, q_l99999, q_nm, q_gd, q_gd2, q_ix, q_lt, q_eq, q_m5a, q_m5b, q_m40b, q_m8a, q_m8b, q_m16b, q_m374b, q_m160b, q_m10a, q_div5, q_rem5, nI_add, q_moe, q_moe2, q_mol, q_mol2, q_mor, q_bd2, q_bd1, q_stI, q_oI0, if_true, if_false, ite_true, ite_false, ↓reduceIte, Nat.lt_irrefl, Nat.not_lt_zero, Nat.add_zero, Nat.zero_add, Nat.reduceEqDiff, Nat.reduceLeDiff, Nat.reduceLT, Nat.reduceAdd, Bool.false_eq_true, and_self, and_false, false_and, true_and, and_true, not_true_eq_false, not_false_eq_true, c0]
theorem any2 (hT : WTo T) (hA : anyC T (tB T)) : 1 < tD T := by
  obtain ⟨q, h1, _⟩ := hA
  have := hT.2.2.2.1 (by omega)
  omega
theorem c_family (hC : ToC t T m) (hT : WTo T) : f_X1_ofFamily t m = some (famF T, m) := by
  obtain ⟨j, hj1, hj2⟩ := FU_j
  unfold f_X1_ofFamily famF
  rw [hj1, q_l1, q_nm]
  by_cases hA : anyC T (tB T)
  · rw [if_pos hA, c_fam1 hC hT hA (any2 hT hA), c_fam2 hC hT hA (any2 hT hA) j hj2]
  · rw [if_neg hA]
    rcases c_fam0 hC hT hA j with h | h
    · rw [show nI 1 * mo = mo from by decide] at h
      exact h
    · exact h
theorem r_fam51 (hR : ToR T m) (hT : WTo T) (hd1 : 1 < tD T) : f_X11_family_L51 FU (nI 2) m = some (if (∃ y, y < tD T ∧ 2 ≤ y ∧ fmN T y (tB T) ≠ fmN T 1 (tB T)) then mo else nI (fmN T 1 (tB T)), m) := by
  have r0 := hR.1
  have h13 := hT.2.1
  have e1 := r_familyBy (by' := 1) hR hT (by omega)
  have g1 := fm78 (by' := 1) hT
  have h := lpx (fun j y => f_X11_family_L51 j (nI y) m) (fun y => fmN T y (tB T) ≠ fmN T 1 (tB T)) 2 (tD T) (some (mo, m)) (some (nI (fmN T 1 (tB T)), m)) (by omega) (by omega) (fun j => by
    simp (maxSteps := 500000) (disch := first | assumption | omega) only [f_X11_family_L51, q_l0, q_l1, q_l2, q_l3, q_l4, q_l5, q_l6, q_l7, q_l8, q_l9, q_l10, q_l11, q_l12, q_l13, q_l14, q_l15, q_l16, q_l20, q_l21, q_l22, q_l24, q_l25, q_l26, q_l27, q_l28, q_l29, q_l30, q_l31, q_l32, q_l40, q_l48, q_l57, q_l80, q_l97, q_l100, q_l120, q_l122, q_l126, q_l160, q_l200, q_l214, q_l255, q_l256, q_l374, q_l400, q_l999, q_l1000, q_l9999, q_l99, q_l99999, q_nm, q_gd, q_gd2, q_ix, q_lt, q_eq, q_m5a, q_m5b, q_m40b, q_m8a, q_m8b, q_m16b, q_m374b, q_m160b, q_m10a, q_div5, q_rem5, nI_add, q_moe, q_moe2, q_mol, q_mol2, q_mor, q_bd2, q_bd1, q_stI, q_oI0, if_true, if_false, ite_true, ite_false, ↓reduceIte, Nat.lt_irrefl, Nat.not_lt_zero, Nat.add_zero, Nat.zero_add, Nat.reduceEqDiff, Nat.reduceLeDiff, Nat.reduceLT, Nat.reduceAdd, Bool.false_eq_true, and_self, and_false, false_and, true_and, and_true, not_true_eq_false, not_false_eq_true, r0, e1]) (fun j y y1 y2 y3 => by
    have e2 := r_familyBy (by' := y) hR hT (by omega)
    have g2 := fm78 (by' := y) hT
    have g4 : (fmN T y (tB T) = fmN T 1 (tB T)) = False := eq_false y3
    simp (maxSteps := 500000) (disch := first | assumption | omega) only [f_X11_family_L51, q_l0, q_l1, q_l2, q_l3, q_l4, q_l5, q_l6, q_l7, q_l8, q_l9, q_l10, q_l11, q_l12, q_l13, q_l14, q_l15, q_l16, q_l20, q_l21, q_l22, q_l24, q_l25, q_l26, q_l27, q_l28, q_l29, q_l30, q_l31, q_l32, q_l40, q_l48, q_l57, q_l80, q_l97, q_l100, q_l120, q_l122, q_l126, q_l160, q_l200, q_l214, q_l255, q_l256, q_l374, q_l400, q_l999, q_l1000, q_l9999, q_l99, q_l99999, q_nm, q_gd, q_gd2, q_ix, q_lt, q_eq, q_m5a, q_m5b, q_m40b, q_m8a, q_m8b, q_m16b, q_m374b, q_m160b, q_m10a, q_div5, q_rem5, nI_add, q_moe, q_moe2, q_mol, q_mol2, q_mor, q_bd2, q_bd1, q_stI, q_oI0, if_true, if_false, ite_true, ite_false, ↓reduceIte, Nat.lt_irrefl, Nat.not_lt_zero, Nat.add_zero, Nat.zero_add, Nat.reduceEqDiff, Nat.reduceLeDiff, Nat.reduceLT, Nat.reduceAdd, Bool.false_eq_true, and_self, and_false, false_and, true_and, and_true, not_true_eq_false, not_false_eq_true, r0, y2, e1, e2, g4]) (fun j y y1 y2 y3 => by
    have e2 := r_familyBy (by' := y) hR hT (by omega)
    have g4 : fmN T y (tB T) = fmN T 1 (tB T) := Classical.byContradiction y3
    rw [g4] at e2
    simp (maxSteps := 500000) (disch := first | assumption | omega) only [f_X11_family_L51, q_l0, q_l1, q_l2, q_l3, q_l4, q_l5, q_l6, q_l7, q_l8, q_l9, q_l10, q_l11, q_l12, q_l13, q_l14, q_l15, q_l16, q_l20, q_l21, q_l22, q_l24, q_l25, q_l26, q_l27, q_l28, q_l29, q_l30, q_l31, q_l32, q_l40, q_l48, q_l57, q_l80, q_l97, q_l100, q_l120, q_l122, q_l126, q_l160, q_l200, q_l214, q_l255, q_l256, q_l374, q_l400, q_l999, q_l1000, q_l9999, q_l99, q_l99999, q_nm, q_gd, q_gd2, q_ix, q_lt, q_eq, q_m5a, q_m5b, q_m40b, q_m8a, q_m8b, q_m16b, q_m374b, q_m160b, q_m10a, q_div5, q_rem5, nI_add, q_moe, q_moe2, q_mol, q_mol2, q_mor, q_bd2, q_bd1, q_stI, q_oI0, if_true, if_false, ite_true, ite_false, ↓reduceIte, Nat.lt_irrefl, Nat.not_lt_zero, Nat.add_zero, Nat.zero_add, Nat.reduceEqDiff, Nat.reduceLeDiff, Nat.reduceLT, Nat.reduceAdd, Bool.false_eq_true, and_self, and_false, false_and, true_and, and_true, not_true_eq_false, not_false_eq_true, r0, y2, e1, e2])
  by_cases hall : ∃ y, y < tD T ∧ 2 ≤ y ∧ fmN T y (tB T) ≠ fmN T 1 (tB T)
  · rw [if_pos hall]
    obtain ⟨y, y1, y2, y3⟩ := hall
    exact h.1 ⟨y, y2, y1, y3⟩
  · rw [if_neg hall]
    exact h.2 (fun y y1 y2 y3 => hall ⟨y, y2, y1, y3⟩)
theorem r_family (hR : ToR T m) (hT : WTo T) : f_X11_family_L9 FU (nI 0) (nI 0) m = some (famF T, m) := by
  have h6 := hT.2.2.1
  obtain ⟨r0, r1, r2, rk, rz, rm⟩ := id hR
  have hany := lp0 (fun j b => f_X11_family_L9 j (nI (if anyC T b then 1 else 0)) (nI b) m) (tB T) (if anyC T (tB T) then f_X11_family_L51 FU (nI 2) m else some (mo, m)) (fun j => by
    by_cases p : anyC T (tB T)
    · simp (maxSteps := 500000) (disch := first | assumption | omega) only [f_X11_family_L9, q_l0, q_l1, q_l2, q_l3, q_l4, q_l5, q_l6, q_l7, q_l8, q_l9, q_l10, q_l11, q_l12, q_l13, q_l14, q_l15, q_l16, q_l20, q_l21, q_l22, q_l24, q_l25, q_l26, q_l27, q_l28, q_l29, q_l30, q_l31, q_l32, q_l40, q_l48, q_l57, q_l80, q_l97, q_l100, q_l120, q_l122, q_l126, q_l160, q_l200, q_l214, q_l255, q_l256, q_l374, q_l400, q_l999, q_l1000, q_l9999, q_l99, q_l99999, q_nm, q_gd, q_gd2, q_ix, q_lt, q_eq, q_m5a, q_m5b, q_m40b, q_m8a, q_m8b, q_m16b, q_m374b, q_m160b, q_m10a, q_div5, q_rem5, nI_add, q_moe, q_moe2, q_mol, q_mol2, q_mor, q_bd2, q_bd1, q_stI, q_oI0, if_true, if_false, ite_true, ite_false, ↓reduceIte, Nat.lt_irrefl, Nat.not_lt_zero, Nat.add_zero, Nat.zero_add, Nat.reduceEqDiff, Nat.reduceLeDiff, Nat.reduceLT, Nat.reduceAdd, Bool.false_eq_true, and_self, and_false, false_and, true_and, and_true, not_true_eq_false, not_false_eq_true, r1, p]
    · simp (maxSteps := 500000) (disch := first | assumption | omega) only [f_X11_family_L9, q_l0, q_l1, q_l2, q_l3, q_l4, q_l5, q_l6, q_l7, q_l8, q_l9, q_l10, q_l11, q_l12, q_l13, q_l14, q_l15, q_l16, q_l20, q_l21, q_l22, q_l24, q_l25, q_l26, q_l27, q_l28, q_l29, q_l30, q_l31, q_l32, q_l40, q_l48, q_l57, q_l80, q_l97, q_l100, q_l120, q_l122, q_l126, q_l160, q_l200, q_l214, q_l255, q_l256, q_l374, q_l400, q_l999, q_l1000, q_l9999, q_l99, q_l99999, q_nm, q_gd, q_gd2, q_ix, q_lt, q_eq, q_m5a, q_m5b, q_m40b, q_m8a, q_m8b, q_m16b, q_m374b, q_m160b, q_m10a, q_div5, q_rem5, nI_add, q_moe, q_moe2, q_mol, q_mol2, q_mor, q_bd2, q_bd1, q_stI, q_oI0, if_true, if_false, ite_true, ite_false, ↓reduceIte, Nat.lt_irrefl, Nat.not_lt_zero, Nat.add_zero, Nat.zero_add, Nat.reduceEqDiff, Nat.reduceLeDiff, Nat.reduceLT, Nat.reduceAdd, Bool.false_eq_true, and_self, and_false, false_and, true_and, and_true, not_true_eq_false, not_false_eq_true, r1, p]) (fun j b hb => by
    have hk := hT.2.2.2.2.2.2.1 b hb
    have o1 : nI 1 ||| nI 1 = nI 1 := by decide
    have o2 : nI 0 ||| nI 1 = nI 1 := by decide
    have o3 : nI 1 ||| nI 0 = nI 1 := by decide
    have o4 : nI 0 ||| nI 0 = nI 0 := by decide
    by_cases p1 : tK T b = 1
    · have ha : anyC T (b + 1) := ⟨b, by omega, p1⟩
      by_cases p2 : anyC T b
      · simp (maxSteps := 500000) (disch := first | assumption | omega) only [f_X11_family_L9, q_l0, q_l1, q_l2, q_l3, q_l4, q_l5, q_l6, q_l7, q_l8, q_l9, q_l10, q_l11, q_l12, q_l13, q_l14, q_l15, q_l16, q_l20, q_l21, q_l22, q_l24, q_l25, q_l26, q_l27, q_l28, q_l29, q_l30, q_l31, q_l32, q_l40, q_l48, q_l57, q_l80, q_l97, q_l100, q_l120, q_l122, q_l126, q_l160, q_l200, q_l214, q_l255, q_l256, q_l374, q_l400, q_l999, q_l1000, q_l9999, q_l99, q_l99999, q_nm, q_gd, q_gd2, q_ix, q_lt, q_eq, q_m5a, q_m5b, q_m40b, q_m8a, q_m8b, q_m16b, q_m374b, q_m160b, q_m10a, q_div5, q_rem5, nI_add, q_moe, q_moe2, q_mol, q_mol2, q_mor, q_bd2, q_bd1, q_stI, q_oI0, if_true, if_false, ite_true, ite_false, ↓reduceIte, Nat.lt_irrefl, Nat.not_lt_zero, Nat.add_zero, Nat.zero_add, Nat.reduceEqDiff, Nat.reduceLeDiff, Nat.reduceLT, Nat.reduceAdd, Bool.false_eq_true, and_self, and_false, false_and, true_and, and_true, not_true_eq_false, not_false_eq_true, r1, hb, rk, p1, ha, p2, o1]
      · simp (maxSteps := 500000) (disch := first | assumption | omega) only [f_X11_family_L9, q_l0, q_l1, q_l2, q_l3, q_l4, q_l5, q_l6, q_l7, q_l8, q_l9, q_l10, q_l11, q_l12, q_l13, q_l14, q_l15, q_l16, q_l20, q_l21, q_l22, q_l24, q_l25, q_l26, q_l27, q_l28, q_l29, q_l30, q_l31, q_l32, q_l40, q_l48, q_l57, q_l80, q_l97, q_l100, q_l120, q_l122, q_l126, q_l160, q_l200, q_l214, q_l255, q_l256, q_l374, q_l400, q_l999, q_l1000, q_l9999, q_l99, q_l99999, q_nm, q_gd, q_gd2, q_ix, q_lt, q_eq, q_m5a, q_m5b, q_m40b, q_m8a, q_m8b, q_m16b, q_m374b, q_m160b, q_m10a, q_div5, q_rem5, nI_add, q_moe, q_moe2, q_mol, q_mol2, q_mor, q_bd2, q_bd1, q_stI, q_oI0, if_true, if_false, ite_true, ite_false, ↓reduceIte, Nat.lt_irrefl, Nat.not_lt_zero, Nat.add_zero, Nat.zero_add, Nat.reduceEqDiff, Nat.reduceLeDiff, Nat.reduceLT, Nat.reduceAdd, Bool.false_eq_true, and_self, and_false, false_and, true_and, and_true, not_true_eq_false, not_false_eq_true, r1, hb, rk, p1, ha, p2, o2]
    · have hab : anyC T (b + 1) ↔ anyC T b := by
        constructor
        · rintro ⟨q, h3, h4⟩
          have : q ≠ b := fun e => p1 (e ▸ h4)
          exact ⟨q, by omega, h4⟩
        · rintro ⟨q, h3, h4⟩
          exact ⟨q, by omega, h4⟩
      by_cases p2 : anyC T b
      · have p3 : anyC T (b + 1) := hab.mpr p2
        simp (maxSteps := 500000) (disch := first | assumption | omega) only [f_X11_family_L9, q_l0, q_l1, q_l2, q_l3, q_l4, q_l5, q_l6, q_l7, q_l8, q_l9, q_l10, q_l11, q_l12, q_l13, q_l14, q_l15, q_l16, q_l20, q_l21, q_l22, q_l24, q_l25, q_l26, q_l27, q_l28, q_l29, q_l30, q_l31, q_l32, q_l40, q_l48, q_l57, q_l80, q_l97, q_l100, q_l120, q_l122, q_l126, q_l160, q_l200, q_l214, q_l255, q_l256, q_l374, q_l400, q_l999, q_l1000, q_l9999, q_l99, q_l99999, q_nm, q_gd, q_gd2, q_ix, q_lt, q_eq, q_m5a, q_m5b, q_m40b, q_m8a, q_m8b, q_m16b, q_m374b, q_m160b, q_m10a, q_div5, q_rem5, nI_add, q_moe, q_moe2, q_mol, q_mol2, q_mor, q_bd2, q_bd1, q_stI, q_oI0, if_true, if_false, ite_true, ite_false, ↓reduceIte, Nat.lt_irrefl, Nat.not_lt_zero, Nat.add_zero, Nat.zero_add, Nat.reduceEqDiff, Nat.reduceLeDiff, Nat.reduceLT, Nat.reduceAdd, Bool.false_eq_true, and_self, and_false, false_and, true_and, and_true, not_true_eq_false, not_false_eq_true, r1, hb, rk, p1, p2, p3, o3]
      · have p3 : ¬ anyC T (b + 1) := fun h => p2 (hab.mp h)
        simp (maxSteps := 500000) (disch := first | assumption | omega) only [f_X11_family_L9, q_l0, q_l1, q_l2, q_l3, q_l4, q_l5, q_l6, q_l7, q_l8, q_l9, q_l10, q_l11, q_l12, q_l13, q_l14, q_l15, q_l16, q_l20, q_l21, q_l22, q_l24, q_l25, q_l26, q_l27, q_l28, q_l29, q_l30, q_l31, q_l32, q_l40, q_l48, q_l57, q_l80, q_l97, q_l100, q_l120, q_l122, q_l126, q_l160, q_l200, q_l214, q_l255, q_l256, q_l374, q_l400, q_l999, q_l1000, q_l9999, q_l99, q_l99999, q_nm, q_gd, q_gd2, q_ix, q_lt, q_eq, q_m5a, q_m5b, q_m40b, q_m8a, q_m8b, q_m16b, q_m374b, q_m160b, q_m10a, q_div5, q_rem5, nI_add, q_moe, q_moe2, q_mol, q_mol2, q_mor, q_bd2, q_bd1, q_stI, q_oI0, if_true, if_false, ite_true, ite_false, ↓reduceIte, Nat.lt_irrefl, Nat.not_lt_zero, Nat.add_zero, Nat.zero_add, Nat.reduceEqDiff, Nat.reduceLeDiff, Nat.reduceLT, Nat.reduceAdd, Bool.false_eq_true, and_self, and_false, false_and, true_and, and_true, not_true_eq_false, not_false_eq_true, r1, hb, rk, p1, p2, p3, o4]) (by omega)
  have z0 : ¬ anyC T 0 := fun h => by
    obtain ⟨q, h1, _⟩ := h
    omega
  rw [if_neg z0] at hany
  rw [hany]
  unfold famF
  by_cases hA : anyC T (tB T)
  · rw [if_pos hA, if_pos hA, r_fam51 hR hT (any2 hT hA)]
  · rw [if_neg hA, if_neg hA]
theorem a_family (hC : ToC t T m) (hR : ToR T m) (hT : WTo T) : ∃ r, f_X10_family t u w v m = some (r, m) ∧ f_X11_family m = some (r, th m) := by
  refine ⟨famF T, ?_, ?_⟩
  · unfold f_X10_family
    rw [c_family hC hT, q_bd2]
  · unfold f_X11_family
    rw [q_stI, q_th, q_l0]
    exact r_family (ToR_th hR) hT
/-! seek -/
theorem al_c (hs : s < 2 ^ n) (hn : n ≤ 13) (h2 : 2 ≤ n) : f_X1_areAlike (nI s) (nI n) m = some (nI (if allS n s then 1 else 0), m) := by
  have e1 := c_ofSet (m := m) hs hn (Nat.le_refl 1) (show 1 < n by omega)
  have g1 := df_le (n := n) (s := s) (by' := 1)
  have h := lpx (fun j y => f_X1_areAlike_L9 j (nI s) (nI n) (nI (dfN n s 1)) (nI y) m) (fun y => dfN n s y ≠ dfN n s 1) 2 n (some (nI 0, m)) (some (nI 1, m)) h2 (by omega) (fun j => by
    simp (maxSteps := 500000) (disch := first | assumption | omega) only [f_X1_areAlike_L9, q_l0, q_l1, q_l2, q_l3, q_l4, q_l5, q_l6, q_l7, q_l8, q_l9, q_l10, q_l11, q_l12, q_l13, q_l14, q_l15, q_l16, q_l20, q_l21, q_l22, q_l24, q_l25, q_l26, q_l27, q_l28, q_l29, q_l30, q_l31, q_l32, q_l40, q_l48, q_l57, q_l80, q_l97, q_l100, q_l120, q_l122, q_l126, q_l160, q_l200, q_l214, q_l255, q_l256, q_l374, q_l400, q_l999, q_l1000, q_l9999, q_l99, q_l99999, q_nm, q_gd, q_gd2, q_ix, q_lt, q_eq, q_m5a, q_m5b, q_m40b, q_m8a, q_m8b, q_m16b, q_m374b, q_m160b, q_m10a, q_div5, q_rem5, nI_add, q_moe, q_moe2, q_mol, q_mol2, q_mor, q_bd2, q_bd1, q_stI, q_oI0, if_true, if_false, ite_true, ite_false, ↓reduceIte, Nat.lt_irrefl, Nat.not_lt_zero, Nat.add_zero, Nat.zero_add, Nat.reduceEqDiff, Nat.reduceLeDiff, Nat.reduceLT, Nat.reduceAdd, Bool.false_eq_true, and_self, and_false, false_and, true_and, and_true, not_true_eq_false, not_false_eq_true]) (fun j y y1 y2 y3 => by
    have e2 := c_ofSet (m := m) hs hn (show 1 ≤ y by omega) y2
    have g2 := df_le (n := n) (s := s) (by' := y)
    have g4 : (dfN n s y = dfN n s 1) = False := eq_false y3
    simp (maxSteps := 500000) (disch := first | assumption | omega) only [f_X1_areAlike_L9, q_l0, q_l1, q_l2, q_l3, q_l4, q_l5, q_l6, q_l7, q_l8, q_l9, q_l10, q_l11, q_l12, q_l13, q_l14, q_l15, q_l16, q_l20, q_l21, q_l22, q_l24, q_l25, q_l26, q_l27, q_l28, q_l29, q_l30, q_l31, q_l32, q_l40, q_l48, q_l57, q_l80, q_l97, q_l100, q_l120, q_l122, q_l126, q_l160, q_l200, q_l214, q_l255, q_l256, q_l374, q_l400, q_l999, q_l1000, q_l9999, q_l99, q_l99999, q_nm, q_gd, q_gd2, q_ix, q_lt, q_eq, q_m5a, q_m5b, q_m40b, q_m8a, q_m8b, q_m16b, q_m374b, q_m160b, q_m10a, q_div5, q_rem5, nI_add, q_moe, q_moe2, q_mol, q_mol2, q_mor, q_bd2, q_bd1, q_stI, q_oI0, if_true, if_false, ite_true, ite_false, ↓reduceIte, Nat.lt_irrefl, Nat.not_lt_zero, Nat.add_zero, Nat.zero_add, Nat.reduceEqDiff, Nat.reduceLeDiff, Nat.reduceLT, Nat.reduceAdd, Bool.false_eq_true, and_self, and_false, false_and, true_and, and_true, not_true_eq_false, not_false_eq_true, y2, e2, g4]) (fun j y y1 y2 y3 => by
    have e2 := c_ofSet (m := m) hs hn (show 1 ≤ y by omega) y2
    have g4 : dfN n s y = dfN n s 1 := Classical.byContradiction y3
    rw [g4] at e2
    simp (maxSteps := 500000) (disch := first | assumption | omega) only [f_X1_areAlike_L9, q_l0, q_l1, q_l2, q_l3, q_l4, q_l5, q_l6, q_l7, q_l8, q_l9, q_l10, q_l11, q_l12, q_l13, q_l14, q_l15, q_l16, q_l20, q_l21, q_l22, q_l24, q_l25, q_l26, q_l27, q_l28, q_l29, q_l30, q_l31, q_l32, q_l40, q_l48, q_l57, q_l80, q_l97, q_l100, q_l120, q_l122, q_l126, q_l160, q_l200, q_l214, q_l255, q_l256, q_l374, q_l400, q_l999, q_l1000, q_l9999, q_l99, q_l99999, q_nm, q_gd, q_gd2, q_ix, q_lt, q_eq, q_m5a, q_m5b, q_m40b, q_m8a, q_m8b, q_m16b, q_m374b, q_m160b, q_m10a, q_div5, q_rem5, nI_add, q_moe, q_moe2, q_mol, q_mol2, q_mor, q_bd2, q_bd1, q_stI, q_oI0, if_true, if_false, ite_true, ite_false, ↓reduceIte, Nat.lt_irrefl, Nat.not_lt_zero, Nat.add_zero, Nat.zero_add, Nat.reduceEqDiff, Nat.reduceLeDiff, Nat.reduceLT, Nat.reduceAdd, Bool.false_eq_true, and_self, and_false, false_and, true_and, and_true, not_true_eq_false, not_false_eq_true, y2, e2])
  unfold f_X1_areAlike
  rw [q_l1, e1, q_bd2, q_l2]
  by_cases ha : allS n s
  · rw [if_pos ha]
    exact h.2 (fun y y1 y2 y3 => y3 (ha y y2 y1))
  · rw [if_neg ha]
    refine h.1 (Classical.byContradiction fun hne => ha (fun y y2 y1 => Classical.byContradiction fun y3 => hne ⟨y, y1, y2, y3⟩))
theorem al_r (hT : gI m 80 0 = nI n) (hs : s < 2 ^ n) (hn : n ≤ 13) (h2 : 2 ≤ n) : f_X11_isAlike (nI s) m = some (nI (if allS n s then 1 else 0), m) := by
  have e1 := r_differsBy (by' := 1) hT hs hn (by omega)
  have g1 := df_le (n := n) (s := s) (by' := 1)
  have h := lpx (fun j y => f_X11_isAlike_L2 j (nI s) (nI y) m) (fun y => dfN n s y ≠ dfN n s 1) 2 n (some (nI 0, m)) (some (nI 1, m)) h2 (by omega) (fun j => by
    simp (maxSteps := 500000) (disch := first | assumption | omega) only [f_X11_isAlike_L2, q_l0, q_l1, q_l2, q_l3, q_l4, q_l5, q_l6, q_l7, q_l8, q_l9, q_l10, q_l11, q_l12, q_l13, q_l14, q_l15, q_l16, q_l20, q_l21, q_l22, q_l24, q_l25, q_l26, q_l27, q_l28, q_l29, q_l30, q_l31, q_l32, q_l40, q_l48, q_l57, q_l80, q_l97, q_l100, q_l120, q_l122, q_l126, q_l160, q_l200, q_l214, q_l255, q_l256, q_l374, q_l400, q_l999, q_l1000, q_l9999, q_l99, q_l99999, q_nm, q_gd, q_gd2, q_ix, q_lt, q_eq, q_m5a, q_m5b, q_m40b, q_m8a, q_m8b, q_m16b, q_m374b, q_m160b, q_m10a, q_div5, q_rem5, nI_add, q_moe, q_moe2, q_mol, q_mol2, q_mor, q_bd2, q_bd1, q_stI, q_oI0, if_true, if_false, ite_true, ite_false, ↓reduceIte, Nat.lt_irrefl, Nat.not_lt_zero, Nat.add_zero, Nat.zero_add, Nat.reduceEqDiff, Nat.reduceLeDiff, Nat.reduceLT, Nat.reduceAdd, Bool.false_eq_true, and_self, and_false, false_and, true_and, and_true, not_true_eq_false, not_false_eq_true, hT]) (fun j y y1 y2 y3 => by
    have e2 := r_differsBy (by' := y) hT hs hn (by omega)
    have g2 := df_le (n := n) (s := s) (by' := y)
    have g4 : (dfN n s y = dfN n s 1) = False := eq_false y3
    simp (maxSteps := 500000) (disch := first | assumption | omega) only [f_X11_isAlike_L2, q_l0, q_l1, q_l2, q_l3, q_l4, q_l5, q_l6, q_l7, q_l8, q_l9, q_l10, q_l11, q_l12, q_l13, q_l14, q_l15, q_l16, q_l20, q_l21, q_l22, q_l24, q_l25, q_l26, q_l27, q_l28, q_l29, q_l30, q_l31, q_l32, q_l40, q_l48, q_l57, q_l80, q_l97, q_l100, q_l120, q_l122, q_l126, q_l160, q_l200, q_l214, q_l255, q_l256, q_l374, q_l400, q_l999, q_l1000, q_l9999, q_l99, q_l99999, q_nm, q_gd, q_gd2, q_ix, q_lt, q_eq, q_m5a, q_m5b, q_m40b, q_m8a, q_m8b, q_m16b, q_m374b, q_m160b, q_m10a, q_div5, q_rem5, nI_add, q_moe, q_moe2, q_mol, q_mol2, q_mor, q_bd2, q_bd1, q_stI, q_oI0, if_true, if_false, ite_true, ite_false, ↓reduceIte, Nat.lt_irrefl, Nat.not_lt_zero, Nat.add_zero, Nat.zero_add, Nat.reduceEqDiff, Nat.reduceLeDiff, Nat.reduceLT, Nat.reduceAdd, Bool.false_eq_true, and_self, and_false, false_and, true_and, and_true, not_true_eq_false, not_false_eq_true, hT, y2, e1, e2, g4]) (fun j y y1 y2 y3 => by
    have e2 := r_differsBy (by' := y) hT hs hn (by omega)
    have g4 : dfN n s y = dfN n s 1 := Classical.byContradiction y3
    rw [g4] at e2
    simp (maxSteps := 500000) (disch := first | assumption | omega) only [f_X11_isAlike_L2, q_l0, q_l1, q_l2, q_l3, q_l4, q_l5, q_l6, q_l7, q_l8, q_l9, q_l10, q_l11, q_l12, q_l13, q_l14, q_l15, q_l16, q_l20, q_l21, q_l22, q_l24, q_l25, q_l26, q_l27, q_l28, q_l29, q_l30, q_l31, q_l32, q_l40, q_l48, q_l57, q_l80, q_l97, q_l100, q_l120, q_l122, q_l126, q_l160, q_l200, q_l214, q_l255, q_l256, q_l374, q_l400, q_l999, q_l1000, q_l9999, q_l99, q_l99999, q_nm, q_gd, q_gd2, q_ix, q_lt, q_eq, q_m5a, q_m5b, q_m40b, q_m8a, q_m8b, q_m16b, q_m374b, q_m160b, q_m10a, q_div5, q_rem5, nI_add, q_moe, q_moe2, q_mol, q_mol2, q_mor, q_bd2, q_bd1, q_stI, q_oI0, if_true, if_false, ite_true, ite_false, ↓reduceIte, Nat.lt_irrefl, Nat.not_lt_zero, Nat.add_zero, Nat.zero_add, Nat.reduceEqDiff, Nat.reduceLeDiff, Nat.reduceLT, Nat.reduceAdd, Bool.false_eq_true, and_self, and_false, false_and, true_and, and_true, not_true_eq_false, not_false_eq_true, hT, y2, e1, e2])
  unfold f_X11_isAlike
  rw [q_l2]
  by_cases ha : allS n s
  · rw [if_pos ha]
    exact h.2 (fun y y1 y2 y3 => y3 (ha y y2 y1))
  · rw [if_neg ha]
    refine h.1 (Classical.byContradiction fun hne => ha (fun y y2 y1 => Classical.byContradiction fun y3 => hne ⟨y, y1, y2, y3⟩))
theorem sk_far : ∀ {q s f : Nat}, skN n (q + 1) s f ≠ 0 → f + q + 1 ≤ n
  | 0, s, f => fun h => by
    unfold skN at h
    split at h
    · rename_i h1
      have h2 : f ≤ fs (fun d => f ≤ d ∧ skN n 0 (s ||| 2 ^ d) (d + 1) ≠ 0) n := (fs_is (fun d => f ≤ d ∧ skN n 0 (s ||| 2 ^ d) (d + 1) ≠ 0) n h1).1
      have h3 : f < n := Nat.lt_of_le_of_lt h2 h1
      omega
    · exact absurd rfl h
  | q + 1, s, f => fun h => by
    unfold skN at h
    split at h
    · rename_i h1
      have h2 := fs_is (fun d => f ≤ d ∧ skN n (q + 1) (s ||| 2 ^ d) (d + 1) ≠ 0) n h1
      have h3 := sk_far h2.2
      have h4 := h2.1
      generalize fs (fun d => f ≤ d ∧ skN n (q + 1) (s ||| 2 ^ d) (d + 1) ≠ 0) n = z at h3 h4
      omega
    · exact absurd rfl h
theorem sk_lt (hn : n ≤ 13) : ∀ {q s f : Nat}, s < 2 ^ n → skN n q s f < 2 ^ n
  | 0, s, f, hs => by
    unfold skN
    split
    · exact hs
    · exact Nat.two_pow_pos _
  | q + 1, s, f, hs => by
    unfold skN
    split
    · rename_i h1
      exact sk_lt hn (Nat.or_lt_two_pow hs (Nat.pow_lt_pow_right (by decide) h1))
    · exact Nat.two_pow_pos _
/-- NONE for 0 -/
def zM' (x : Nat) : Int32 := if x = 0 then mo else nI x
theorem or_ne : s ≠ 0 → s ||| d ≠ 0 := fun h e => h (by
  have := Nat.left_le_or (n := s) (m := d)
  omega)
theorem sk_c (hn : n ≤ 13) (h2 : 2 ≤ n) : ∀ (k q s f : Nat), q < k → q < 100 → s ≠ 0 → s < 2 ^ n → f ≤ n → fr_X1_firstAlikeFrom k (nI s) (nI f) (nI q) (nI n) m = some (zM' (skN n q s f), m)
  | 0, q, s, f, h, _, _, _, _ => by omega
  | k + 1, 0, s, f, h, _, h0, hs, hf => by
    have hp : 2 ^ n ≤ 2 ^ 13 := Nat.pow_le_pow_right (by decide) hn
    show f_X1_firstAlikeFrom (fr_X1_firstAlikeFrom k) (nI s) (nI f) (nI 0) (nI n) m = _
    have e := al_c (m := m) hs hn h2
    have h0' : (s = 0) = False := eq_false h0
    unfold f_X1_firstAlikeFrom skN zM'
    by_cases ha : allS n s
    · rw [if_pos ha] at e ⊢
      simp (maxSteps := 500000) (disch := first | assumption | omega) only [q_l0, q_l1, q_l2, q_l3, q_l4, q_l5, q_l6, q_l7, q_l8, q_l9, q_l10, q_l11, q_l12, q_l13, q_l14, q_l15, q_l16, q_l20, q_l21, q_l22, q_l24, q_l25, q_l26, q_l27, q_l28, q_l29, q_l30, q_l31, q_l32, q_l40, q_l48, q_l57, q_l80, q_l97, q_l100, q_l120, q_l122, q_l126, q_l160, q_l200, q_l214, q_l255, q_l256, q_l374, q_l400, q_l999, q_l1000, q_l9999, q_l99, q_l99999, q_nm, q_gd, q_gd2, q_ix, q_lt, q_eq, q_m5a, q_m5b, q_m40b, q_m8a, q_m8b, q_m16b, q_m374b, q_m160b, q_m10a, q_div5, q_rem5, nI_add, q_moe, q_moe2, q_mol, q_mol2, q_mor, q_bd2, q_bd1, q_stI, q_oI0, if_true, if_false, ite_true, ite_false, ↓reduceIte, Nat.lt_irrefl, Nat.not_lt_zero, Nat.add_zero, Nat.zero_add, Nat.reduceEqDiff, Nat.reduceLeDiff, Nat.reduceLT, Nat.reduceAdd, Bool.false_eq_true, and_self, and_false, false_and, true_and, and_true, not_true_eq_false, not_false_eq_true, e, h0']
    · rw [if_neg ha] at e ⊢
      simp (maxSteps := 500000) (disch := first | assumption | omega) only [q_l0, q_l1, q_l2, q_l3, q_l4, q_l5, q_l6, q_l7, q_l8, q_l9, q_l10, q_l11, q_l12, q_l13, q_l14, q_l15, q_l16, q_l20, q_l21, q_l22, q_l24, q_l25, q_l26, q_l27, q_l28, q_l29, q_l30, q_l31, q_l32, q_l40, q_l48, q_l57, q_l80, q_l97, q_l100, q_l120, q_l122, q_l126, q_l160, q_l200, q_l214, q_l255, q_l256, q_l374, q_l400, q_l999, q_l1000, q_l9999, q_l99, q_l99999, q_nm, q_gd, q_gd2, q_ix, q_lt, q_eq, q_m5a, q_m5b, q_m40b, q_m8a, q_m8b, q_m16b, q_m374b, q_m160b, q_m10a, q_div5, q_rem5, nI_add, q_moe, q_moe2, q_mol, q_mol2, q_mor, q_bd2, q_bd1, q_stI, q_oI0, if_true, if_false, ite_true, ite_false, ↓reduceIte, Nat.lt_irrefl, Nat.not_lt_zero, Nat.add_zero, Nat.zero_add, Nat.reduceEqDiff, Nat.reduceLeDiff, Nat.reduceLT, Nat.reduceAdd, Bool.false_eq_true, and_self, and_false, false_and, true_and, and_true, not_true_eq_false, not_false_eq_true, e]
  | k + 1, q + 1, s, f, h, hq, h0, hs, hf => by
    have hp : 2 ^ n ≤ 2 ^ 13 := Nat.pow_le_pow_right (by decide) hn
    show f_X1_firstAlikeFrom (fr_X1_firstAlikeFrom k) (nI s) (nI f) (nI (q + 1)) (nI n) m = _
    have ih := fun d (hd : d < n) => sk_c hn h2 k q (s ||| 2 ^ d) (d + 1) (by omega) (by omega) (or_ne h0) (Nat.or_lt_two_pow hs (Nat.pow_lt_pow_right (by decide) hd)) (by omega)
    have hb := fun d (hd : d < n) => sk_lt (q := q) (f := d + 1) hn (Nat.or_lt_two_pow hs (Nat.pow_lt_pow_right (by decide) hd))
    have q1 : 0 < q + 1 := by omega
    have e0 : q + 1 - 1 = q := by omega
    unfold f_X1_firstAlikeFrom
    simp (maxSteps := 500000) (disch := first | assumption | omega) only [q_l0, q_l1, q_l2, q_l3, q_l4, q_l5, q_l6, q_l7, q_l8, q_l9, q_l10, q_l11, q_l12, q_l13, q_l14, q_l15, q_l16, q_l20, q_l21, q_l22, q_l24, q_l25, q_l26, q_l27, q_l28, q_l29, q_l30, q_l31, q_l32, q_l40, q_l48, q_l57, q_l80, q_l97, q_l100, q_l120, q_l122, q_l126, q_l160, q_l200, q_l214, q_l255, q_l256, q_l374, q_l400, q_l999, q_l1000, q_l9999, q_l99, q_l99999, q_nm, q_gd, q_gd2, q_ix, q_lt, q_eq, q_m5a, q_m5b, q_m40b, q_m8a, q_m8b, q_m16b, q_m374b, q_m160b, q_m10a, q_div5, q_rem5, nI_add, q_moe, q_moe2, q_mol, q_mol2, q_mor, q_bd2, q_bd1, q_stI, q_oI0, if_true, if_false, ite_true, ite_false, ↓reduceIte, Nat.lt_irrefl, Nat.not_lt_zero, Nat.add_zero, Nat.zero_add, Nat.reduceEqDiff, Nat.reduceLeDiff, Nat.reduceLT, Nat.reduceAdd, Bool.false_eq_true, and_self, and_false, false_and, true_and, and_true, not_true_eq_false, not_false_eq_true, q1]
    have hstep : ∀ j d, d < n → d + (q + 1) ≤ n → skN n q (s ||| 2 ^ d) (d + 1) = 0 → f_X1_firstAlikeFrom_L21 (fr_X1_firstAlikeFrom k) (j + 1) (nI s) (nI (q + 1)) (nI n) (nI d) m = f_X1_firstAlikeFrom_L21 (fr_X1_firstAlikeFrom k) j (nI s) (nI (q + 1)) (nI n) (nI (d + 1)) m := fun j d hd hd2 hz => by
      have e := ih d hd
      unfold zM' at e
      rw [if_pos hz] at e
      have hd3 : ¬ n < d + (q + 1) := by omega
      simp (maxSteps := 500000) (disch := first | assumption | omega) only [f_X1_firstAlikeFrom_L21, q_l0, q_l1, q_l2, q_l3, q_l4, q_l5, q_l6, q_l7, q_l8, q_l9, q_l10, q_l11, q_l12, q_l13, q_l14, q_l15, q_l16, q_l20, q_l21, q_l22, q_l24, q_l25, q_l26, q_l27, q_l28, q_l29, q_l30, q_l31, q_l32, q_l40, q_l48, q_l57, q_l80, q_l97, q_l100, q_l120, q_l122, q_l126, q_l160, q_l200, q_l214, q_l255, q_l256, q_l374, q_l400, q_l999, q_l1000, q_l9999, q_l99, q_l99999, q_nm, q_gd, q_gd2, q_ix, q_lt, q_eq, q_m5a, q_m5b, q_m40b, q_m8a, q_m8b, q_m16b, q_m374b, q_m160b, q_m10a, q_div5, q_rem5, nI_add, q_moe, q_moe2, q_mol, q_mol2, q_mor, q_bd2, q_bd1, q_stI, q_oI0, if_true, if_false, ite_true, ite_false, ↓reduceIte, Nat.lt_irrefl, Nat.not_lt_zero, Nat.add_zero, Nat.zero_add, Nat.reduceEqDiff, Nat.reduceLeDiff, Nat.reduceLT, Nat.reduceAdd, Bool.false_eq_true, and_self, and_false, false_and, true_and, and_true, not_true_eq_false, not_false_eq_true, hd3, q_shl, q_or, q_sub1, e0, e]
    have hend : ∀ j d, n < d + (q + 1) → d < 100 → f_X1_firstAlikeFrom_L21 (fr_X1_firstAlikeFrom k) (j + 1) (nI s) (nI (q + 1)) (nI n) (nI d) m = some (mo, m) := fun j d hd2 hd => by
      simp (maxSteps := 500000) (disch := first | assumption | omega) only [f_X1_firstAlikeFrom_L21, q_l0, q_l1, q_l2, q_l3, q_l4, q_l5, q_l6, q_l7, q_l8, q_l9, q_l10, q_l11, q_l12, q_l13, q_l14, q_l15, q_l16, q_l20, q_l21, q_l22, q_l24, q_l25, q_l26, q_l27, q_l28, q_l29, q_l30, q_l31, q_l32, q_l40, q_l48, q_l57, q_l80, q_l97, q_l100, q_l120, q_l122, q_l126, q_l160, q_l200, q_l214, q_l255, q_l256, q_l374, q_l400, q_l999, q_l1000, q_l9999, q_l99, q_l99999, q_nm, q_gd, q_gd2, q_ix, q_lt, q_eq, q_m5a, q_m5b, q_m40b, q_m8a, q_m8b, q_m16b, q_m374b, q_m160b, q_m10a, q_div5, q_rem5, nI_add, q_moe, q_moe2, q_mol, q_mol2, q_mor, q_bd2, q_bd1, q_stI, q_oI0, if_true, if_false, ite_true, ite_false, ↓reduceIte, Nat.lt_irrefl, Nat.not_lt_zero, Nat.add_zero, Nat.zero_add, Nat.reduceEqDiff, Nat.reduceLeDiff, Nat.reduceLT, Nat.reduceAdd, Bool.false_eq_true, and_self, and_false, false_and, true_and, and_true, not_true_eq_false, not_false_eq_true, hd2]
    have hfound : ∀ j d, d < n → d + (q + 1) ≤ n → skN n q (s ||| 2 ^ d) (d + 1) ≠ 0 → f_X1_firstAlikeFrom_L21 (fr_X1_firstAlikeFrom k) (j + 1) (nI s) (nI (q + 1)) (nI n) (nI d) m = some (nI (skN n q (s ||| 2 ^ d) (d + 1)), m) := fun j d hd hd2 hz => by
      have e := ih d hd
      have e2 := hb d hd
      unfold zM' at e
      rw [if_neg hz] at e
      have hd3 : ¬ n < d + (q + 1) := by omega
      simp (maxSteps := 500000) (disch := first | assumption | omega) only [f_X1_firstAlikeFrom_L21, q_l0, q_l1, q_l2, q_l3, q_l4, q_l5, q_l6, q_l7, q_l8, q_l9, q_l10, q_l11, q_l12, q_l13, q_l14, q_l15, q_l16, q_l20, q_l21, q_l22, q_l24, q_l25, q_l26, q_l27, q_l28, q_l29, q_l30, q_l31, q_l32, q_l40, q_l48, q_l57, q_l80, q_l97, q_l100, q_l120, q_l122, q_l126, q_l160, q_l200, q_l214, q_l255, q_l256, q_l374, q_l400, q_l999, q_l1000, q_l9999, q_l99, q_l99999, q_nm, q_gd, q_gd2, q_ix, q_lt, q_eq, q_m5a, q_m5b, q_m40b, q_m8a, q_m8b, q_m16b, q_m374b, q_m160b, q_m10a, q_div5, q_rem5, nI_add, q_moe, q_moe2, q_mol, q_mol2, q_mor, q_bd2, q_bd1, q_stI, q_oI0, if_true, if_false, ite_true, ite_false, ↓reduceIte, Nat.lt_irrefl, Nat.not_lt_zero, Nat.add_zero, Nat.zero_add, Nat.reduceEqDiff, Nat.reduceLeDiff, Nat.reduceLT, Nat.reduceAdd, Bool.false_eq_true, and_self, and_false, false_and, true_and, and_true, not_true_eq_false, not_false_eq_true, hd3, q_shl, q_or, q_sub1, e0, e]
    have hfar : ∀ d, d < n → skN n q (s ||| 2 ^ d) (d + 1) ≠ 0 → d + (q + 1) ≤ n := fun d hd hz => by
      cases q with
      | zero => omega
      | succ q => have := sk_far hz; omega
    unfold skN
    have hno := fs_not (fun d => f ≤ d ∧ skN n q (s ||| 2 ^ d) (d + 1) ≠ 0) n
    have his := fs_is (fun d => f ≤ d ∧ skN n q (s ||| 2 ^ d) (d + 1) ≠ 0) n
    have hle := fs_le (fun d => f ≤ d ∧ skN n q (s ||| 2 ^ d) (d + 1) ≠ 0) n
    generalize fs (fun d => f ≤ d ∧ skN n q (s ||| 2 ^ d) (d + 1) ≠ 0) n = z at hno his hle
    by_cases hz : z < n
    · have hz2 := his hz
      have hz3 := hfar z hz hz2.2
      rw [if_pos hz]
      unfold zM'
      rw [if_neg hz2.2]
      exact lps (fun j d => f_X1_firstAlikeFrom_L21 (fr_X1_firstAlikeFrom k) j (nI s) (nI (q + 1)) (nI n) (nI d) m) f z _ (fun j => hfound j z hz hz3 hz2.2) (fun j d d1 d2 => hstep j d (by omega) (by omega) (Classical.byContradiction fun h => hno d d2 ⟨d1, h⟩)) hz2.1 (by omega)
    · rw [if_neg hz]
      unfold zM'
      rw [if_pos rfl]
      by_cases hf2 : n < f + (q + 1)
      · exact lps (fun j d => f_X1_firstAlikeFrom_L21 (fr_X1_firstAlikeFrom k) j (nI s) (nI (q + 1)) (nI n) (nI d) m) f f _ (fun j => hend j f hf2 (by omega)) (fun j d d1 d2 => by omega) (Nat.le_refl _) (by omega)
      · exact lps (fun j d => f_X1_firstAlikeFrom_L21 (fr_X1_firstAlikeFrom k) j (nI s) (nI (q + 1)) (nI n) (nI d) m) f (n - q) _ (fun j => hend j (n - q) (by omega) (by omega)) (fun j d d1 d2 => hstep j d (by omega) (by omega) (Classical.byContradiction fun h => hno d (by omega) ⟨d1, h⟩)) (by omega) (by omega)
theorem sk_r (hT : gI m 80 0 = nI n) (hn : n ≤ 13) (h2 : 2 ≤ n) : ∀ (k q s f : Nat), q < k → q < 100 → s ≠ 0 → s < 2 ^ n → f ≤ n → fr_X11_seeks k (nI s) (nI f) (nI q) m = some (nI (skN n q s f), m)
  | 0, q, s, f, h, _, _, _, _ => by omega
  | k + 1, 0, s, f, h, _, h0, hs, hf => by
    have hp : 2 ^ n ≤ 2 ^ 13 := Nat.pow_le_pow_right (by decide) hn
    show f_X11_seeks (fr_X11_seeks k) (nI s) (nI f) (nI 0) m = _
    have e := al_r hT hs hn h2
    unfold f_X11_seeks skN
    by_cases ha : allS n s
    · rw [if_pos ha] at e ⊢
      simp (maxSteps := 500000) (disch := first | assumption | omega) only [q_l0, q_l1, q_l2, q_l3, q_l4, q_l5, q_l6, q_l7, q_l8, q_l9, q_l10, q_l11, q_l12, q_l13, q_l14, q_l15, q_l16, q_l20, q_l21, q_l22, q_l24, q_l25, q_l26, q_l27, q_l28, q_l29, q_l30, q_l31, q_l32, q_l40, q_l48, q_l57, q_l80, q_l97, q_l100, q_l120, q_l122, q_l126, q_l160, q_l200, q_l214, q_l255, q_l256, q_l374, q_l400, q_l999, q_l1000, q_l9999, q_l99, q_l99999, q_nm, q_gd, q_gd2, q_ix, q_lt, q_eq, q_m5a, q_m5b, q_m40b, q_m8a, q_m8b, q_m16b, q_m374b, q_m160b, q_m10a, q_div5, q_rem5, nI_add, q_moe, q_moe2, q_mol, q_mol2, q_mor, q_bd2, q_bd1, q_stI, q_oI0, if_true, if_false, ite_true, ite_false, ↓reduceIte, Nat.lt_irrefl, Nat.not_lt_zero, Nat.add_zero, Nat.zero_add, Nat.reduceEqDiff, Nat.reduceLeDiff, Nat.reduceLT, Nat.reduceAdd, Bool.false_eq_true, and_self, and_false, false_and, true_and, and_true, not_true_eq_false, not_false_eq_true, e]
    · rw [if_neg ha] at e ⊢
      simp (maxSteps := 500000) (disch := first | assumption | omega) only [q_l0, q_l1, q_l2, q_l3, q_l4, q_l5, q_l6, q_l7, q_l8, q_l9, q_l10, q_l11, q_l12, q_l13, q_l14, q_l15, q_l16, q_l20, q_l21, q_l22, q_l24, q_l25, q_l26, q_l27, q_l28, q_l29, q_l30, q_l31, q_l32, q_l40, q_l48, q_l57, q_l80, q_l97, q_l100, q_l120, q_l122, q_l126, q_l160, q_l200, q_l214, q_l255, q_l256, q_l374, q_l400, q_l999, q_l1000, q_l9999, q_l99, q_l99999, q_nm, q_gd, q_gd2, q_ix, q_lt, q_eq, q_m5a, q_m5b, q_m40b, q_m8a, q_m8b, q_m16b, q_m374b, q_m160b, q_m10a, q_div5, q_rem5, nI_add, q_moe, q_moe2, q_mol, q_mol2, q_mor, q_bd2, q_bd1, q_stI, q_oI0, if_true, if_false, ite_true, ite_false, ↓reduceIte, Nat.lt_irrefl, Nat.not_lt_zero, Nat.add_zero, Nat.zero_add, Nat.reduceEqDiff, Nat.reduceLeDiff, Nat.reduceLT, Nat.reduceAdd, Bool.false_eq_true, and_self, and_false, false_and, true_and, and_true, not_true_eq_false, not_false_eq_true, e]
  | k + 1, q + 1, s, f, h, hq, h0, hs, hf => by
    have hp : 2 ^ n ≤ 2 ^ 13 := Nat.pow_le_pow_right (by decide) hn
    show f_X11_seeks (fr_X11_seeks k) (nI s) (nI f) (nI (q + 1)) m = _
    have ih := fun d (hd : d < n) => sk_r hT hn h2 k q (s ||| 2 ^ d) (d + 1) (by omega) (by omega) (or_ne h0) (Nat.or_lt_two_pow hs (Nat.pow_lt_pow_right (by decide) hd)) (by omega)
    have hb := fun d (hd : d < n) => sk_lt (q := q) (f := d + 1) hn (Nat.or_lt_two_pow hs (Nat.pow_lt_pow_right (by decide) hd))
    have q1 : (q + 1 = 0) = False := eq_false (by omega)
    have e0 : q + 1 - 1 = q := by omega
    unfold f_X11_seeks
    simp (maxSteps := 500000) (disch := first | assumption | omega) only [q_l0, q_l1, q_l2, q_l3, q_l4, q_l5, q_l6, q_l7, q_l8, q_l9, q_l10, q_l11, q_l12, q_l13, q_l14, q_l15, q_l16, q_l20, q_l21, q_l22, q_l24, q_l25, q_l26, q_l27, q_l28, q_l29, q_l30, q_l31, q_l32, q_l40, q_l48, q_l57, q_l80, q_l97, q_l100, q_l120, q_l122, q_l126, q_l160, q_l200, q_l214, q_l255, q_l256, q_l374, q_l400, q_l999, q_l1000, q_l9999, q_l99, q_l99999, q_nm, q_gd, q_gd2, q_ix, q_lt, q_eq, q_m5a, q_m5b, q_m40b, q_m8a, q_m8b, q_m16b, q_m374b, q_m160b, q_m10a, q_div5, q_rem5, nI_add, q_moe, q_moe2, q_mol, q_mol2, q_mor, q_bd2, q_bd1, q_stI, q_oI0, if_true, if_false, ite_true, ite_false, ↓reduceIte, Nat.lt_irrefl, Nat.not_lt_zero, Nat.add_zero, Nat.zero_add, Nat.reduceEqDiff, Nat.reduceLeDiff, Nat.reduceLT, Nat.reduceAdd, Bool.false_eq_true, and_self, and_false, false_and, true_and, and_true, not_true_eq_false, not_false_eq_true, q1]
    have hstep : ∀ j d, d < n → skN n q (s ||| 2 ^ d) (d + 1) = 0 → f_X11_seeks_L21 (fr_X11_seeks k) (j + 1) (nI s) (nI (q + 1)) (nI d) m = f_X11_seeks_L21 (fr_X11_seeks k) j (nI s) (nI (q + 1)) (nI (d + 1)) m := fun j d hd hz => by
      have e := ih d hd
      rw [hz] at e
      simp (maxSteps := 500000) (disch := first | assumption | omega) only [f_X11_seeks_L21, q_l0, q_l1, q_l2, q_l3, q_l4, q_l5, q_l6, q_l7, q_l8, q_l9, q_l10, q_l11, q_l12, q_l13, q_l14, q_l15, q_l16, q_l20, q_l21, q_l22, q_l24, q_l25, q_l26, q_l27, q_l28, q_l29, q_l30, q_l31, q_l32, q_l40, q_l48, q_l57, q_l80, q_l97, q_l100, q_l120, q_l122, q_l126, q_l160, q_l200, q_l214, q_l255, q_l256, q_l374, q_l400, q_l999, q_l1000, q_l9999, q_l99, q_l99999, q_nm, q_gd, q_gd2, q_ix, q_lt, q_eq, q_m5a, q_m5b, q_m40b, q_m8a, q_m8b, q_m16b, q_m374b, q_m160b, q_m10a, q_div5, q_rem5, nI_add, q_moe, q_moe2, q_mol, q_mol2, q_mor, q_bd2, q_bd1, q_stI, q_oI0, if_true, if_false, ite_true, ite_false, ↓reduceIte, Nat.lt_irrefl, Nat.not_lt_zero, Nat.add_zero, Nat.zero_add, Nat.reduceEqDiff, Nat.reduceLeDiff, Nat.reduceLT, Nat.reduceAdd, Bool.false_eq_true, and_self, and_false, false_and, true_and, and_true, not_true_eq_false, not_false_eq_true, hT, hd, q_shl, q_or, q_sub1, e0, e]
    have hfound : ∀ j d, d < n → skN n q (s ||| 2 ^ d) (d + 1) ≠ 0 → f_X11_seeks_L21 (fr_X11_seeks k) (j + 1) (nI s) (nI (q + 1)) (nI d) m = some (nI (skN n q (s ||| 2 ^ d) (d + 1)), m) := fun j d hd hz => by
      have e := ih d hd
      have e2 := hb d hd
      have hz' : (skN n q (s ||| 2 ^ d) (d + 1) = 0) = False := eq_false hz
      simp (maxSteps := 500000) (disch := first | assumption | omega) only [f_X11_seeks_L21, q_l0, q_l1, q_l2, q_l3, q_l4, q_l5, q_l6, q_l7, q_l8, q_l9, q_l10, q_l11, q_l12, q_l13, q_l14, q_l15, q_l16, q_l20, q_l21, q_l22, q_l24, q_l25, q_l26, q_l27, q_l28, q_l29, q_l30, q_l31, q_l32, q_l40, q_l48, q_l57, q_l80, q_l97, q_l100, q_l120, q_l122, q_l126, q_l160, q_l200, q_l214, q_l255, q_l256, q_l374, q_l400, q_l999, q_l1000, q_l9999, q_l99, q_l99999, q_nm, q_gd, q_gd2, q_ix, q_lt, q_eq, q_m5a, q_m5b, q_m40b, q_m8a, q_m8b, q_m16b, q_m374b, q_m160b, q_m10a, q_div5, q_rem5, nI_add, q_moe, q_moe2, q_mol, q_mol2, q_mor, q_bd2, q_bd1, q_stI, q_oI0, if_true, if_false, ite_true, ite_false, ↓reduceIte, Nat.lt_irrefl, Nat.not_lt_zero, Nat.add_zero, Nat.zero_add, Nat.reduceEqDiff, Nat.reduceLeDiff, Nat.reduceLT, Nat.reduceAdd, Bool.false_eq_true, and_self, and_false, false_and, true_and, and_true, not_true_eq_false, not_false_eq_true, hT, hd, q_shl, q_or, q_sub1, e0, e, hz']
    unfold skN
    have hno := fs_not (fun d => f ≤ d ∧ skN n q (s ||| 2 ^ d) (d + 1) ≠ 0) n
    have his := fs_is (fun d => f ≤ d ∧ skN n q (s ||| 2 ^ d) (d + 1) ≠ 0) n
    have hle := fs_le (fun d => f ≤ d ∧ skN n q (s ||| 2 ^ d) (d + 1) ≠ 0) n
    generalize fs (fun d => f ≤ d ∧ skN n q (s ||| 2 ^ d) (d + 1) ≠ 0) n = z at hno his hle
    by_cases hz : z < n
    · have hz2 := his hz
      rw [if_pos hz]
      exact lps (fun j d => f_X11_seeks_L21 (fr_X11_seeks k) j (nI s) (nI (q + 1)) (nI d) m) f z _ (fun j => hfound j z hz hz2.2) (fun j d d1 d2 => hstep j d (by omega) (Classical.byContradiction fun h => hno d d2 ⟨d1, h⟩)) hz2.1 (by omega)
    · rw [if_neg hz]
      exact lps (fun j d => f_X11_seeks_L21 (fr_X11_seeks k) j (nI s) (nI (q + 1)) (nI d) m) f n _ (fun j => by
        simp (maxSteps := 500000) (disch := first | assumption | omega) only [f_X11_seeks_L21, q_l0, q_l1, q_l2, q_l3, q_l4, q_l5, q_l6, q_l7, q_l8, q_l9, q_l10, q_l11, q_l12, q_l13, q_l14, q_l15, q_l16, q_l20, q_l21, q_l22, q_l24, q_l25, q_l26, q_l27, q_l28, q_l29, q_l30, q_l31, q_l32, q_l40, q_l48, q_l57, q_l80, q_l97, q_l100, q_l120, q_l122, q_l126, q_l160, q_l200, q_l214, q_l255, q_l256, q_l374, q_l400, q_l999, q_l1000, q_l9999, q_l99, q_l99999, q_nm, q_gd, q_gd2, q_ix, q_lt, q_eq, q_m5a, q_m5b, q_m40b, q_m8a, q_m8b, q_m16b, q_m374b, q_m160b, q_m10a, q_div5, q_rem5, nI_add, q_moe, q_moe2, q_mol, q_mol2, q_mor, q_bd2, q_bd1, q_stI, q_oI0, if_true, if_false, ite_true, ite_false, ↓reduceIte, Nat.lt_irrefl, Nat.not_lt_zero, Nat.add_zero, Nat.zero_add, Nat.reduceEqDiff, Nat.reduceLeDiff, Nat.reduceLT, Nat.reduceAdd, Bool.false_eq_true, and_self, and_false, false_and, true_and, and_true, not_true_eq_false, not_false_eq_true, hT]) (fun j d d1 d2 => hstep j d d2 (Classical.byContradiction fun h => hno d (by omega) ⟨d1, h⟩)) hf (by omega)
theorem a_seek (hC : ToC t T m) (hR : ToR T m) (hT : WTo T) : ∃ r, f_X10_seek t u w v x1 m = some (r, m) ∧ f_X11_seek x1 m = some (r, th m) := by
  have hR2 := ToR_th hR
  have h13 := hT.2.1
  have c0 := hC.1
  have r0 := hR2.1
  rcases inN_or x1 6 with ⟨y, hy, hy2, rfl⟩ | ho
  · by_cases y2 : y < 2
    · refine ⟨mo, ?_, ?_⟩
      · unfold f_X10_seek
        simp (maxSteps := 500000) (disch := first | assumption | omega) only [q_l0, q_l1, q_l2, q_l3, q_l4, q_l5, q_l6, q_l7, q_l8, q_l9, q_l10, q_l11, q_l12, q_l13, q_l14, q_l15, q_l16, q_l20, q_l21, q_l22, q_l24, q_l25, q_l26, q_l27, q_l28, q_l29, q_l30, q_l31, q_l32, q_l40, q_l48, q_l57, q_l80, q_l97, q_l100, q_l120, q_l122, q_l126, q_l160, q_l200, q_l214, q_l255, q_l256, q_l374, q_l400, q_l999, q_l1000, q_l9999, q_l99, q_l99999, q_nm, q_gd, q_gd2, q_ix, q_lt, q_eq, q_m5a, q_m5b, q_m40b, q_m8a, q_m8b, q_m16b, q_m374b, q_m160b, q_m10a, q_div5, q_rem5, nI_add, q_moe, q_moe2, q_mol, q_mol2, q_mor, q_bd2, q_bd1, q_stI, q_oI0, if_true, if_false, ite_true, ite_false, ↓reduceIte, Nat.lt_irrefl, Nat.not_lt_zero, Nat.add_zero, Nat.zero_add, Nat.reduceEqDiff, Nat.reduceLeDiff, Nat.reduceLT, Nat.reduceAdd, Bool.false_eq_true, and_self, and_false, false_and, true_and, and_true, not_true_eq_false, not_false_eq_true, y2]
      · unfold f_X11_seek f_X11_within
        simp only [q_stI, q_th]
        simp (maxSteps := 500000) (disch := first | assumption | omega) only [q_l0, q_l1, q_l2, q_l3, q_l4, q_l5, q_l6, q_l7, q_l8, q_l9, q_l10, q_l11, q_l12, q_l13, q_l14, q_l15, q_l16, q_l20, q_l21, q_l22, q_l24, q_l25, q_l26, q_l27, q_l28, q_l29, q_l30, q_l31, q_l32, q_l40, q_l48, q_l57, q_l80, q_l97, q_l100, q_l120, q_l122, q_l126, q_l160, q_l200, q_l214, q_l255, q_l256, q_l374, q_l400, q_l999, q_l1000, q_l9999, q_l99, q_l99999, q_nm, q_gd, q_gd2, q_ix, q_lt, q_eq, q_m5a, q_m5b, q_m40b, q_m8a, q_m8b, q_m16b, q_m374b, q_m160b, q_m10a, q_div5, q_rem5, nI_add, q_moe, q_moe2, q_mol, q_mol2, q_mor, q_bd2, q_bd1, q_stI, q_oI0, if_true, if_false, ite_true, ite_false, ↓reduceIte, Nat.lt_irrefl, Nat.not_lt_zero, Nat.add_zero, Nat.zero_add, Nat.reduceEqDiff, Nat.reduceLeDiff, Nat.reduceLT, Nat.reduceAdd, Bool.false_eq_true, and_self, and_false, false_and, true_and, and_true, not_true_eq_false, not_false_eq_true, y2]
    · have y5 : ¬ 5 < y := by omega
      rcases hT.1 with hD | hD
      · refine ⟨mo, ?_, ?_⟩
        · unfold f_X10_seek f_X1_firstAlike
          simp (maxSteps := 500000) (disch := first | assumption | omega) only [q_l0, q_l1, q_l2, q_l3, q_l4, q_l5, q_l6, q_l7, q_l8, q_l9, q_l10, q_l11, q_l12, q_l13, q_l14, q_l15, q_l16, q_l20, q_l21, q_l22, q_l24, q_l25, q_l26, q_l27, q_l28, q_l29, q_l30, q_l31, q_l32, q_l40, q_l48, q_l57, q_l80, q_l97, q_l100, q_l120, q_l122, q_l126, q_l160, q_l200, q_l214, q_l255, q_l256, q_l374, q_l400, q_l999, q_l1000, q_l9999, q_l99, q_l99999, q_nm, q_gd, q_gd2, q_ix, q_lt, q_eq, q_m5a, q_m5b, q_m40b, q_m8a, q_m8b, q_m16b, q_m374b, q_m160b, q_m10a, q_div5, q_rem5, nI_add, q_moe, q_moe2, q_mol, q_mol2, q_mor, q_bd2, q_bd1, q_stI, q_oI0, if_true, if_false, ite_true, ite_false, ↓reduceIte, Nat.lt_irrefl, Nat.not_lt_zero, Nat.add_zero, Nat.zero_add, Nat.reduceEqDiff, Nat.reduceLeDiff, Nat.reduceLT, Nat.reduceAdd, Bool.false_eq_true, and_self, and_false, false_and, true_and, and_true, not_true_eq_false, not_false_eq_true, y2, y5, c0, hD]
        · unfold f_X11_seek f_X11_within
          simp only [q_stI, q_th]
          simp (maxSteps := 500000) (disch := first | assumption | omega) only [q_l0, q_l1, q_l2, q_l3, q_l4, q_l5, q_l6, q_l7, q_l8, q_l9, q_l10, q_l11, q_l12, q_l13, q_l14, q_l15, q_l16, q_l20, q_l21, q_l22, q_l24, q_l25, q_l26, q_l27, q_l28, q_l29, q_l30, q_l31, q_l32, q_l40, q_l48, q_l57, q_l80, q_l97, q_l100, q_l120, q_l122, q_l126, q_l160, q_l200, q_l214, q_l255, q_l256, q_l374, q_l400, q_l999, q_l1000, q_l9999, q_l99, q_l99999, q_nm, q_gd, q_gd2, q_ix, q_lt, q_eq, q_m5a, q_m5b, q_m40b, q_m8a, q_m8b, q_m16b, q_m374b, q_m160b, q_m10a, q_div5, q_rem5, nI_add, q_moe, q_moe2, q_mol, q_mol2, q_mor, q_bd2, q_bd1, q_stI, q_oI0, if_true, if_false, ite_true, ite_false, ↓reduceIte, Nat.lt_irrefl, Nat.not_lt_zero, Nat.add_zero, Nat.zero_add, Nat.reduceEqDiff, Nat.reduceLeDiff, Nat.reduceLT, Nat.reduceAdd, Bool.false_eq_true, and_self, and_false, false_and, true_and, and_true, not_true_eq_false, not_false_eq_true, y2, y5, r0, hD]
      · have hd0 : (tD T = 0) = False := eq_false (by omega)
        have hd2 : ¬ tD T < 2 := by omega
        have h12 : 1 < 2 ^ tD T := Nat.one_lt_two_pow (by omega)
        have hp : 2 ^ tD T ≤ 2 ^ 13 := Nat.pow_le_pow_right (by decide) h13
        have ec := sk_c (m := m) h13 hD 8 (y - 1) 1 1 (by omega) (by omega) (by omega) h12 (by omega)
        have er := sk_r r0 h13 hD 8 (y - 1) 1 1 (by omega) (by omega) (by omega) h12 (by omega)
        have hl := sk_lt (n := tD T) (q := y - 1) (s := 1) (f := 1) h13 h12
        have y1 : 1 ≤ y := by omega
        refine ⟨zM' (skN (tD T) (y - 1) 1 1), ?_, ?_⟩
        · by_cases hbig : tD T < y
          · have z : skN (tD T) (y - 1) 1 1 = 0 := Classical.byContradiction fun h => by
              have e : y - 1 = (y - 2) + 1 := by omega
              rw [e] at h
              have := sk_far h
              omega
            rw [z]
            unfold f_X10_seek f_X1_firstAlike zM'
            simp (maxSteps := 500000) (disch := first | assumption | omega) only [q_l0, q_l1, q_l2, q_l3, q_l4, q_l5, q_l6, q_l7, q_l8, q_l9, q_l10, q_l11, q_l12, q_l13, q_l14, q_l15, q_l16, q_l20, q_l21, q_l22, q_l24, q_l25, q_l26, q_l27, q_l28, q_l29, q_l30, q_l31, q_l32, q_l40, q_l48, q_l57, q_l80, q_l97, q_l100, q_l120, q_l122, q_l126, q_l160, q_l200, q_l214, q_l255, q_l256, q_l374, q_l400, q_l999, q_l1000, q_l9999, q_l99, q_l99999, q_nm, q_gd, q_gd2, q_ix, q_lt, q_eq, q_m5a, q_m5b, q_m40b, q_m8a, q_m8b, q_m16b, q_m374b, q_m160b, q_m10a, q_div5, q_rem5, nI_add, q_moe, q_moe2, q_mol, q_mol2, q_mor, q_bd2, q_bd1, q_stI, q_oI0, if_true, if_false, ite_true, ite_false, ↓reduceIte, Nat.lt_irrefl, Nat.not_lt_zero, Nat.add_zero, Nat.zero_add, Nat.reduceEqDiff, Nat.reduceLeDiff, Nat.reduceLT, Nat.reduceAdd, Bool.false_eq_true, and_self, and_false, false_and, true_and, and_true, not_true_eq_false, not_false_eq_true, y2, y5, c0, hd2, hbig]
          · unfold f_X10_seek f_X1_firstAlike f_X1_firstAlikeFrom_r
            simp (maxSteps := 500000) (disch := first | assumption | omega) only [q_l0, q_l1, q_l2, q_l3, q_l4, q_l5, q_l6, q_l7, q_l8, q_l9, q_l10, q_l11, q_l12, q_l13, q_l14, q_l15, q_l16, q_l20, q_l21, q_l22, q_l24, q_l25, q_l26, q_l27, q_l28, q_l29, q_l30, q_l31, q_l32, q_l40, q_l48, q_l57, q_l80, q_l97, q_l100, q_l120, q_l122, q_l126, q_l160, q_l200, q_l214, q_l255, q_l256, q_l374, q_l400, q_l999, q_l1000, q_l9999, q_l99, q_l99999, q_nm, q_gd, q_gd2, q_ix, q_lt, q_eq, q_m5a, q_m5b, q_m40b, q_m8a, q_m8b, q_m16b, q_m374b, q_m160b, q_m10a, q_div5, q_rem5, nI_add, q_moe, q_moe2, q_mol, q_mol2, q_mor, q_bd2, q_bd1, q_stI, q_oI0, if_true, if_false, ite_true, ite_false, ↓reduceIte, Nat.lt_irrefl, Nat.not_lt_zero, Nat.add_zero, Nat.zero_add, Nat.reduceEqDiff, Nat.reduceLeDiff, Nat.reduceLT, Nat.reduceAdd, Bool.false_eq_true, and_self, and_false, false_and, true_and, and_true, not_true_eq_false, not_false_eq_true, y2, y5, c0, hd2, hbig, q_sub1, ec]
        · unfold f_X11_seek f_X11_within f_X11_seeks_r
          rw [q_stI, q_th]
          simp (maxSteps := 500000) (disch := first | assumption | omega) only [q_l0, q_l1, q_l2, q_l3, q_l4, q_l5, q_l6, q_l7, q_l8, q_l9, q_l10, q_l11, q_l12, q_l13, q_l14, q_l15, q_l16, q_l20, q_l21, q_l22, q_l24, q_l25, q_l26, q_l27, q_l28, q_l29, q_l30, q_l31, q_l32, q_l40, q_l48, q_l57, q_l80, q_l97, q_l100, q_l120, q_l122, q_l126, q_l160, q_l200, q_l214, q_l255, q_l256, q_l374, q_l400, q_l999, q_l1000, q_l9999, q_l99, q_l99999, q_nm, q_gd, q_gd2, q_ix, q_lt, q_eq, q_m5a, q_m5b, q_m40b, q_m8a, q_m8b, q_m16b, q_m374b, q_m160b, q_m10a, q_div5, q_rem5, nI_add, q_moe, q_moe2, q_mol, q_mol2, q_mor, q_bd2, q_bd1, q_stI, q_oI0, if_true, if_false, ite_true, ite_false, ↓reduceIte, Nat.lt_irrefl, Nat.not_lt_zero, Nat.add_zero, Nat.zero_add, Nat.reduceEqDiff, Nat.reduceLeDiff, Nat.reduceLT, Nat.reduceAdd, Bool.false_eq_true, and_self, and_false, false_and, true_and, and_true, not_true_eq_false, not_false_eq_true, y2, y5, r0, hd0, q_sub1, er]
          unfold zM'
          split
          · rfl
          · rfl
  · refine ⟨mo, ?_, ?_⟩
    · unfold f_X10_seek
      rcases ho with h1 | ⟨y, h1, h2, rfl⟩
      · have h3 : x1 < nI 2 := by
          rw [Int32.lt_iff_toInt_lt] at h1 ⊢
          have e1 : (nI 2).toInt = 2 := by decide
          have e0 : (0 : Int32).toInt = 0 := by decide
          omega
        simp (maxSteps := 500000) (disch := first | assumption | omega) only [q_l0, q_l1, q_l2, q_l3, q_l4, q_l5, q_l6, q_l7, q_l8, q_l9, q_l10, q_l11, q_l12, q_l13, q_l14, q_l15, q_l16, q_l20, q_l21, q_l22, q_l24, q_l25, q_l26, q_l27, q_l28, q_l29, q_l30, q_l31, q_l32, q_l40, q_l48, q_l57, q_l80, q_l97, q_l100, q_l120, q_l122, q_l126, q_l160, q_l200, q_l214, q_l255, q_l256, q_l374, q_l400, q_l999, q_l1000, q_l9999, q_l99, q_l99999, q_nm, q_gd, q_gd2, q_ix, q_lt, q_eq, q_m5a, q_m5b, q_m40b, q_m8a, q_m8b, q_m16b, q_m374b, q_m160b, q_m10a, q_div5, q_rem5, nI_add, q_moe, q_moe2, q_mol, q_mol2, q_mor, q_bd2, q_bd1, q_stI, q_oI0, if_true, if_false, ite_true, ite_false, ↓reduceIte, Nat.lt_irrefl, Nat.not_lt_zero, Nat.add_zero, Nat.zero_add, Nat.reduceEqDiff, Nat.reduceLeDiff, Nat.reduceLT, Nat.reduceAdd, Bool.false_eq_true, and_self, and_false, false_and, true_and, and_true, not_true_eq_false, not_false_eq_true, h3]
      · have y2 : ¬ y < 2 := by omega
        have y5 : 5 < y := by omega
        simp (maxSteps := 500000) (disch := first | assumption | omega) only [q_l0, q_l1, q_l2, q_l3, q_l4, q_l5, q_l6, q_l7, q_l8, q_l9, q_l10, q_l11, q_l12, q_l13, q_l14, q_l15, q_l16, q_l20, q_l21, q_l22, q_l24, q_l25, q_l26, q_l27, q_l28, q_l29, q_l30, q_l31, q_l32, q_l40, q_l48, q_l57, q_l80, q_l97, q_l100, q_l120, q_l122, q_l126, q_l160, q_l200, q_l214, q_l255, q_l256, q_l374, q_l400, q_l999, q_l1000, q_l9999, q_l99, q_l99999, q_nm, q_gd, q_gd2, q_ix, q_lt, q_eq, q_m5a, q_m5b, q_m40b, q_m8a, q_m8b, q_m16b, q_m374b, q_m160b, q_m10a, q_div5, q_rem5, nI_add, q_moe, q_moe2, q_mol, q_mol2, q_mor, q_bd2, q_bd1, q_stI, q_oI0, if_true, if_false, ite_true, ite_false, ↓reduceIte, Nat.lt_irrefl, Nat.not_lt_zero, Nat.add_zero, Nat.zero_add, Nat.reduceEqDiff, Nat.reduceLeDiff, Nat.reduceLT, Nat.reduceAdd, Bool.false_eq_true, and_self, and_false, false_and, true_and, and_true, not_true_eq_false, not_false_eq_true, y2, y5]
    · unfold f_X11_seek f_X11_within
      simp only [q_stI, q_th]
      rcases ho with h1 | ⟨y, h1, h2, rfl⟩
      · have h3 : x1 < nI 2 := by
          rw [Int32.lt_iff_toInt_lt] at h1 ⊢
          have e1 : (nI 2).toInt = 2 := by decide
          have e0 : (0 : Int32).toInt = 0 := by decide
          omega
        simp (maxSteps := 500000) (disch := first | assumption | omega) only [q_l0, q_l1, q_l2, q_l3, q_l4, q_l5, q_l6, q_l7, q_l8, q_l9, q_l10, q_l11, q_l12, q_l13, q_l14, q_l15, q_l16, q_l20, q_l21, q_l22, q_l24, q_l25, q_l26, q_l27, q_l28, q_l29, q_l30, q_l31, q_l32, q_l40, q_l48, q_l57, q_l80, q_l97, q_l100, q_l120, q_l122, q_l126, q_l160, q_l200, q_l214, q_l255, q_l256, q_l374, q_l400, q_l999, q_l1000, q_l9999, q_l99, q_l99999, q_nm, q_gd, q_gd2, q_ix, q_lt, q_eq, q_m5a, q_m5b, q_m40b, q_m8a, q_m8b, q_m16b, q_m374b, q_m160b, q_m10a, q_div5, q_rem5, nI_add, q_moe, q_moe2, q_mol, q_mol2, q_mor, q_bd2, q_bd1, q_stI, q_oI0, if_true, if_false, ite_true, ite_false, ↓reduceIte, Nat.lt_irrefl, Nat.not_lt_zero, Nat.add_zero, Nat.zero_add, Nat.reduceEqDiff, Nat.reduceLeDiff, Nat.reduceLT, Nat.reduceAdd, Bool.false_eq_true, and_self, and_false, false_and, true_and, and_true, not_true_eq_false, not_false_eq_true, h3]
      · have y2 : ¬ y < 2 := by omega
        have y5 : 5 < y := by omega
        simp (maxSteps := 500000) (disch := first | assumption | omega) only [q_l0, q_l1, q_l2, q_l3, q_l4, q_l5, q_l6, q_l7, q_l8, q_l9, q_l10, q_l11, q_l12, q_l13, q_l14, q_l15, q_l16, q_l20, q_l21, q_l22, q_l24, q_l25, q_l26, q_l27, q_l28, q_l29, q_l30, q_l31, q_l32, q_l40, q_l48, q_l57, q_l80, q_l97, q_l100, q_l120, q_l122, q_l126, q_l160, q_l200, q_l214, q_l255, q_l256, q_l374, q_l400, q_l999, q_l1000, q_l9999, q_l99, q_l99999, q_nm, q_gd, q_gd2, q_ix, q_lt, q_eq, q_m5a, q_m5b, q_m40b, q_m8a, q_m8b, q_m16b, q_m374b, q_m160b, q_m10a, q_div5, q_rem5, nI_add, q_moe, q_moe2, q_mol, q_mol2, q_mor, q_bd2, q_bd1, q_stI, q_oI0, if_true, if_false, ite_true, ite_false, ↓reduceIte, Nat.lt_irrefl, Nat.not_lt_zero, Nat.add_zero, Nat.zero_add, Nat.reduceEqDiff, Nat.reduceLeDiff, Nat.reduceLT, Nat.reduceAdd, Bool.false_eq_true, and_self, and_false, false_and, true_and, and_true, not_true_eq_false, not_false_eq_true, y2, y5]
end Fam
