/-! MATH HALF: would, see, who, ask -/
abbrev drP (Λ : Lv) (S : Sv) (d i : Nat) : Prop := ¬ canR Λ (lsS Λ S d) i ∨ costN Λ S i < costN Λ (lsS Λ S d) i
/-- what is seen, in a state of the class's at a, in the reference's row r -/
def SeenAt (Λ : Lv) (a r s : Nat) (D : Nat → Nat) (M : Nat) (m : Mm) : Prop := s ≤ 8 ∧ M < 2 ^ s ∧ gI m a 5 = nI s ∧ gI m a 7 = nI M ∧ gI m 114 r = nI s ∧ ∀ i, i < s → D i < yX Λ ∧ gI m (a + 4) i = nI (D i) ∧ gI m 115 (8 * r + i) = nI (D i) ∧ gI m 116 (8 * r + i) = nI (if M.testBit i = true then 1 else 0)
abbrev fitP (Λ : Lv) (S : Sv) (s : Nat) (D : Nat → Nat) (M d : Nat) : Prop := ∀ i, i < s → (drP Λ S d (D i) ↔ M.testBit i = true)
def whoB (Λ : Lv) (S : Sv) (s : Nat) (D : Nat → Nat) (M n : Nat) : Nat := lb (fun d => upP S d ∧ fitP Λ S s D M d) n
section Who
variable {Λ T : Lv} {a b x k d o n i N K z c B t u w v p s q M : Nat} {D : Nat → Nat} {S : Sv} {m m2 m3 : Mm} {x1 x2 x3 st : Int32} {g : Nat → Int32}
theorem dr_cases (hW : WL1 Λ) (hW2 : WL2 Λ) (h3 : WL3 Λ) (hS : WS Λ S) (hA : WA Λ S) (hd : d < yD Λ) (hi : i < yX Λ) : drP Λ S d i ↔ (if S.2.1 (yU Λ i) = nI 2 then 2 ≤ lostC Λ S (yU Λ i / 5) + (if (dnB Λ S (yU Λ i / 5) (yZ Λ (yU Λ i / 5))).testBit d = true then 1 else 0) else (dnow Λ S (yU Λ i) = nI d ∧ (2 ≤ lostC Λ S (yU Λ i / 5) + (if (dnB Λ S (yU Λ i / 5) (yZ Λ (yU Λ i / 5))).testBit d = true then 1 else 0) ∨ 1 < yZ Λ (yU Λ i / 5) - 1))) := by
  have h13 := hW.1
  have hx := (h3.1 i hi).1
  have hw := ls_wh (S := S) (d := d) hx
  have hl := ls_lost (d := d) hW hS hx.1 (by omega)
  rw [bit_ct hW hW2 hS hA hx.1 hd] at hl
  unfold drP canR costN
  rw [hl, hw]
  by_cases h : S.2.1 (yU Λ i) = nI 2
  · have hdn : ¬ dnow Λ S (yU Λ i) = nI d := fun e => by
      unfold dnow at e
      rw [if_pos h, q_moe2 (by omega)] at e
      exact e
    rw [if_neg hdn]
    simp only [h, if_true, ↓reduceIte, true_and, Nat.lt_irrefl, or_false, Classical.not_not]
    omega
  · by_cases hdn : dnow Λ S (yU Λ i) = nI d
    · simp only [h, hdn, if_true, if_false, ↓reduceIte, true_and, Classical.not_not]
      omega
    · simp only [h, hdn, if_false, ↓reduceIte, false_and, not_false_eq_true, not_true_eq_false, Nat.lt_irrefl, or_self]
theorem c_dearer (h : Hq Λ S m) (hW : WL1 Λ) (hW2 : WL2 Λ) (h3 : WL3 Λ) (hS : WS Λ S) (hA : WA Λ S) (hd : d < yD Λ) (hi : i < yX Λ) : f_X5_dearerWithout (nI d) (nI i) m = some (nI (if drP Λ S d i then 1 else 0), m) := by
  have hdr := dr_cases hW hW2 h3 hS hA hd hi
  have h13 := hW.1
  have h40 := hW.2.1
  have h160 := hW.2.2.1
  have hx := (h3.1 i hi).1
  have hx2 := vy_lt hW hx
  have hz := hW.2.2.2.1 _ hx.1
  have hx1 := hx.1
  have c36 := h.1.2.2.2.2.2.2.2.2.2.2.2.2.1
  have c27 := h.1.2.2.2.1
  have e1 := c_lostMany (S := S) (a := 54) (by omega) h.1 hW hx.1
  have e2 := c_disksNow (S := S) (a := 54) (by omega) h.1 hW hS hx.1
  have e3 := c_dnow (S := S) (a := 54) (by omega) h.1 hW hx
  rw [h.2.2.1] at e1 e2 e3
  have hb := dnB_lt hW hS hx.1 (Nat.le_refl _)
  have hl := lostC_le (S := S) hW hx.1
  have e4 := q_tb (s := dnB Λ S (yU Λ i / 5) (yZ Λ (yU Λ i / 5))) (d := d) (by omega) (by omega)
  generalize hB : (if (dnB Λ S (yU Λ i / 5) (yZ Λ (yU Λ i / 5))).testBit d = true then 1 else 0) = bb at hdr e4
  have hbb : bb ≤ 1 := by rw [← hB]; split <;> omega
  have j54 : ∀ y, y < 2 → f_X5_dearerWithout_J54 (nI d) (nI (yU Λ i / 5)) (nI y) m = some (nI (if 2 ≤ lostC Λ S (yU Λ i / 5) + bb ∨ (y = 0 ∧ 1 < yZ Λ (yU Λ i / 5) - 1) then 1 else 0), m) := fun y hy => by
    by_cases p1 : lostC Λ S (yU Λ i / 5) + bb < 2
    · have p1' : ¬ 2 ≤ lostC Λ S (yU Λ i / 5) + bb := by omega
      by_cases p2 : y = 0
      · subst p2
        by_cases p3 : 1 < yZ Λ (yU Λ i / 5) - 1
        · simp (maxSteps := 500000) (disch := first | assumption | omega) only [f_X5_dearerWithout_J54, q_l0, q_l1, q_l2, q_l3, q_l4, q_l5, q_l6, q_l7, q_l8, q_l9, q_l10, q_l11, q_l12, q_l13, q_l14, q_l15, q_l16, q_l20, q_l21, q_l22, q_l24, q_l25, q_l26, q_l27, q_l28, q_l29, q_l30, q_l31, q_l32, q_l40, q_l48, q_l57, q_l80, q_l97, q_l100, q_l120, q_l122, q_l126, q_l160, q_l200, q_l214, q_l255, q_l256, q_l374, q_l400, q_l999, q_l1000, q_l9999, q_l99, q_l99999, q_nm, q_gd, q_gd2, q_ix, q_lt, q_eq, q_m5a, q_m5b, q_m40b, q_m8a, q_m8b, q_m16b, q_m374b, q_m160b, q_m10a, q_div5, q_rem5, nI_add, q_moe, q_moe2, q_mol, q_mol2, q_mor, q_bd2, q_bd1, q_stI, q_oI0, if_true, if_false, ite_true, ite_false, ↓reduceIte, Nat.lt_irrefl, Nat.not_lt_zero, Nat.add_zero, Nat.zero_add, Nat.reduceEqDiff, Nat.reduceLeDiff, Nat.reduceLT, Nat.reduceAdd, Bool.false_eq_true, and_self, and_false, false_and, true_and, and_true, not_true_eq_false, not_false_eq_true, e1, e2, e4, p1, p1', p3, c27, q_sub1, or_true]
        · simp (maxSteps := 500000) (disch := first | assumption | omega) only [f_X5_dearerWithout_J54, q_l0, q_l1, q_l2, q_l3, q_l4, q_l5, q_l6, q_l7, q_l8, q_l9, q_l10, q_l11, q_l12, q_l13, q_l14, q_l15, q_l16, q_l20, q_l21, q_l22, q_l24, q_l25, q_l26, q_l27, q_l28, q_l29, q_l30, q_l31, q_l32, q_l40, q_l48, q_l57, q_l80, q_l97, q_l100, q_l120, q_l122, q_l126, q_l160, q_l200, q_l214, q_l255, q_l256, q_l374, q_l400, q_l999, q_l1000, q_l9999, q_l99, q_l99999, q_nm, q_gd, q_gd2, q_ix, q_lt, q_eq, q_m5a, q_m5b, q_m40b, q_m8a, q_m8b, q_m16b, q_m374b, q_m160b, q_m10a, q_div5, q_rem5, nI_add, q_moe, q_moe2, q_mol, q_mol2, q_mor, q_bd2, q_bd1, q_stI, q_oI0, if_true, if_false, ite_true, ite_false, ↓reduceIte, Nat.lt_irrefl, Nat.not_lt_zero, Nat.add_zero, Nat.zero_add, Nat.reduceEqDiff, Nat.reduceLeDiff, Nat.reduceLT, Nat.reduceAdd, Bool.false_eq_true, and_self, and_false, false_and, true_and, and_true, not_true_eq_false, not_false_eq_true, e1, e2, e4, p1, p1', p3, c27, q_sub1, or_false]
      · simp (maxSteps := 500000) (disch := first | assumption | omega) only [f_X5_dearerWithout_J54, q_l0, q_l1, q_l2, q_l3, q_l4, q_l5, q_l6, q_l7, q_l8, q_l9, q_l10, q_l11, q_l12, q_l13, q_l14, q_l15, q_l16, q_l20, q_l21, q_l22, q_l24, q_l25, q_l26, q_l27, q_l28, q_l29, q_l30, q_l31, q_l32, q_l40, q_l48, q_l57, q_l80, q_l97, q_l100, q_l120, q_l122, q_l126, q_l160, q_l200, q_l214, q_l255, q_l256, q_l374, q_l400, q_l999, q_l1000, q_l9999, q_l99, q_l99999, q_nm, q_gd, q_gd2, q_ix, q_lt, q_eq, q_m5a, q_m5b, q_m40b, q_m8a, q_m8b, q_m16b, q_m374b, q_m160b, q_m10a, q_div5, q_rem5, nI_add, q_moe, q_moe2, q_mol, q_mol2, q_mor, q_bd2, q_bd1, q_stI, q_oI0, if_true, if_false, ite_true, ite_false, ↓reduceIte, Nat.lt_irrefl, Nat.not_lt_zero, Nat.add_zero, Nat.zero_add, Nat.reduceEqDiff, Nat.reduceLeDiff, Nat.reduceLT, Nat.reduceAdd, Bool.false_eq_true, and_self, and_false, false_and, true_and, and_true, not_true_eq_false, not_false_eq_true, e1, e2, e4, p1, p1', p2, or_false]
    · have p1' : 2 ≤ lostC Λ S (yU Λ i / 5) + bb := by omega
      simp (maxSteps := 500000) (disch := first | assumption | omega) only [f_X5_dearerWithout_J54, q_l0, q_l1, q_l2, q_l3, q_l4, q_l5, q_l6, q_l7, q_l8, q_l9, q_l10, q_l11, q_l12, q_l13, q_l14, q_l15, q_l16, q_l20, q_l21, q_l22, q_l24, q_l25, q_l26, q_l27, q_l28, q_l29, q_l30, q_l31, q_l32, q_l40, q_l48, q_l57, q_l80, q_l97, q_l100, q_l120, q_l122, q_l126, q_l160, q_l200, q_l214, q_l255, q_l256, q_l374, q_l400, q_l999, q_l1000, q_l9999, q_l99, q_l99999, q_nm, q_gd, q_gd2, q_ix, q_lt, q_eq, q_m5a, q_m5b, q_m40b, q_m8a, q_m8b, q_m16b, q_m374b, q_m160b, q_m10a, q_div5, q_rem5, nI_add, q_moe, q_moe2, q_mol, q_mol2, q_mor, q_bd2, q_bd1, q_stI, q_oI0, if_true, if_false, ite_true, ite_false, ↓reduceIte, Nat.lt_irrefl, Nat.not_lt_zero, Nat.add_zero, Nat.zero_add, Nat.reduceEqDiff, Nat.reduceLeDiff, Nat.reduceLT, Nat.reduceAdd, Bool.false_eq_true, and_self, and_false, false_and, true_and, and_true, not_true_eq_false, not_false_eq_true, e1, e2, e4, p1, p1', true_or]
  have j0 := j54 0 (by omega)
  have j1 := j54 1 (by omega)
  by_cases p : S.2.1 (yU Λ i) = nI 2
  · simp only [p, if_true, ↓reduceIte] at hdr
    simp (maxSteps := 500000) (disch := first | assumption | omega) only [f_X5_dearerWithout, f_X5_dearerWithout_J33, q_l0, q_l1, q_l2, q_l3, q_l4, q_l5, q_l6, q_l7, q_l8, q_l9, q_l10, q_l11, q_l12, q_l13, q_l14, q_l15, q_l16, q_l20, q_l21, q_l22, q_l24, q_l25, q_l26, q_l27, q_l28, q_l29, q_l30, q_l31, q_l32, q_l40, q_l48, q_l57, q_l80, q_l97, q_l100, q_l120, q_l122, q_l126, q_l160, q_l200, q_l214, q_l255, q_l256, q_l374, q_l400, q_l999, q_l1000, q_l9999, q_l99, q_l99999, q_nm, q_gd, q_gd2, q_ix, q_lt, q_eq, q_m5a, q_m5b, q_m40b, q_m8a, q_m8b, q_m16b, q_m374b, q_m160b, q_m10a, q_div5, q_rem5, nI_add, q_moe, q_moe2, q_mol, q_mol2, q_mor, q_bd2, q_bd1, q_stI, q_oI0, if_true, if_false, ite_true, ite_false, ↓reduceIte, Nat.lt_irrefl, Nat.not_lt_zero, Nat.add_zero, Nat.zero_add, Nat.reduceEqDiff, Nat.reduceLeDiff, Nat.reduceLT, Nat.reduceAdd, Bool.false_eq_true, and_self, and_false, false_and, true_and, and_true, not_true_eq_false, not_false_eq_true, c36, hq_wh h, p, j1, or_false]
    by_cases p2 : drP Λ S d i
    · rw [if_pos p2, if_pos (hdr.mp p2)]
    · rw [if_neg p2, if_neg (fun h => p2 (hdr.mpr h))]
  · simp only [p, if_false, ↓reduceIte] at hdr
    by_cases p4 : dnow Λ S (yU Λ i) = nI d
    · simp (maxSteps := 500000) (disch := first | assumption | omega) only [f_X5_dearerWithout, f_X5_dearerWithout_J33, q_l0, q_l1, q_l2, q_l3, q_l4, q_l5, q_l6, q_l7, q_l8, q_l9, q_l10, q_l11, q_l12, q_l13, q_l14, q_l15, q_l16, q_l20, q_l21, q_l22, q_l24, q_l25, q_l26, q_l27, q_l28, q_l29, q_l30, q_l31, q_l32, q_l40, q_l48, q_l57, q_l80, q_l97, q_l100, q_l120, q_l122, q_l126, q_l160, q_l200, q_l214, q_l255, q_l256, q_l374, q_l400, q_l999, q_l1000, q_l9999, q_l99, q_l99999, q_nm, q_gd, q_gd2, q_ix, q_lt, q_eq, q_m5a, q_m5b, q_m40b, q_m8a, q_m8b, q_m16b, q_m374b, q_m160b, q_m10a, q_div5, q_rem5, nI_add, q_moe, q_moe2, q_mol, q_mol2, q_mor, q_bd2, q_bd1, q_stI, q_oI0, if_true, if_false, ite_true, ite_false, ↓reduceIte, Nat.lt_irrefl, Nat.not_lt_zero, Nat.add_zero, Nat.zero_add, Nat.reduceEqDiff, Nat.reduceLeDiff, Nat.reduceLT, Nat.reduceAdd, Bool.false_eq_true, and_self, and_false, false_and, true_and, and_true, not_true_eq_false, not_false_eq_true, c36, hq_wh h, p, e3, p4, j0]
      by_cases p2 : drP Λ S d i
      · rw [if_pos p2, if_pos (hdr.mp p2).2]
      · rw [if_neg p2, if_neg (fun h => p2 (hdr.mpr ⟨p4, h⟩))]
    · simp (maxSteps := 500000) (disch := first | assumption | omega) only [f_X5_dearerWithout, f_X5_dearerWithout_J33, q_l0, q_l1, q_l2, q_l3, q_l4, q_l5, q_l6, q_l7, q_l8, q_l9, q_l10, q_l11, q_l12, q_l13, q_l14, q_l15, q_l16, q_l20, q_l21, q_l22, q_l24, q_l25, q_l26, q_l27, q_l28, q_l29, q_l30, q_l31, q_l32, q_l40, q_l48, q_l57, q_l80, q_l97, q_l100, q_l120, q_l122, q_l126, q_l160, q_l200, q_l214, q_l255, q_l256, q_l374, q_l400, q_l999, q_l1000, q_l9999, q_l99, q_l99999, q_nm, q_gd, q_gd2, q_ix, q_lt, q_eq, q_m5a, q_m5b, q_m40b, q_m8a, q_m8b, q_m16b, q_m374b, q_m160b, q_m10a, q_div5, q_rem5, nI_add, q_moe, q_moe2, q_mol, q_mol2, q_mor, q_bd2, q_bd1, q_stI, q_oI0, if_true, if_false, ite_true, ite_false, ↓reduceIte, Nat.lt_irrefl, Nat.not_lt_zero, Nat.add_zero, Nat.zero_add, Nat.reduceEqDiff, Nat.reduceLeDiff, Nat.reduceLT, Nat.reduceAdd, Bool.false_eq_true, and_self, and_false, false_and, true_and, and_true, not_true_eq_false, not_false_eq_true, c36, hq_wh h, p, e3, p4]
      rw [if_neg (fun h => p4 (hdr.mp h).1)]
theorem c_fits (h : Hq Λ S m) (hW : WL1 Λ) (hW2 : WL2 Λ) (h3 : WL3 Λ) (hS : WS Λ S) (hA : WA Λ S) (hs : SeenAt Λ 54 0 s D M m) (hd : d < yD Λ) : f_X5_fitsSeen (nI d) m = some (nI (if fitP Λ S s D M d then 1 else 0), m) := by
  obtain ⟨s8, hM, e5, e7, _, hx⟩ := hs
  have hM2 : M < 256 := Nat.lt_of_lt_of_le hM (Nat.pow_le_pow_right (by decide) s8)
  have h160 := hW.2.2.1
  have hst : ∀ j i, i < s → f_X5_fitsSeen_L2 (j + 1) (nI d) (nI i) m = if (drP Λ S d (D i) ↔ M.testBit i = true) then f_X5_fitsSeen_L2 j (nI d) (nI (i + 1)) m else some (nI 0, m) := fun j i hi => by
    obtain ⟨d1, d2, _, _⟩ := hx i hi
    have e := c_dearer h hW hW2 h3 hS hA hd d1
    have d2' : gI m 58 i = nI (D i) := d2
    have t1 := q_tb (s := M) (d := i) (by omega) (by omega)
    by_cases p1 : M.testBit i = true
    · rw [if_pos p1] at t1
      by_cases p2 : drP Λ S d (D i)
      · rw [if_pos p2] at e
        rw [if_pos ⟨fun _ => p1, fun _ => p2⟩]
        simp (maxSteps := 500000) (disch := first | assumption | omega) only [f_X5_fitsSeen_L2, f_X5_fitsSeen_J32, q_l0, q_l1, q_l2, q_l3, q_l4, q_l5, q_l6, q_l7, q_l8, q_l9, q_l10, q_l11, q_l12, q_l13, q_l14, q_l15, q_l16, q_l20, q_l21, q_l22, q_l24, q_l25, q_l26, q_l27, q_l28, q_l29, q_l30, q_l31, q_l32, q_l40, q_l48, q_l57, q_l80, q_l97, q_l100, q_l120, q_l122, q_l126, q_l160, q_l200, q_l214, q_l255, q_l256, q_l374, q_l400, q_l999, q_l1000, q_l9999, q_l99, q_l99999, q_nm, q_gd, q_gd2, q_ix, q_lt, q_eq, q_m5a, q_m5b, q_m40b, q_m8a, q_m8b, q_m16b, q_m374b, q_m160b, q_m10a, q_div5, q_rem5, nI_add, q_moe, q_moe2, q_mol, q_mol2, q_mor, q_bd2, q_bd1, q_stI, q_oI0, if_true, if_false, ite_true, ite_false, ↓reduceIte, Nat.lt_irrefl, Nat.not_lt_zero, Nat.add_zero, Nat.zero_add, Nat.reduceEqDiff, Nat.reduceLeDiff, Nat.reduceLT, Nat.reduceAdd, Bool.false_eq_true, and_self, and_false, false_and, true_and, and_true, not_true_eq_false, not_false_eq_true, e5, hi, e7, t1, d2', e]
      · rw [if_neg p2] at e
        rw [if_neg (fun h => p2 (h.mpr p1))]
        simp (maxSteps := 500000) (disch := first | assumption | omega) only [f_X5_fitsSeen_L2, f_X5_fitsSeen_J32, q_l0, q_l1, q_l2, q_l3, q_l4, q_l5, q_l6, q_l7, q_l8, q_l9, q_l10, q_l11, q_l12, q_l13, q_l14, q_l15, q_l16, q_l20, q_l21, q_l22, q_l24, q_l25, q_l26, q_l27, q_l28, q_l29, q_l30, q_l31, q_l32, q_l40, q_l48, q_l57, q_l80, q_l97, q_l100, q_l120, q_l122, q_l126, q_l160, q_l200, q_l214, q_l255, q_l256, q_l374, q_l400, q_l999, q_l1000, q_l9999, q_l99, q_l99999, q_nm, q_gd, q_gd2, q_ix, q_lt, q_eq, q_m5a, q_m5b, q_m40b, q_m8a, q_m8b, q_m16b, q_m374b, q_m160b, q_m10a, q_div5, q_rem5, nI_add, q_moe, q_moe2, q_mol, q_mol2, q_mor, q_bd2, q_bd1, q_stI, q_oI0, if_true, if_false, ite_true, ite_false, ↓reduceIte, Nat.lt_irrefl, Nat.not_lt_zero, Nat.add_zero, Nat.zero_add, Nat.reduceEqDiff, Nat.reduceLeDiff, Nat.reduceLT, Nat.reduceAdd, Bool.false_eq_true, and_self, and_false, false_and, true_and, and_true, not_true_eq_false, not_false_eq_true, e5, hi, e7, t1, d2', e]
    · rw [if_neg p1] at t1
      by_cases p2 : drP Λ S d (D i)
      · rw [if_pos p2] at e
        rw [if_neg (fun h => p1 (h.mp p2))]
        simp (maxSteps := 500000) (disch := first | assumption | omega) only [f_X5_fitsSeen_L2, f_X5_fitsSeen_J32, q_l0, q_l1, q_l2, q_l3, q_l4, q_l5, q_l6, q_l7, q_l8, q_l9, q_l10, q_l11, q_l12, q_l13, q_l14, q_l15, q_l16, q_l20, q_l21, q_l22, q_l24, q_l25, q_l26, q_l27, q_l28, q_l29, q_l30, q_l31, q_l32, q_l40, q_l48, q_l57, q_l80, q_l97, q_l100, q_l120, q_l122, q_l126, q_l160, q_l200, q_l214, q_l255, q_l256, q_l374, q_l400, q_l999, q_l1000, q_l9999, q_l99, q_l99999, q_nm, q_gd, q_gd2, q_ix, q_lt, q_eq, q_m5a, q_m5b, q_m40b, q_m8a, q_m8b, q_m16b, q_m374b, q_m160b, q_m10a, q_div5, q_rem5, nI_add, q_moe, q_moe2, q_mol, q_mol2, q_mor, q_bd2, q_bd1, q_stI, q_oI0, if_true, if_false, ite_true, ite_false, ↓reduceIte, Nat.lt_irrefl, Nat.not_lt_zero, Nat.add_zero, Nat.zero_add, Nat.reduceEqDiff, Nat.reduceLeDiff, Nat.reduceLT, Nat.reduceAdd, Bool.false_eq_true, and_self, and_false, false_and, true_and, and_true, not_true_eq_false, not_false_eq_true, e5, hi, e7, t1, d2', e]
      · rw [if_neg p2] at e
        rw [if_pos ⟨fun h => absurd h p2, fun h => absurd h p1⟩]
        simp (maxSteps := 500000) (disch := first | assumption | omega) only [f_X5_fitsSeen_L2, f_X5_fitsSeen_J32, q_l0, q_l1, q_l2, q_l3, q_l4, q_l5, q_l6, q_l7, q_l8, q_l9, q_l10, q_l11, q_l12, q_l13, q_l14, q_l15, q_l16, q_l20, q_l21, q_l22, q_l24, q_l25, q_l26, q_l27, q_l28, q_l29, q_l30, q_l31, q_l32, q_l40, q_l48, q_l57, q_l80, q_l97, q_l100, q_l120, q_l122, q_l126, q_l160, q_l200, q_l214, q_l255, q_l256, q_l374, q_l400, q_l999, q_l1000, q_l9999, q_l99, q_l99999, q_nm, q_gd, q_gd2, q_ix, q_lt, q_eq, q_m5a, q_m5b, q_m40b, q_m8a, q_m8b, q_m16b, q_m374b, q_m160b, q_m10a, q_div5, q_rem5, nI_add, q_moe, q_moe2, q_mol, q_mol2, q_mor, q_bd2, q_bd1, q_stI, q_oI0, if_true, if_false, ite_true, ite_false, ↓reduceIte, Nat.lt_irrefl, Nat.not_lt_zero, Nat.add_zero, Nat.zero_add, Nat.reduceEqDiff, Nat.reduceLeDiff, Nat.reduceLT, Nat.reduceAdd, Bool.false_eq_true, and_self, and_false, false_and, true_and, and_true, not_true_eq_false, not_false_eq_true, e5, hi, e7, t1, d2', e]
  have hl := lpx (fun j i => f_X5_fitsSeen_L2 j (nI d) (nI i) m) (fun i => ¬ (drP Λ S d (D i) ↔ M.testBit i = true)) 0 s (some (nI 0, m)) (some (nI 1, m)) (by omega) (by omega) (fun j => by
    simp (maxSteps := 500000) (disch := first | assumption | omega) only [f_X5_fitsSeen_L2, q_l0, q_l1, q_l2, q_l3, q_l4, q_l5, q_l6, q_l7, q_l8, q_l9, q_l10, q_l11, q_l12, q_l13, q_l14, q_l15, q_l16, q_l20, q_l21, q_l22, q_l24, q_l25, q_l26, q_l27, q_l28, q_l29, q_l30, q_l31, q_l32, q_l40, q_l48, q_l57, q_l80, q_l97, q_l100, q_l120, q_l122, q_l126, q_l160, q_l200, q_l214, q_l255, q_l256, q_l374, q_l400, q_l999, q_l1000, q_l9999, q_l99, q_l99999, q_nm, q_gd, q_gd2, q_ix, q_lt, q_eq, q_m5a, q_m5b, q_m40b, q_m8a, q_m8b, q_m16b, q_m374b, q_m160b, q_m10a, q_div5, q_rem5, nI_add, q_moe, q_moe2, q_mol, q_mol2, q_mor, q_bd2, q_bd1, q_stI, q_oI0, if_true, if_false, ite_true, ite_false, ↓reduceIte, Nat.lt_irrefl, Nat.not_lt_zero, Nat.add_zero, Nat.zero_add, Nat.reduceEqDiff, Nat.reduceLeDiff, Nat.reduceLT, Nat.reduceAdd, Bool.false_eq_true, and_self, and_false, false_and, true_and, and_true, not_true_eq_false, not_false_eq_true, e5]) (fun j i _ hi hp => by
    rw [hst j i hi, if_neg hp]) (fun j i _ hi hp => by
    rw [hst j i hi, if_pos (Classical.byContradiction hp)])
  unfold f_X5_fitsSeen
  rw [q_l0]
  by_cases hf : fitP Λ S s D M d
  · rw [if_pos hf]
    exact hl.2 (fun i _ hi hp => hp (hf i hi))
  · rw [if_neg hf]
    refine hl.1 (Classical.byContradiction fun hn => hf (fun i hi => Classical.byContradiction fun hp => hn ⟨i, by omega, hi, hp⟩))
theorem c_suspects (h : Hq Λ S m) (hW : WL1 Λ) (hW2 : WL2 Λ) (h3 : WL3 Λ) (hS : WS Λ S) (hA : WA Λ S) (hs : SeenAt Λ 54 0 s D M m) : f_X5_suspects m = some (nI (whoB Λ S s D M (yD Λ)), m) := by
  have c0 := h.1.1
  have h13 := hW.1
  refine lp0 (fun j d => f_X5_suspects_L4 j (nI (whoB Λ S s D M d)) (nI d) m) (yD Λ) _ (fun j => ?_) (fun j d hd => ?_) (by omega)
  · simp (maxSteps := 500000) (disch := first | assumption | omega) only [f_X5_suspects_L4, q_l0, q_l1, q_l2, q_l3, q_l4, q_l5, q_l6, q_l7, q_l8, q_l9, q_l10, q_l11, q_l12, q_l13, q_l14, q_l15, q_l16, q_l20, q_l21, q_l22, q_l24, q_l25, q_l26, q_l27, q_l28, q_l29, q_l30, q_l31, q_l32, q_l40, q_l48, q_l57, q_l80, q_l97, q_l100, q_l120, q_l122, q_l126, q_l160, q_l200, q_l214, q_l255, q_l256, q_l374, q_l400, q_l999, q_l1000, q_l9999, q_l99, q_l99999, q_nm, q_gd, q_gd2, q_ix, q_lt, q_eq, q_m5a, q_m5b, q_m40b, q_m8a, q_m8b, q_m16b, q_m374b, q_m160b, q_m10a, q_div5, q_rem5, nI_add, q_moe, q_moe2, q_mol, q_mol2, q_mor, q_bd2, q_bd1, q_stI, q_oI0, if_true, if_false, ite_true, ite_false, ↓reduceIte, Nat.lt_irrefl, Nat.not_lt_zero, Nat.add_zero, Nat.zero_add, Nat.reduceEqDiff, Nat.reduceLeDiff, Nat.reduceLT, Nat.reduceAdd, Bool.false_eq_true, and_self, and_false, false_and, true_and, and_true, not_true_eq_false, not_false_eq_true, c0]
  · have e1 := c_isUp (S := S) (a := 54) (m := m) (d := d) (by omega)
    rw [h.2.2.1] at e1
    have e2 := c_fits h hW hW2 h3 hS hA hs hd
    by_cases p1 : upP S d
    · rw [if_pos p1] at e1
      by_cases p2 : fitP Λ S s D M d
      · rw [if_pos p2] at e2
        simp (maxSteps := 500000) (disch := first | assumption | omega) only [f_X5_suspects_L4, q_l0, q_l1, q_l2, q_l3, q_l4, q_l5, q_l6, q_l7, q_l8, q_l9, q_l10, q_l11, q_l12, q_l13, q_l14, q_l15, q_l16, q_l20, q_l21, q_l22, q_l24, q_l25, q_l26, q_l27, q_l28, q_l29, q_l30, q_l31, q_l32, q_l40, q_l48, q_l57, q_l80, q_l97, q_l100, q_l120, q_l122, q_l126, q_l160, q_l200, q_l214, q_l255, q_l256, q_l374, q_l400, q_l999, q_l1000, q_l9999, q_l99, q_l99999, q_nm, q_gd, q_gd2, q_ix, q_lt, q_eq, q_m5a, q_m5b, q_m40b, q_m8a, q_m8b, q_m16b, q_m374b, q_m160b, q_m10a, q_div5, q_rem5, nI_add, q_moe, q_moe2, q_mol, q_mol2, q_mor, q_bd2, q_bd1, q_stI, q_oI0, if_true, if_false, ite_true, ite_false, ↓reduceIte, Nat.lt_irrefl, Nat.not_lt_zero, Nat.add_zero, Nat.zero_add, Nat.reduceEqDiff, Nat.reduceLeDiff, Nat.reduceLT, Nat.reduceAdd, Bool.false_eq_true, and_self, and_false, false_and, true_and, and_true, not_true_eq_false, not_false_eq_true, c0, hd, e1, e2, q_shl, q_or, whoB, lb]
        rw [if_pos ⟨p1, p2⟩]
      · rw [if_neg p2] at e2
        simp (maxSteps := 500000) (disch := first | assumption | omega) only [f_X5_suspects_L4, q_l0, q_l1, q_l2, q_l3, q_l4, q_l5, q_l6, q_l7, q_l8, q_l9, q_l10, q_l11, q_l12, q_l13, q_l14, q_l15, q_l16, q_l20, q_l21, q_l22, q_l24, q_l25, q_l26, q_l27, q_l28, q_l29, q_l30, q_l31, q_l32, q_l40, q_l48, q_l57, q_l80, q_l97, q_l100, q_l120, q_l122, q_l126, q_l160, q_l200, q_l214, q_l255, q_l256, q_l374, q_l400, q_l999, q_l1000, q_l9999, q_l99, q_l99999, q_nm, q_gd, q_gd2, q_ix, q_lt, q_eq, q_m5a, q_m5b, q_m40b, q_m8a, q_m8b, q_m16b, q_m374b, q_m160b, q_m10a, q_div5, q_rem5, nI_add, q_moe, q_moe2, q_mol, q_mol2, q_mor, q_bd2, q_bd1, q_stI, q_oI0, if_true, if_false, ite_true, ite_false, ↓reduceIte, Nat.lt_irrefl, Nat.not_lt_zero, Nat.add_zero, Nat.zero_add, Nat.reduceEqDiff, Nat.reduceLeDiff, Nat.reduceLT, Nat.reduceAdd, Bool.false_eq_true, and_self, and_false, false_and, true_and, and_true, not_true_eq_false, not_false_eq_true, c0, hd, e1, e2, whoB, lb]
        rw [if_neg (fun h => p2 h.2)]
    · rw [if_neg p1] at e1
      simp (maxSteps := 500000) (disch := first | assumption | omega) only [f_X5_suspects_L4, q_l0, q_l1, q_l2, q_l3, q_l4, q_l5, q_l6, q_l7, q_l8, q_l9, q_l10, q_l11, q_l12, q_l13, q_l14, q_l15, q_l16, q_l20, q_l21, q_l22, q_l24, q_l25, q_l26, q_l27, q_l28, q_l29, q_l30, q_l31, q_l32, q_l40, q_l48, q_l57, q_l80, q_l97, q_l100, q_l120, q_l122, q_l126, q_l160, q_l200, q_l214, q_l255, q_l256, q_l374, q_l400, q_l999, q_l1000, q_l9999, q_l99, q_l99999, q_nm, q_gd, q_gd2, q_ix, q_lt, q_eq, q_m5a, q_m5b, q_m40b, q_m8a, q_m8b, q_m16b, q_m374b, q_m160b, q_m10a, q_div5, q_rem5, nI_add, q_moe, q_moe2, q_mol, q_mol2, q_mor, q_bd2, q_bd1, q_stI, q_oI0, if_true, if_false, ite_true, ite_false, ↓reduceIte, Nat.lt_irrefl, Nat.not_lt_zero, Nat.add_zero, Nat.zero_add, Nat.reduceEqDiff, Nat.reduceLeDiff, Nat.reduceLT, Nat.reduceAdd, Bool.false_eq_true, and_self, and_false, false_and, true_and, and_true, not_true_eq_false, not_false_eq_true, c0, hd, e1, whoB, lb]
      rw [if_neg (fun h => p1 h.1)]
theorem r_costOf (hR : RelR Λ m) (hW : WL1 Λ) (h3 : WL3 Λ) (hi : i < yX Λ) : f_X11_costOf (nI i) (pR Λ S m) = some (nI (costN Λ S i), pR Λ S m) := by
  obtain ⟨r80, r99, r108, r100, r102, r101, r103, r104, r105, r106, r109, r107⟩ := hR
  have hx := (h3.1 i hi).1
  have h1 := vy_lt hW hx
  have h4 := hW.2.2.1
  have h40 := hW.2.1
  have hx1 := hx.1
  have hz := hW.2.2.2.1 _ hx.1
  unfold costN
  by_cases h9 : S.2.1 (yU Λ i) = nI 2
  · simp (maxSteps := 500000) (disch := first | assumption | omega) only [f_X11_costOf, q_l0, q_l1, q_l2, q_l3, q_l4, q_l5, q_l6, q_l7, q_l8, q_l9, q_l10, q_l11, q_l12, q_l13, q_l14, q_l15, q_l16, q_l20, q_l21, q_l22, q_l24, q_l25, q_l26, q_l27, q_l28, q_l29, q_l30, q_l31, q_l32, q_l40, q_l48, q_l57, q_l80, q_l97, q_l100, q_l120, q_l122, q_l126, q_l160, q_l200, q_l214, q_l255, q_l256, q_l374, q_l400, q_l999, q_l1000, q_l9999, q_l99, q_l99999, q_nm, q_gd, q_gd2, q_ix, q_lt, q_eq, q_m5a, q_m5b, q_m40b, q_m8a, q_m8b, q_m16b, q_m374b, q_m160b, q_m10a, q_div5, q_rem5, nI_add, q_moe, q_moe2, q_mol, q_mol2, q_mor, q_bd2, q_bd1, q_stI, q_oI0, if_true, if_false, ite_true, ite_false, ↓reduceIte, Nat.lt_irrefl, Nat.not_lt_zero, Nat.add_zero, Nat.zero_add, Nat.reduceEqDiff, Nat.reduceLeDiff, Nat.reduceLT, Nat.reduceAdd, Bool.false_eq_true, and_self, and_false, false_and, true_and, and_true, not_true_eq_false, not_false_eq_true, pR_oth, r107, pR_wh, h9, r100, q_sub1]
  · simp (maxSteps := 500000) (disch := first | assumption | omega) only [f_X11_costOf, q_l0, q_l1, q_l2, q_l3, q_l4, q_l5, q_l6, q_l7, q_l8, q_l9, q_l10, q_l11, q_l12, q_l13, q_l14, q_l15, q_l16, q_l20, q_l21, q_l22, q_l24, q_l25, q_l26, q_l27, q_l28, q_l29, q_l30, q_l31, q_l32, q_l40, q_l48, q_l57, q_l80, q_l97, q_l100, q_l120, q_l122, q_l126, q_l160, q_l200, q_l214, q_l255, q_l256, q_l374, q_l400, q_l999, q_l1000, q_l9999, q_l99, q_l99999, q_nm, q_gd, q_gd2, q_ix, q_lt, q_eq, q_m5a, q_m5b, q_m40b, q_m8a, q_m8b, q_m16b, q_m374b, q_m160b, q_m10a, q_div5, q_rem5, nI_add, q_moe, q_moe2, q_mol, q_mol2, q_mor, q_bd2, q_bd1, q_stI, q_oI0, if_true, if_false, ite_true, ite_false, ↓reduceIte, Nat.lt_irrefl, Nat.not_lt_zero, Nat.add_zero, Nat.zero_add, Nat.reduceEqDiff, Nat.reduceLeDiff, Nat.reduceLT, Nat.reduceAdd, Bool.false_eq_true, and_self, and_false, false_and, true_and, and_true, not_true_eq_false, not_false_eq_true, pR_oth, r107, pR_wh, h9]
theorem costN_le (hW : WL1 Λ) (h3 : WL3 Λ) (hi : i < yX Λ) : costN Λ S i ≤ 5 := by
  have hx := (h3.1 i hi).1
  have hz := hW.2.2.2.1 _ hx.1
  unfold costN
  split <;> omega
/-- what a row of the table is, when the first n of a disk's are laid -/
def drR (Λ : Lv) (S : Sv) (d n : Nat) (g : Nat → Int32) : Nat → Int32 := fun q => if 160 * d ≤ q ∧ q < 160 * d + n then nI (if drP Λ S d (q - 160 * d) then 1 else 0) else g q
theorem drR_s : upd (drR Λ S d n g) (160 * d + n) (nI (if drP Λ S d n then 1 else 0)) = drR Λ S d (n + 1) g := by
  funext q
  unfold upd drR
  by_cases h : q = 160 * d + n
  · subst h
    have e : 160 * d + n - 160 * d = n := by omega
    have hc : 160 * d ≤ 160 * d + n ∧ 160 * d + n < 160 * d + (n + 1) := by omega
    rw [if_pos rfl, if_pos hc, e]
  · rw [if_neg h]
    by_cases h2 : 160 * d ≤ q ∧ q < 160 * d + n
    · have hc : 160 * d ≤ q ∧ q < 160 * d + (n + 1) := by omega
      rw [if_pos h2, if_pos hc]
    · have hc : ¬ (160 * d ≤ q ∧ q < 160 * d + (n + 1)) := by omega
      rw [if_neg h2, if_neg hc]
theorem pR_sI (h : b ≠ 117) : sI (pR Λ S m) b i st = pR Λ S (sI m b i st) := by
  refine mm_ext (fun c j => ?_) rfl
  simp only [sI, pR]
  by_cases h1 : c = 117
  · subst h1
    have : ¬ (117 = b ∧ j = i) := fun h2 => h h2.1.symm
    simp [this]
  · simp [h1]
theorem r_dearer44 (h : Hq Λ S m) (hW : WL1 Λ) (hW2 : WL2 Λ) (h3 : WL3 Λ) (hS : WS Λ S) (hd : d < yD Λ) (g : Nat → Int32) (K' : Mm → Option Mm) : f_X11_laysDearer_L44 (nI d) K' FU (nI 0) (pR Λ (lsS Λ S d) (wr 124 g (wr 119 (asd m) m))) = K' (pR Λ (lsS Λ S d) (wr 124 (drR Λ S d (yX Λ) g) (wr 119 (asd m) m))) := by
  have h13 := hW.1
  have h160 := hW.2.2.1
  have hRm := h.2.1
  have hR : ∀ g, RelR Λ (wr 124 g (wr 119 (asd m) m)) := fun g => RelR_wr (by omega) (RelR_wr (by omega) h.2.1)
  have z : g = drR Λ S d 0 g := by
    funext q
    unfold drR
    rw [if_neg (by omega)]
  have z2 : pR Λ (lsS Λ S d) (wr 124 g (wr 119 (asd m) m)) = pR Λ (lsS Λ S d) (wr 124 (drR Λ S d 0 g) (wr 119 (asd m) m)) := by rw [← z]
  rw [z2]
  refine lp0 (fun j i => f_X11_laysDearer_L44 (nI d) K' j (nI i) (pR Λ (lsS Λ S d) (wr 124 (drR Λ S d i g) (wr 119 (asd m) m)))) (yX Λ) _ (fun j => ?_) (fun j i hi => ?_) (by omega)
  · have r108 := (hR (drR Λ S d (yX Λ) g)).2.2.1
    simp (maxSteps := 500000) (disch := first | assumption | omega) only [f_X11_laysDearer_L44, q_l0, q_l1, q_l2, q_l3, q_l4, q_l5, q_l6, q_l7, q_l8, q_l9, q_l10, q_l11, q_l12, q_l13, q_l14, q_l15, q_l16, q_l20, q_l21, q_l22, q_l24, q_l25, q_l26, q_l27, q_l28, q_l29, q_l30, q_l31, q_l32, q_l40, q_l48, q_l57, q_l80, q_l97, q_l100, q_l120, q_l122, q_l126, q_l160, q_l200, q_l214, q_l255, q_l256, q_l374, q_l400, q_l999, q_l1000, q_l9999, q_l99, q_l99999, q_nm, q_gd, q_gd2, q_ix, q_lt, q_eq, q_m5a, q_m5b, q_m40b, q_m8a, q_m8b, q_m16b, q_m374b, q_m160b, q_m10a, q_div5, q_rem5, nI_add, q_moe, q_moe2, q_mol, q_mol2, q_mor, q_bd2, q_bd1, q_stI, q_oI0, if_true, if_false, ite_true, ite_false, ↓reduceIte, Nat.lt_irrefl, Nat.not_lt_zero, Nat.add_zero, Nat.zero_add, Nat.reduceEqDiff, Nat.reduceLeDiff, Nat.reduceLT, Nat.reduceAdd, Bool.false_eq_true, and_self, and_false, false_and, true_and, and_true, not_true_eq_false, not_false_eq_true, pR_oth, r108]
  · have hRi := hR (drR Λ S d i g)
    have r108 := hRi.2.2.1
    have r107 := hRi.2.2.2.2.2.2.2.2.2.2.2
    have r100 := hRi.2.2.2.1
    have hx := (h3.1 i hi).1
    have hx1 := hx.1
    have hx2 := vy_lt hW hx
    have h40 := hW.2.1
    have hz := hW.2.2.2.1 _ hx.1
    have e1 := r_canRead (S := lsS Λ S d) hRi hW h3 hi
    have e2 := r_costOf (S := lsS Λ S d) hRi hW h3 hi
    have l1 := costN_le (S := lsS Λ S d) hW h3 hi
    have l2 := costN_le (S := S) hW h3 hi
    have e119 : gI (pR Λ (lsS Λ S d) (wr 124 (drR Λ S d i g) (wr 119 (asd m) m))) 119 (14 + yU Λ i) = S.2.1 (yU Λ i) := by
      rw [pR_oth (by decide), wr_g (by decide), wr_s]
      unfold asd
      rw [if_pos (by omega)]
      exact hr_wh h hx2
    have e3 : f_X11_costBefore (nI i) (pR Λ (lsS Λ S d) (wr 124 (drR Λ S d i g) (wr 119 (asd m) m))) = some (nI (costN Λ S i), pR Λ (lsS Λ S d) (wr 124 (drR Λ S d i g) (wr 119 (asd m) m))) := by
      unfold costN
      by_cases h9 : S.2.1 (yU Λ i) = nI 2
      · simp (maxSteps := 500000) (disch := first | assumption | omega) only [f_X11_costBefore, q_l0, q_l1, q_l2, q_l3, q_l4, q_l5, q_l6, q_l7, q_l8, q_l9, q_l10, q_l11, q_l12, q_l13, q_l14, q_l15, q_l16, q_l20, q_l21, q_l22, q_l24, q_l25, q_l26, q_l27, q_l28, q_l29, q_l30, q_l31, q_l32, q_l40, q_l48, q_l57, q_l80, q_l97, q_l100, q_l120, q_l122, q_l126, q_l160, q_l200, q_l214, q_l255, q_l256, q_l374, q_l400, q_l999, q_l1000, q_l9999, q_l99, q_l99999, q_nm, q_gd, q_gd2, q_ix, q_lt, q_eq, q_m5a, q_m5b, q_m40b, q_m8a, q_m8b, q_m16b, q_m374b, q_m160b, q_m10a, q_div5, q_rem5, nI_add, q_moe, q_moe2, q_mol, q_mol2, q_mor, q_bd2, q_bd1, q_stI, q_oI0, if_true, if_false, ite_true, ite_false, ↓reduceIte, Nat.lt_irrefl, Nat.not_lt_zero, Nat.add_zero, Nat.zero_add, Nat.reduceEqDiff, Nat.reduceLeDiff, Nat.reduceLT, Nat.reduceAdd, Bool.false_eq_true, and_self, and_false, false_and, true_and, and_true, not_true_eq_false, not_false_eq_true, pR_oth (b := 107), pR_oth (b := 100), r107, e119, h9, r100, q_sub1]
      · simp (maxSteps := 500000) (disch := first | assumption | omega) only [f_X11_costBefore, q_l0, q_l1, q_l2, q_l3, q_l4, q_l5, q_l6, q_l7, q_l8, q_l9, q_l10, q_l11, q_l12, q_l13, q_l14, q_l15, q_l16, q_l20, q_l21, q_l22, q_l24, q_l25, q_l26, q_l27, q_l28, q_l29, q_l30, q_l31, q_l32, q_l40, q_l48, q_l57, q_l80, q_l97, q_l100, q_l120, q_l122, q_l126, q_l160, q_l200, q_l214, q_l255, q_l256, q_l374, q_l400, q_l999, q_l1000, q_l9999, q_l99, q_l99999, q_nm, q_gd, q_gd2, q_ix, q_lt, q_eq, q_m5a, q_m5b, q_m40b, q_m8a, q_m8b, q_m16b, q_m374b, q_m160b, q_m10a, q_div5, q_rem5, nI_add, q_moe, q_moe2, q_mol, q_mol2, q_mor, q_bd2, q_bd1, q_stI, q_oI0, if_true, if_false, ite_true, ite_false, ↓reduceIte, Nat.lt_irrefl, Nat.not_lt_zero, Nat.add_zero, Nat.zero_add, Nat.reduceEqDiff, Nat.reduceLeDiff, Nat.reduceLT, Nat.reduceAdd, Bool.false_eq_true, and_self, and_false, false_and, true_and, and_true, not_true_eq_false, not_false_eq_true, pR_oth (b := 107), r107, e119, h9]
    have hs := drR_s (Λ := Λ) (S := S) (d := d) (n := i) (g := g)
    have r108' : gI (pR Λ (lsS Λ S d) (wr 124 (drR Λ S d i g) (wr 119 (asd m) m))) 108 0 = nI (yX Λ) := by rw [pR_oth (by decide)]; exact r108
    by_cases p1 : canR Λ (lsS Λ S d) i
    · rw [if_pos p1] at e1
      by_cases p2 : costN Λ S i < costN Λ (lsS Λ S d) i
      · rw [if_pos (Or.inr p2)] at hs
        simp (maxSteps := 500000) (disch := first | assumption | omega) only [f_X11_laysDearer_L44, q_l0, q_l1, q_l2, q_l3, q_l4, q_l5, q_l6, q_l7, q_l8, q_l9, q_l10, q_l11, q_l12, q_l13, q_l14, q_l15, q_l16, q_l20, q_l21, q_l22, q_l24, q_l25, q_l26, q_l27, q_l28, q_l29, q_l30, q_l31, q_l32, q_l40, q_l48, q_l57, q_l80, q_l97, q_l100, q_l120, q_l122, q_l126, q_l160, q_l200, q_l214, q_l255, q_l256, q_l374, q_l400, q_l999, q_l1000, q_l9999, q_l99, q_l99999, q_nm, q_gd, q_gd2, q_ix, q_lt, q_eq, q_m5a, q_m5b, q_m40b, q_m8a, q_m8b, q_m16b, q_m374b, q_m160b, q_m10a, q_div5, q_rem5, nI_add, q_moe, q_moe2, q_mol, q_mol2, q_mor, q_bd2, q_bd1, q_stI, q_oI0, if_true, if_false, ite_true, ite_false, ↓reduceIte, Nat.lt_irrefl, Nat.not_lt_zero, Nat.add_zero, Nat.zero_add, Nat.reduceEqDiff, Nat.reduceLeDiff, Nat.reduceLT, Nat.reduceAdd, Bool.false_eq_true, and_self, and_false, false_and, true_and, and_true, not_true_eq_false, not_false_eq_true, r108', hi, e1, e2, e3, p2, pR_sI, wr_sI, hs]
      · rw [if_neg (fun h : drP Λ S d i => h.elim (fun h => h p1) p2)] at hs
        simp (maxSteps := 500000) (disch := first | assumption | omega) only [f_X11_laysDearer_L44, q_l0, q_l1, q_l2, q_l3, q_l4, q_l5, q_l6, q_l7, q_l8, q_l9, q_l10, q_l11, q_l12, q_l13, q_l14, q_l15, q_l16, q_l20, q_l21, q_l22, q_l24, q_l25, q_l26, q_l27, q_l28, q_l29, q_l30, q_l31, q_l32, q_l40, q_l48, q_l57, q_l80, q_l97, q_l100, q_l120, q_l122, q_l126, q_l160, q_l200, q_l214, q_l255, q_l256, q_l374, q_l400, q_l999, q_l1000, q_l9999, q_l99, q_l99999, q_nm, q_gd, q_gd2, q_ix, q_lt, q_eq, q_m5a, q_m5b, q_m40b, q_m8a, q_m8b, q_m16b, q_m374b, q_m160b, q_m10a, q_div5, q_rem5, nI_add, q_moe, q_moe2, q_mol, q_mol2, q_mor, q_bd2, q_bd1, q_stI, q_oI0, if_true, if_false, ite_true, ite_false, ↓reduceIte, Nat.lt_irrefl, Nat.not_lt_zero, Nat.add_zero, Nat.zero_add, Nat.reduceEqDiff, Nat.reduceLeDiff, Nat.reduceLT, Nat.reduceAdd, Bool.false_eq_true, and_self, and_false, false_and, true_and, and_true, not_true_eq_false, not_false_eq_true, r108', hi, e1, e2, e3, p2, pR_sI, wr_sI, hs]
    · rw [if_neg p1] at e1
      rw [if_pos (Or.inl p1)] at hs
      simp (maxSteps := 500000) (disch := first | assumption | omega) only [f_X11_laysDearer_L44, q_l0, q_l1, q_l2, q_l3, q_l4, q_l5, q_l6, q_l7, q_l8, q_l9, q_l10, q_l11, q_l12, q_l13, q_l14, q_l15, q_l16, q_l20, q_l21, q_l22, q_l24, q_l25, q_l26, q_l27, q_l28, q_l29, q_l30, q_l31, q_l32, q_l40, q_l48, q_l57, q_l80, q_l97, q_l100, q_l120, q_l122, q_l126, q_l160, q_l200, q_l214, q_l255, q_l256, q_l374, q_l400, q_l999, q_l1000, q_l9999, q_l99, q_l99999, q_nm, q_gd, q_gd2, q_ix, q_lt, q_eq, q_m5a, q_m5b, q_m40b, q_m8a, q_m8b, q_m16b, q_m374b, q_m160b, q_m10a, q_div5, q_rem5, nI_add, q_moe, q_moe2, q_mol, q_mol2, q_mor, q_bd2, q_bd1, q_stI, q_oI0, if_true, if_false, ite_true, ite_false, ↓reduceIte, Nat.lt_irrefl, Nat.not_lt_zero, Nat.add_zero, Nat.zero_add, Nat.reduceEqDiff, Nat.reduceLeDiff, Nat.reduceLT, Nat.reduceAdd, Bool.false_eq_true, and_self, and_false, false_and, true_and, and_true, not_true_eq_false, not_false_eq_true, r108', hi, e1, pR_sI, wr_sI, hs]
theorem asd_wr124 : asd (wr 124 g m) = asd m := by
  funext i
  simp [asd, wr]
theorem wr_comm (h : b ≠ c) {g2 : Nat → Int32} : wr b g (wr c g2 m) = wr c g2 (wr b g m) := by
  refine mm_ext (fun e j => ?_) rfl
  simp only [wr]
  by_cases h1 : e = b
  · subst h1; simp [h]
  · simp [h1]
theorem r_laysDearer (h : Hq Λ S m) (hW : WL1 Λ) (hW2 : WL2 Λ) (h3 : WL3 Λ) (hS : WS Λ S) : ∃ g1 g2, f_X11_laysDearer m = some (wr 124 g2 (wr 119 g1 m)) ∧ ∀ d, d < yD Λ → upP S d → ∀ i, i < yX Λ → g2 (160 * d + i) = nI (if drP Λ S d i then 1 else 0) := by
  have h13 := hW.1
  have h160 := hW.2.2.1
  have key : ∀ n d j g1 g2, n + d = yD Λ → n < j → (∀ e, e < d → upP S e → ∀ i, i < yX Λ → g2 (160 * e + i) = nI (if drP Λ S e i then 1 else 0)) → ∃ g1' g2', f_X11_laysDearer_L2 j (nI d) (wr 124 g2 (wr 119 g1 m)) = some (wr 124 g2' (wr 119 g1' m)) ∧ ∀ e, e < yD Λ → upP S e → ∀ i, i < yX Λ → g2' (160 * e + i) = nI (if drP Λ S e i then 1 else 0) := fun n => by
    induction n with
    | zero =>
      intro d j g1 g2 h1 h2 h4
      have : d = yD Λ := by omega
      subst this
      obtain ⟨j3, rfl⟩ : ∃ j3, j = j3 + 1 := ⟨j - 1, by omega⟩
      have r80 := (Hq_wr (b := 124) (g := g2) (by omega) (Hq_wr (b := 119) (g := g1) (by omega) h)).2.1.1
      exact ⟨g1, g2, by simp (maxSteps := 500000) (disch := first | assumption | omega) only [f_X11_laysDearer_L2, q_l0, q_l1, q_l2, q_l3, q_l4, q_l5, q_l6, q_l7, q_l8, q_l9, q_l10, q_l11, q_l12, q_l13, q_l14, q_l15, q_l16, q_l20, q_l21, q_l22, q_l24, q_l25, q_l26, q_l27, q_l28, q_l29, q_l30, q_l31, q_l32, q_l40, q_l48, q_l57, q_l80, q_l97, q_l100, q_l120, q_l122, q_l126, q_l160, q_l200, q_l214, q_l255, q_l256, q_l374, q_l400, q_l999, q_l1000, q_l9999, q_l99, q_l99999, q_nm, q_gd, q_gd2, q_ix, q_lt, q_eq, q_m5a, q_m5b, q_m40b, q_m8a, q_m8b, q_m16b, q_m374b, q_m160b, q_m10a, q_div5, q_rem5, nI_add, q_moe, q_moe2, q_mol, q_mol2, q_mor, q_bd2, q_bd1, q_stI, q_oI0, if_true, if_false, ite_true, ite_false, ↓reduceIte, Nat.lt_irrefl, Nat.not_lt_zero, Nat.add_zero, Nat.zero_add, Nat.reduceEqDiff, Nat.reduceLeDiff, Nat.reduceLT, Nat.reduceAdd, Bool.false_eq_true, and_self, and_false, false_and, true_and, and_true, not_true_eq_false, not_false_eq_true, r80], h4⟩
    | succ n ih =>
      intro d j g1 g2 h1 h2 h4
      obtain ⟨j3, rfl⟩ : ∃ j3, j = j3 + 1 := ⟨j - 1, by omega⟩
      have hd : d < yD Λ := by omega
      have hq := Hq_wr (b := 124) (g := g2) (by omega) (Hq_wr (b := 119) (g := g1) (by omega) h)
      have r80 := hq.2.1.1
      have e1 := rUp hq (d := d) (by omega)
      by_cases p1 : upP S d
      · rw [if_pos p1] at e1
        -- copies
        have c1 := r_copies (m := wr 124 g2 (wr 119 g1 m)) (p0 := 117) (p2 := 119) (a := 0) (b := 0) (by decide) (by decide) (by decide) (by decide) (by decide)
        rw [cp_asd] at c1
        have e119 : wr 119 (asd (wr 124 g2 (wr 119 g1 m))) (wr 124 g2 (wr 119 g1 m)) = wr 124 g2 (wr 119 (asd (wr 119 g1 m)) (wr 119 g1 m)) := by
          rw [asd_wr124, wr_comm (by decide)]
        rw [e119] at c1
        have hq1 := Hq_wr (b := 119) (g := g1) (by omega) h
        have hR1 : RelR Λ (wr 124 g2 (wr 119 (asd (wr 119 g1 m)) (wr 119 g1 m))) := RelR_wr (by omega) (RelR_wr (by omega) hq1.2.1)
        have hp1 : pR Λ S (wr 124 g2 (wr 119 (asd (wr 119 g1 m)) (wr 119 g1 m))) = wr 124 g2 (wr 119 (asd (wr 119 g1 m)) (wr 119 g1 m)) := by
          rw [pR_wr (by decide), pR_wr (by decide), hq1.2.2.2]
        have e2 := r_losesDisk (S := S) hR1 hW hS hd
        rw [hp1] at e2
        have e3 := r_dearer44 hq1 hW hW2 h3 hS hd g2 (fun m15 => bd1 (f_X11_copies 119 117 (nI 0) (nI 0) m15) (fun m16 => f_X11_laysDearer_L2 j3 (nI (d + 1)) m16))
        have c2 := r_copies (m := pR Λ (lsS Λ S d) (wr 124 (drR Λ S d (yX Λ) g2) (wr 119 (asd (wr 119 g1 m)) (wr 119 g1 m)))) (p0 := 119) (p2 := 117) (a := 0) (b := 0) (by decide) (by decide) (by decide) (by decide) (by decide)
        have hc2 : cpN 119 0 117 0 374 (pR Λ (lsS Λ S d) (wr 124 (drR Λ S d (yX Λ) g2) (wr 119 (asd (wr 119 g1 m)) (wr 119 g1 m)))) = wr 124 (drR Λ S d (yX Λ) g2) (wr 119 (asd (wr 119 g1 m)) (wr 119 g1 m)) := by
          have hb := cp_back (m := wr 124 (drR Λ S d (yX Λ) g2) (wr 119 g1 m)) (Λ := Λ) (S := S) (S2 := lsS Λ S d) (by rw [pR_wr (by decide), hq1.2.2.2]) hW.2.2.1
          rw [asd_wr124, wr_comm (by decide)] at hb
          exact hb
        rw [hc2, wr_wr] at c2
        rw [wr_wr] at e3 e2 c1
        obtain ⟨g1', g2', f1, f2⟩ := ih (d + 1) j3 (asd (wr 119 g1 m)) (drR Λ S d (yX Λ) g2) (by omega) (by omega) (fun e he hu i hi => by
          by_cases hed : e = d
          · subst hed
            unfold drR
            rw [if_pos (by omega), show 160 * e + i - 160 * e = i from by omega]
          · unfold drR
            rw [if_neg (by omega)]
            exact h4 e (by omega) hu i hi)
        refine ⟨g1', g2', ?_, f2⟩
        rw [← f1]
        simp (maxSteps := 500000) (disch := first | assumption | omega) only [f_X11_laysDearer_L2, q_l0, q_l1, q_l2, q_l3, q_l4, q_l5, q_l6, q_l7, q_l8, q_l9, q_l10, q_l11, q_l12, q_l13, q_l14, q_l15, q_l16, q_l20, q_l21, q_l22, q_l24, q_l25, q_l26, q_l27, q_l28, q_l29, q_l30, q_l31, q_l32, q_l40, q_l48, q_l57, q_l80, q_l97, q_l100, q_l120, q_l122, q_l126, q_l160, q_l200, q_l214, q_l255, q_l256, q_l374, q_l400, q_l999, q_l1000, q_l9999, q_l99, q_l99999, q_nm, q_gd, q_gd2, q_ix, q_lt, q_eq, q_m5a, q_m5b, q_m40b, q_m8a, q_m8b, q_m16b, q_m374b, q_m160b, q_m10a, q_div5, q_rem5, nI_add, q_moe, q_moe2, q_mol, q_mol2, q_mor, q_bd2, q_bd1, q_stI, q_oI0, if_true, if_false, ite_true, ite_false, ↓reduceIte, Nat.lt_irrefl, Nat.not_lt_zero, Nat.add_zero, Nat.zero_add, Nat.reduceEqDiff, Nat.reduceLeDiff, Nat.reduceLT, Nat.reduceAdd, Bool.false_eq_true, and_self, and_false, false_and, true_and, and_true, not_true_eq_false, not_false_eq_true, r80, hd, e1, c1, e2]
        rw [e3]
        simp only [c2, q_bd1]
      · rw [if_neg p1] at e1
        obtain ⟨g1', g2', f1, f2⟩ := ih (d + 1) j3 g1 g2 (by omega) (by omega) (fun e he hu i hi => by
          by_cases hed : e = d
          · subst hed; exact absurd hu p1
          · exact h4 e (by omega) hu i hi)
        refine ⟨g1', g2', ?_, f2⟩
        rw [← f1]
        simp (maxSteps := 500000) (disch := first | assumption | omega) only [f_X11_laysDearer_L2, q_l0, q_l1, q_l2, q_l3, q_l4, q_l5, q_l6, q_l7, q_l8, q_l9, q_l10, q_l11, q_l12, q_l13, q_l14, q_l15, q_l16, q_l20, q_l21, q_l22, q_l24, q_l25, q_l26, q_l27, q_l28, q_l29, q_l30, q_l31, q_l32, q_l40, q_l48, q_l57, q_l80, q_l97, q_l100, q_l120, q_l122, q_l126, q_l160, q_l200, q_l214, q_l255, q_l256, q_l374, q_l400, q_l999, q_l1000, q_l9999, q_l99, q_l99999, q_nm, q_gd, q_gd2, q_ix, q_lt, q_eq, q_m5a, q_m5b, q_m40b, q_m8a, q_m8b, q_m16b, q_m374b, q_m160b, q_m10a, q_div5, q_rem5, nI_add, q_moe, q_moe2, q_mol, q_mol2, q_mor, q_bd2, q_bd1, q_stI, q_oI0, if_true, if_false, ite_true, ite_false, ↓reduceIte, Nat.lt_irrefl, Nat.not_lt_zero, Nat.add_zero, Nat.zero_add, Nat.reduceEqDiff, Nat.reduceLeDiff, Nat.reduceLT, Nat.reduceAdd, Bool.false_eq_true, and_self, and_false, false_and, true_and, and_true, not_true_eq_false, not_false_eq_true, r80, hd, e1]
  obtain ⟨g1', g2', f1, f2⟩ := key (yD Λ) 0 FU (m.1 119) ((wr 119 (m.1 119) m).1 124) (by omega) (by show _ < 4096; omega) (fun e he => by omega)
  rw [wr_self, wr_self] at f1
  exact ⟨g1', g2', f1, f2⟩
end Who
