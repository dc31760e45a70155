/-! MATH HALF: judged -/
section Jd2
variable {Λ T : Lv} {a b x k d o n i N K z c B t u w v p s q M W : Nat} {D vb ob : Nat → Nat} {S F : Sv} {m m2 m3 : Mm} {x1 x2 x3 st : Int32} {g vl : Nat → Int32}
theorem pf_val (h : n ≠ 1) : pf Λ S n o x1 = pf Λ S n o x2 := by
  unfold pf
  rw [if_neg h, if_neg h]
theorem jd_le : (jdN Λ F vb ob vl k).1 ≤ k := by
  induction k with
  | zero => exact Nat.le_refl _
  | succ k ih =>
    unfold jdN
    dsimp only
    split <;> omega
theorem jd_WT (hW : WL1 Λ) (hW2 : WL2 Λ) (h3 : WL3 Λ) (hF : isF Λ F) (hok : ∀ i, i < n → okL Λ (vb i) (ob i)) : ∀ k, k ≤ n → WT Λ (80 * k) (jdN Λ F vb ob vl k).2
  | 0, _ => WT_F hW hF
  | k + 1, h => by
    have ih := jd_WT hW hW2 h3 hF hok k (by omega)
    exact WT_pf hW hW2 h3 ih (hok k (by omega))
theorem RelC_sI (hb : b < 26 ∨ 39 < b) (hC : RelC Λ m) : RelC Λ (sI m b i st) := by
  have hg : ∀ c j, c < 26 ∨ c ≠ b → gI (sI m b i st) c j = gI m c j ∨ c = b := fun c j _ => by
    by_cases h : c = b
    · exact Or.inr h
    · left; simp [gI, sI, h]
  have hg2 : ∀ c j, c ≠ b → gI (sI m b i st) c j = gI m c j := fun c j h => by simp [gI, sI, h]
  unfold RelC
  simp (disch := omega) only [hg2]
  exact hC
theorem sI_g (h : c ≠ b) : gI (sI m b i st) c n = gI m c n := by simp [gI, sI, h]
theorem c_judgedL (hC : RelC Λ m) (hW : WL1 Λ) (hW2 : WL2 Λ) (h3 : WL3 Λ) (hF : isF Λ F) (hw : w = 18 ∨ w = 22) (hL : LinesI Λ w n vb ob m) (hx : x ≤ 2) : f_X10_judged_L23 t u w v FU (nI x) mo (nI 0) (pS 59 F m) = some (if x = 0 then oI (jdN Λ F vb ob (gI m (w + 3)) n).1 else if x = 1 then smI (jdN Λ F vb ob (gI m (w + 3)) n).2.2.2.2 (yD Λ) else nI (deC Λ (jdN Λ F vb ob (gI m (w + 3)) n).2), pS 59 (jdN Λ F vb ob (gI m (w + 3)) n).2 m) := by
  obtain ⟨n40, e4, _, hx2⟩ := hL
  have hWT := jd_WT (n := n) (vl := gI m (w + 3)) hW hW2 h3 hF (fun i hi => (hx2 i hi).1)
  refine lp0 (fun j k => f_X10_judged_L23 t u w v j (nI x) (oI (jdN Λ F vb ob (gI m (w + 3)) k).1) (nI k) (pS 59 (jdN Λ F vb ob (gI m (w + 3)) k).2 m)) n _ (fun j => ?_) (fun j k hk => ?_) (by omega)
  · have e5 := c_allLoads (a := 59) (S := (jdN Λ F vb ob (gI m (w + 3)) n).2) (by omega) hC hW
    have e6 := c_deadStripes (a := 59) (S := (jdN Λ F vb ob (gI m (w + 3)) n).2) (by omega) hC hW
    have hx3 : x = 0 ∨ x = 1 ∨ x = 2 := by omega
    rcases hx3 with rfl | rfl | rfl
    · simp (maxSteps := 500000) (disch := first | assumption | omega) only [f_X10_judged_L23, q_l0, q_l1, q_l2, q_l3, q_l4, q_l5, q_l6, q_l7, q_l8, q_l9, q_l10, q_l11, q_l12, q_l13, q_l14, q_l15, q_l16, q_l20, q_l21, q_l22, q_l24, q_l25, q_l26, q_l27, q_l28, q_l29, q_l30, q_l31, q_l32, q_l40, q_l48, q_l57, q_l80, q_l97, q_l100, q_l120, q_l122, q_l126, q_l160, q_l200, q_l214, q_l255, q_l256, q_l374, q_l400, q_l999, q_l1000, q_l9999, q_l99, q_l99999, q_nm, q_gd, q_gd2, q_ix, q_lt, q_eq, q_m5a, q_m5b, q_m40b, q_m8a, q_m8b, q_m16b, q_m374b, q_m160b, q_m10a, q_div5, q_rem5, nI_add, q_moe, q_moe2, q_mol, q_mol2, q_mor, q_bd2, q_bd1, q_stI, q_oI0, if_true, if_false, ite_true, ite_false, ↓reduceIte, Nat.lt_irrefl, Nat.not_lt_zero, Nat.add_zero, Nat.zero_add, Nat.reduceEqDiff, Nat.reduceLeDiff, Nat.reduceLT, Nat.reduceAdd, Bool.false_eq_true, and_self, and_false, false_and, true_and, and_true, not_true_eq_false, not_false_eq_true, pS_low, e4]
    · simp (maxSteps := 500000) (disch := first | assumption | omega) only [f_X10_judged_L23, q_l0, q_l1, q_l2, q_l3, q_l4, q_l5, q_l6, q_l7, q_l8, q_l9, q_l10, q_l11, q_l12, q_l13, q_l14, q_l15, q_l16, q_l20, q_l21, q_l22, q_l24, q_l25, q_l26, q_l27, q_l28, q_l29, q_l30, q_l31, q_l32, q_l40, q_l48, q_l57, q_l80, q_l97, q_l100, q_l120, q_l122, q_l126, q_l160, q_l200, q_l214, q_l255, q_l256, q_l374, q_l400, q_l999, q_l1000, q_l9999, q_l99, q_l99999, q_nm, q_gd, q_gd2, q_ix, q_lt, q_eq, q_m5a, q_m5b, q_m40b, q_m8a, q_m8b, q_m16b, q_m374b, q_m160b, q_m10a, q_div5, q_rem5, nI_add, q_moe, q_moe2, q_mol, q_mol2, q_mor, q_bd2, q_bd1, q_stI, q_oI0, if_true, if_false, ite_true, ite_false, ↓reduceIte, Nat.lt_irrefl, Nat.not_lt_zero, Nat.add_zero, Nat.zero_add, Nat.reduceEqDiff, Nat.reduceLeDiff, Nat.reduceLT, Nat.reduceAdd, Bool.false_eq_true, and_self, and_false, false_and, true_and, and_true, not_true_eq_false, not_false_eq_true, pS_low, e4, e5]
    · simp (maxSteps := 500000) (disch := first | assumption | omega) only [f_X10_judged_L23, q_l0, q_l1, q_l2, q_l3, q_l4, q_l5, q_l6, q_l7, q_l8, q_l9, q_l10, q_l11, q_l12, q_l13, q_l14, q_l15, q_l16, q_l20, q_l21, q_l22, q_l24, q_l25, q_l26, q_l27, q_l28, q_l29, q_l30, q_l31, q_l32, q_l40, q_l48, q_l57, q_l80, q_l97, q_l100, q_l120, q_l122, q_l126, q_l160, q_l200, q_l214, q_l255, q_l256, q_l374, q_l400, q_l999, q_l1000, q_l9999, q_l99, q_l99999, q_nm, q_gd, q_gd2, q_ix, q_lt, q_eq, q_m5a, q_m5b, q_m40b, q_m8a, q_m8b, q_m16b, q_m374b, q_m160b, q_m10a, q_div5, q_rem5, nI_add, q_moe, q_moe2, q_mol, q_mol2, q_mor, q_bd2, q_bd1, q_stI, q_oI0, if_true, if_false, ite_true, ite_false, ↓reduceIte, Nat.lt_irrefl, Nat.not_lt_zero, Nat.add_zero, Nat.zero_add, Nat.reduceEqDiff, Nat.reduceLeDiff, Nat.reduceLT, Nat.reduceAdd, Bool.false_eq_true, and_self, and_false, false_and, true_and, and_true, not_true_eq_false, not_false_eq_true, pS_low, e4, e6]
  · obtain ⟨ok, g1, g2, g3, g4, g5⟩ := hx2 k hk
    have hT := hWT k (by omega)
    have e7 := c_perform (a := 59) (S := (jdN Λ F vb ob (gI m (w + 3)) k).2) (val := gI m (w + 3) k) (by omega) hC hW h3 hT.1 hT.2.1 ok
    have hpf := pf_le (Λ := Λ) (S := (jdN Λ F vb ob (gI m (w + 3)) k).2) (verb := vb k) (obj := ob k) (val := gI m (w + 3) k)
    have hjl := jd_le (Λ := Λ) (F := F) (vb := vb) (ob := ob) (vl := gI m (w + 3)) (k := k)
    by_cases p1 : (pf Λ (jdN Λ F vb ob (gI m (w + 3)) k).2 (vb k) (ob k) (gI m (w + 3) k)).1 = 0
    · rw [p1] at e7
      by_cases p2 : (jdN Λ F vb ob (gI m (w + 3)) k).1 = 0
      · simp (maxSteps := 500000) (disch := first | assumption | omega) only [f_X10_judged_L23, q_l0, q_l1, q_l2, q_l3, q_l4, q_l5, q_l6, q_l7, q_l8, q_l9, q_l10, q_l11, q_l12, q_l13, q_l14, q_l15, q_l16, q_l20, q_l21, q_l22, q_l24, q_l25, q_l26, q_l27, q_l28, q_l29, q_l30, q_l31, q_l32, q_l40, q_l48, q_l57, q_l80, q_l97, q_l100, q_l120, q_l122, q_l126, q_l160, q_l200, q_l214, q_l255, q_l256, q_l374, q_l400, q_l999, q_l1000, q_l9999, q_l99, q_l99999, q_nm, q_gd, q_gd2, q_ix, q_lt, q_eq, q_m5a, q_m5b, q_m40b, q_m8a, q_m8b, q_m16b, q_m374b, q_m160b, q_m10a, q_div5, q_rem5, nI_add, q_moe, q_moe2, q_mol, q_mol2, q_mor, q_bd2, q_bd1, q_stI, q_oI0, if_true, if_false, ite_true, ite_false, ↓reduceIte, Nat.lt_irrefl, Nat.not_lt_zero, Nat.add_zero, Nat.zero_add, Nat.reduceEqDiff, Nat.reduceLeDiff, Nat.reduceLT, Nat.reduceAdd, Bool.false_eq_true, and_self, and_false, false_and, true_and, and_true, not_true_eq_false, not_false_eq_true, pS_low, e4, hk, g1, g3, e7, p2, jdN, p1, q_oIs]
      · have p3 : (oI (jdN Λ F vb ob (gI m (w + 3)) k).1 = mo) = False := by
          rw [q_oIp (by omega), q_moe (by omega)]
        simp (maxSteps := 500000) (disch := first | assumption | omega) only [f_X10_judged_L23, q_l0, q_l1, q_l2, q_l3, q_l4, q_l5, q_l6, q_l7, q_l8, q_l9, q_l10, q_l11, q_l12, q_l13, q_l14, q_l15, q_l16, q_l20, q_l21, q_l22, q_l24, q_l25, q_l26, q_l27, q_l28, q_l29, q_l30, q_l31, q_l32, q_l40, q_l48, q_l57, q_l80, q_l97, q_l100, q_l120, q_l122, q_l126, q_l160, q_l200, q_l214, q_l255, q_l256, q_l374, q_l400, q_l999, q_l1000, q_l9999, q_l99, q_l99999, q_nm, q_gd, q_gd2, q_ix, q_lt, q_eq, q_m5a, q_m5b, q_m40b, q_m8a, q_m8b, q_m16b, q_m374b, q_m160b, q_m10a, q_div5, q_rem5, nI_add, q_moe, q_moe2, q_mol, q_mol2, q_mor, q_bd2, q_bd1, q_stI, q_oI0, if_true, if_false, ite_true, ite_false, ↓reduceIte, Nat.lt_irrefl, Nat.not_lt_zero, Nat.add_zero, Nat.zero_add, Nat.reduceEqDiff, Nat.reduceLeDiff, Nat.reduceLT, Nat.reduceAdd, Bool.false_eq_true, and_self, and_false, false_and, true_and, and_true, not_true_eq_false, not_false_eq_true, pS_low, e4, hk, g1, g3, e7, p2, p3, jdN, p1]
    · have p1' : ((pf Λ (jdN Λ F vb ob (gI m (w + 3)) k).2 (vb k) (ob k) (gI m (w + 3) k)).1 = 0) = False := eq_false p1
      simp (maxSteps := 500000) (disch := first | assumption | omega) only [f_X10_judged_L23, q_l0, q_l1, q_l2, q_l3, q_l4, q_l5, q_l6, q_l7, q_l8, q_l9, q_l10, q_l11, q_l12, q_l13, q_l14, q_l15, q_l16, q_l20, q_l21, q_l22, q_l24, q_l25, q_l26, q_l27, q_l28, q_l29, q_l30, q_l31, q_l32, q_l40, q_l48, q_l57, q_l80, q_l97, q_l100, q_l120, q_l122, q_l126, q_l160, q_l200, q_l214, q_l255, q_l256, q_l374, q_l400, q_l999, q_l1000, q_l9999, q_l99, q_l99999, q_nm, q_gd, q_gd2, q_ix, q_lt, q_eq, q_m5a, q_m5b, q_m40b, q_m8a, q_m8b, q_m16b, q_m374b, q_m160b, q_m10a, q_div5, q_rem5, nI_add, q_moe, q_moe2, q_mol, q_mol2, q_mor, q_bd2, q_bd1, q_stI, q_oI0, if_true, if_false, ite_true, ite_false, ↓reduceIte, Nat.lt_irrefl, Nat.not_lt_zero, Nat.add_zero, Nat.zero_add, Nat.reduceEqDiff, Nat.reduceLeDiff, Nat.reduceLT, Nat.reduceAdd, Bool.false_eq_true, and_self, and_false, false_and, true_and, and_true, not_true_eq_false, not_false_eq_true, pS_low, e4, hk, g1, g3, e7, p1', jdN]
/-- a row that is laid aside in another, and back -/
def asR (b : Nat) (m : Mm) : Nat → Int32 := fun i => if i < 374 then m.1 117 i else m.1 b i
theorem cp_as (hb : b ≠ 117) : cpN 117 0 b 0 374 m = wr b (asR b m) m := by
  refine mm_ext (fun c i => ?_) rfl
  simp only [cpN, wr, asR]
  by_cases h : c = b
  · subst h
    by_cases h2 : i < 374
    · simp [h2]
    · simp [h2]
  · simp [h]
theorem cp_asB (hb : b ≠ 117) (hX : yX Λ ≤ 160) {S2 : Sv} : cpN b 0 117 0 374 (pR Λ S2 (wr 117 (fl z (m.1 117)) (wr b (asR b m) m))) = wr b (asR b m) m ∨ 374 < z := by
  by_cases hz : 374 < z
  · exact Or.inr hz
  · left
    have hb2 : ¬ 117 = b := fun h => hb h.symm
    refine mm_ext (fun c i => ?_) rfl
    by_cases h1 : c = 117
    · subst h1
      by_cases h2 : i < 374
      · have h3 : (117 : Nat) = 117 ∧ 0 ≤ i ∧ i < 0 + 374 := ⟨rfl, by omega, by omega⟩
        simp only [cpN, h3, if_true, ↓reduceIte, and_self]
        simp [pR, wr, asR, h2, hb, hb2]
      · have a1 : ¬ i = 0 := by omega
        have a2 : ¬ i < 14 := by omega
        have a3 : ¬ i < 214 := by omega
        have a4 : ¬ i < 214 + yX Λ := by omega
        have a5 : ¬ i < z := by omega
        simp [cpN, pR, wr, fl, a1, a2, a3, a4, a5, h2, hb2]
    · simp [cpN, pR, wr, h1]
theorem LinesI_wr (hb : b = 77 ∨ 116 < b) (hw : w = 18 ∨ w = 22) (h : LinesI Λ w n vb ob m) : LinesI Λ w n vb ob (wr b g m) := by
  unfold LinesI
  simp (disch := omega) only [wr_g]
  exact h
theorem LinesI_th (hw : w = 18 ∨ w = 22) (h : LinesI Λ w n vb ob m) : LinesI Λ w n vb ob (th m) := by
  unfold LinesI
  simp (disch := omega) only [th_g]
  exact h
theorem jd_congr {vl2 : Nat → Int32} (h : ∀ i, i < n → vb i = 1 → vl i = vl2 i) : ∀ k, k ≤ n → jdN Λ F vb ob vl k = jdN Λ F vb ob vl2 k
  | 0, _ => rfl
  | k + 1, hk => by
    have ih := jd_congr h k (by omega)
    unfold jdN
    rw [ih]
    by_cases h1 : vb k = 1
    · rw [h k (by omega) h1]
    · rw [pf_val (x1 := vl k) (x2 := vl2 k) h1]
theorem r_judgedL (hR : RelR Λ m) (hW : WL1 Λ) (hW2 : WL2 Λ) (h3 : WL3 Λ) (hF : isF Λ F) (hL : LinesI Λ w n vb ob m) (hx : x ≤ 2) (hbk : ∀ S2, cpN 118 0 117 0 374 (pR Λ S2 m) = m2) : f_X11_judged_L38 FU (nI x) mo (nI 0) (pR Λ F m) = some (if x = 0 then oI (jdN Λ F vb ob (gI m 113) n).1 else if x = 1 then smI (jdN Λ F vb ob (gI m 113) n).2.2.2.2 (yD Λ) else nI (deC Λ (jdN Λ F vb ob (gI m 113) n).2), m2) := by
  obtain ⟨n40, _, e110, hx2⟩ := hL
  have hWT := jd_WT (n := n) (vl := gI m 113) hW hW2 h3 hF (fun i hi => (hx2 i hi).1)
  refine lp0 (fun j k => f_X11_judged_L38 j (nI x) (oI (jdN Λ F vb ob (gI m 113) k).1) (nI k) (pR Λ (jdN Λ F vb ob (gI m 113) k).2 m)) n _ (fun j => ?_) (fun j k hk => ?_) (by omega)
  · have e5 := r_allLoads (m := m) hW (hWT n (Nat.le_refl _)).2.2
    have e6 := r_deadOnes (S := (jdN Λ F vb ob (gI m 113) n).2) hR hW
    have e7 := r_copies (m := pR Λ (jdN Λ F vb ob (gI m 113) n).2 m) (p0 := 118) (p2 := 117) (a := 0) (b := 0) (by decide) (by decide) (by decide) (by decide) (by decide)
    rw [hbk] at e7
    have hx3 : x = 0 ∨ x = 1 ∨ x = 2 := by omega
    rcases hx3 with rfl | rfl | rfl
    · simp (maxSteps := 500000) (disch := first | assumption | omega) only [f_X11_judged_L38, q_l0, q_l1, q_l2, q_l3, q_l4, q_l5, q_l6, q_l7, q_l8, q_l9, q_l10, q_l11, q_l12, q_l13, q_l14, q_l15, q_l16, q_l20, q_l21, q_l22, q_l24, q_l25, q_l26, q_l27, q_l28, q_l29, q_l30, q_l31, q_l32, q_l40, q_l48, q_l57, q_l80, q_l97, q_l100, q_l120, q_l122, q_l126, q_l160, q_l200, q_l214, q_l255, q_l256, q_l374, q_l400, q_l999, q_l1000, q_l9999, q_l99, q_l99999, q_nm, q_gd, q_gd2, q_ix, q_lt, q_eq, q_m5a, q_m5b, q_m40b, q_m8a, q_m8b, q_m16b, q_m374b, q_m160b, q_m10a, q_div5, q_rem5, nI_add, q_moe, q_moe2, q_mol, q_mol2, q_mor, q_bd2, q_bd1, q_stI, q_oI0, if_true, if_false, ite_true, ite_false, ↓reduceIte, Nat.lt_irrefl, Nat.not_lt_zero, Nat.add_zero, Nat.zero_add, Nat.reduceEqDiff, Nat.reduceLeDiff, Nat.reduceLT, Nat.reduceAdd, Bool.false_eq_true, and_self, and_false, false_and, true_and, and_true, not_true_eq_false, not_false_eq_true, pR_oth, e110, e5, e6, e7]
    · simp (maxSteps := 500000) (disch := first | assumption | omega) only [f_X11_judged_L38, q_l0, q_l1, q_l2, q_l3, q_l4, q_l5, q_l6, q_l7, q_l8, q_l9, q_l10, q_l11, q_l12, q_l13, q_l14, q_l15, q_l16, q_l20, q_l21, q_l22, q_l24, q_l25, q_l26, q_l27, q_l28, q_l29, q_l30, q_l31, q_l32, q_l40, q_l48, q_l57, q_l80, q_l97, q_l100, q_l120, q_l122, q_l126, q_l160, q_l200, q_l214, q_l255, q_l256, q_l374, q_l400, q_l999, q_l1000, q_l9999, q_l99, q_l99999, q_nm, q_gd, q_gd2, q_ix, q_lt, q_eq, q_m5a, q_m5b, q_m40b, q_m8a, q_m8b, q_m16b, q_m374b, q_m160b, q_m10a, q_div5, q_rem5, nI_add, q_moe, q_moe2, q_mol, q_mol2, q_mor, q_bd2, q_bd1, q_stI, q_oI0, if_true, if_false, ite_true, ite_false, ↓reduceIte, Nat.lt_irrefl, Nat.not_lt_zero, Nat.add_zero, Nat.zero_add, Nat.reduceEqDiff, Nat.reduceLeDiff, Nat.reduceLT, Nat.reduceAdd, Bool.false_eq_true, and_self, and_false, false_and, true_and, and_true, not_true_eq_false, not_false_eq_true, pR_oth, e110, e5, e6, e7]
    · simp (maxSteps := 500000) (disch := first | assumption | omega) only [f_X11_judged_L38, q_l0, q_l1, q_l2, q_l3, q_l4, q_l5, q_l6, q_l7, q_l8, q_l9, q_l10, q_l11, q_l12, q_l13, q_l14, q_l15, q_l16, q_l20, q_l21, q_l22, q_l24, q_l25, q_l26, q_l27, q_l28, q_l29, q_l30, q_l31, q_l32, q_l40, q_l48, q_l57, q_l80, q_l97, q_l100, q_l120, q_l122, q_l126, q_l160, q_l200, q_l214, q_l255, q_l256, q_l374, q_l400, q_l999, q_l1000, q_l9999, q_l99, q_l99999, q_nm, q_gd, q_gd2, q_ix, q_lt, q_eq, q_m5a, q_m5b, q_m40b, q_m8a, q_m8b, q_m16b, q_m374b, q_m160b, q_m10a, q_div5, q_rem5, nI_add, q_moe, q_moe2, q_mol, q_mol2, q_mor, q_bd2, q_bd1, q_stI, q_oI0, if_true, if_false, ite_true, ite_false, ↓reduceIte, Nat.lt_irrefl, Nat.not_lt_zero, Nat.add_zero, Nat.zero_add, Nat.reduceEqDiff, Nat.reduceLeDiff, Nat.reduceLT, Nat.reduceAdd, Bool.false_eq_true, and_self, and_false, false_and, true_and, and_true, not_true_eq_false, not_false_eq_true, pR_oth, e110, e5, e6, e7]
  · obtain ⟨ok, g1, g2, g3, g4, g5⟩ := hx2 k hk
    have hT := hWT k (by omega)
    have e7 := r_isDone (S := (jdN Λ F vb ob (gI m 113) k).2) (val := gI m 113 k) hR hW h3 hT.1 hT.2.1 ok
    have hpf := pf_le (Λ := Λ) (S := (jdN Λ F vb ob (gI m 113) k).2) (verb := vb k) (obj := ob k) (val := gI m 113 k)
    have hjl := jd_le (Λ := Λ) (F := F) (vb := vb) (ob := ob) (vl := gI m 113) (k := k)
    by_cases p1 : (pf Λ (jdN Λ F vb ob (gI m 113) k).2 (vb k) (ob k) (gI m 113 k)).1 = 0
    · rw [p1] at e7
      by_cases p2 : (jdN Λ F vb ob (gI m 113) k).1 = 0
      · simp (maxSteps := 500000) (disch := first | assumption | omega) only [f_X11_judged_L38, q_l0, q_l1, q_l2, q_l3, q_l4, q_l5, q_l6, q_l7, q_l8, q_l9, q_l10, q_l11, q_l12, q_l13, q_l14, q_l15, q_l16, q_l20, q_l21, q_l22, q_l24, q_l25, q_l26, q_l27, q_l28, q_l29, q_l30, q_l31, q_l32, q_l40, q_l48, q_l57, q_l80, q_l97, q_l100, q_l120, q_l122, q_l126, q_l160, q_l200, q_l214, q_l255, q_l256, q_l374, q_l400, q_l999, q_l1000, q_l9999, q_l99, q_l99999, q_nm, q_gd, q_gd2, q_ix, q_lt, q_eq, q_m5a, q_m5b, q_m40b, q_m8a, q_m8b, q_m16b, q_m374b, q_m160b, q_m10a, q_div5, q_rem5, nI_add, q_moe, q_moe2, q_mol, q_mol2, q_mor, q_bd2, q_bd1, q_stI, q_oI0, if_true, if_false, ite_true, ite_false, ↓reduceIte, Nat.lt_irrefl, Nat.not_lt_zero, Nat.add_zero, Nat.zero_add, Nat.reduceEqDiff, Nat.reduceLeDiff, Nat.reduceLT, Nat.reduceAdd, Bool.false_eq_true, and_self, and_false, false_and, true_and, and_true, not_true_eq_false, not_false_eq_true, pR_oth, e110, hk, g2, g4, e7, p2, jdN, p1, q_oIs]
      · have p3 : (oI (jdN Λ F vb ob (gI m 113) k).1 < nI 0) = False := by
          rw [q_oIp (by omega), q_lt (by omega) (by omega)]
          exact eq_false (by omega)
        simp (maxSteps := 500000) (disch := first | assumption | omega) only [f_X11_judged_L38, q_l0, q_l1, q_l2, q_l3, q_l4, q_l5, q_l6, q_l7, q_l8, q_l9, q_l10, q_l11, q_l12, q_l13, q_l14, q_l15, q_l16, q_l20, q_l21, q_l22, q_l24, q_l25, q_l26, q_l27, q_l28, q_l29, q_l30, q_l31, q_l32, q_l40, q_l48, q_l57, q_l80, q_l97, q_l100, q_l120, q_l122, q_l126, q_l160, q_l200, q_l214, q_l255, q_l256, q_l374, q_l400, q_l999, q_l1000, q_l9999, q_l99, q_l99999, q_nm, q_gd, q_gd2, q_ix, q_lt, q_eq, q_m5a, q_m5b, q_m40b, q_m8a, q_m8b, q_m16b, q_m374b, q_m160b, q_m10a, q_div5, q_rem5, nI_add, q_moe, q_moe2, q_mol, q_mol2, q_mor, q_bd2, q_bd1, q_stI, q_oI0, if_true, if_false, ite_true, ite_false, ↓reduceIte, Nat.lt_irrefl, Nat.not_lt_zero, Nat.add_zero, Nat.zero_add, Nat.reduceEqDiff, Nat.reduceLeDiff, Nat.reduceLT, Nat.reduceAdd, Bool.false_eq_true, and_self, and_false, false_and, true_and, and_true, not_true_eq_false, not_false_eq_true, pR_oth, e110, hk, g2, g4, e7, p2, p3, jdN, p1]
    · have p1' : ((pf Λ (jdN Λ F vb ob (gI m 113) k).2 (vb k) (ob k) (gI m 113 k)).1 = 0) = False := eq_false p1
      simp (maxSteps := 500000) (disch := first | assumption | omega) only [f_X11_judged_L38, q_l0, q_l1, q_l2, q_l3, q_l4, q_l5, q_l6, q_l7, q_l8, q_l9, q_l10, q_l11, q_l12, q_l13, q_l14, q_l15, q_l16, q_l20, q_l21, q_l22, q_l24, q_l25, q_l26, q_l27, q_l28, q_l29, q_l30, q_l31, q_l32, q_l40, q_l48, q_l57, q_l80, q_l97, q_l100, q_l120, q_l122, q_l126, q_l160, q_l200, q_l214, q_l255, q_l256, q_l374, q_l400, q_l999, q_l1000, q_l9999, q_l99, q_l99999, q_nm, q_gd, q_gd2, q_ix, q_lt, q_eq, q_m5a, q_m5b, q_m40b, q_m8a, q_m8b, q_m16b, q_m374b, q_m160b, q_m10a, q_div5, q_rem5, nI_add, q_moe, q_moe2, q_mol, q_mol2, q_mor, q_bd2, q_bd1, q_stI, q_oI0, if_true, if_false, ite_true, ite_false, ↓reduceIte, Nat.lt_irrefl, Nat.not_lt_zero, Nat.add_zero, Nat.zero_add, Nat.reduceEqDiff, Nat.reduceLeDiff, Nat.reduceLT, Nat.reduceAdd, Bool.false_eq_true, and_self, and_false, false_and, true_and, and_true, not_true_eq_false, not_false_eq_true, pR_oth, e110, hk, g2, g4, e7, p1', jdN]
/-- what the class does to a trial state -/
theorem Sc_pS (ha : a = 59) : Sc m (pS a S (bgB a m)) := fun c i hn => by
  subst ha
  unfold ns at hn
  simp only [pS, bgB, sI]
  have a1 : c ≠ 59 := by omega
  have a2 : c ≠ 59 + 1 := by omega
  have a3 : c ≠ 59 + 2 := by omega
  have a4 : c ≠ 59 + 3 := by omega
  simp [a1, a2, a3, a4]
theorem Hq_59 (h : Hq Λ S m) {F : Sv} : Hq Λ S (pS 59 F (bgB 59 m)) := by
  have hg : ∀ c i, c < 59 ∨ 62 < c → gI (pS 59 F (bgB 59 m)) c i = gI m c i := fun c i hc => by
    have a1 : c ≠ 59 := by omega
    have a2 : c ≠ 59 + 1 := by omega
    have a3 : c ≠ 59 + 2 := by omega
    have a4 : c ≠ 59 + 3 := by omega
    simp [gI, pS, bgB, sI, a1, a2, a3, a4]
  refine ⟨?_, ?_, ?_, ?_⟩
  · unfold RelC
    simp (disch := omega) only [hg]
    exact h.1
  · unfold RelR
    simp (disch := omega) only [hg]
    exact h.2.1
  · have e := h.2.2.1
    refine mm_ext (fun c j => ?_) rfl
    have e2 : ∀ c j, (pS 54 S m).1 c j = m.1 c j := fun c j => by rw [e]
    by_cases hc : c < 59
    · have e3 := e2 c j
      have a1 : c ≠ 59 := by omega
      have a2 : c ≠ 59 + 1 := by omega
      have a3 : c ≠ 59 + 2 := by omega
      have a4 : c ≠ 59 + 3 := by omega
      simp only [pS, bgB, sI] at e3 ⊢
      simp only [a1, a2, a3, a4, false_and, if_false, ↓reduceIte]
      exact e3
    · have a1 : c ≠ 54 := by omega
      have a2 : c ≠ 54 + 1 := by omega
      have a3 : c ≠ 54 + 2 := by omega
      have a4 : c ≠ 54 + 3 := by omega
      show (if c = 54 then (if j = 1 then S.1 else (pS 59 F (bgB 59 m)).1 c j) else if c = 54 + 1 then S.2.1 j else if c = 54 + 2 then S.2.2.1 j else if c = 54 + 3 then S.2.2.2 j else (pS 59 F (bgB 59 m)).1 c j) = (pS 59 F (bgB 59 m)).1 c j
      rw [if_neg a1, if_neg a2, if_neg a3, if_neg a4]
  · have e := h.2.2.2
    refine mm_ext (fun c j => ?_) rfl
    have e2 : ∀ c j, (pR Λ S m).1 c j = m.1 c j := fun c j => by rw [e]
    by_cases hc : c = 117
    · subst hc
      have e3 := e2 117 j
      simp only [pR] at e3 ⊢
      have e4 : (pS 59 F (bgB 59 m)).1 117 j = m.1 117 j := hg 117 j (by omega)
      rw [e4]
      exact e3
    · simp [pR, hc]
theorem LinesI_59 (hw : w = 18 ∨ w = 22) {F : Sv} (h : LinesI Λ w n vb ob m) : LinesI Λ w n vb ob (pS 59 F (bgB 59 m)) := by
  have hg : ∀ c i, c < 59 ∨ 62 < c → gI (pS 59 F (bgB 59 m)) c i = gI m c i := fun c i hc => by
    have a1 : c ≠ 59 := by omega
    have a2 : c ≠ 59 + 1 := by omega
    have a3 : c ≠ 59 + 2 := by omega
    have a4 : c ≠ 59 + 3 := by omega
    simp [gI, pS, bgB, sI, a1, a2, a3, a4]
  unfold LinesI
  simp (disch := omega) only [hg]
  exact h
theorem a_judged (h : Hq Λ S m) (hW : WL1 Λ) (hW2 : WL2 Λ) (h3 : WL3 Λ) (hw : w = 18 ∨ w = 22) (hL : LinesI Λ w n vb ob m) : ∃ r m1 m2, f_X10_judged t u w v x1 m = some (r, m1) ∧ f_X11_judged x1 m1 = some (r, m2) ∧ Sc m m2 := by
  rcases inN_or x1 3 with ⟨x, hx, hx2, rfl⟩ | ho
  · have hx3 : ¬ 2 < x := by omega
    have hx4 : x ≤ 2 := by omega
    have hF := frS_F (Λ := Λ) (a := 59) (m := m)
    have e1 := c_begin (a := 59) (by omega) h.1 hW
    have hC2 : RelC Λ (bgB 59 m) := RelC_sI (by omega) (RelC_sI (by omega) h.1)
    have hL2 : LinesI Λ w n vb ob (bgB 59 m) := by
      have hg : ∀ c i, c ≠ 59 → gI (bgB 59 m) c i = gI m c i := fun c i hc => by simp [gI, bgB, sI, hc]
      unfold LinesI
      simp (disch := omega) only [hg]
      exact hL
    generalize hFe : frS Λ 59 m = F at hF e1
    have e2 := c_judgedL (t := t) (u := u) (v := v) hC2 hW hW2 h3 hF hw hL2 hx4
    have evl : gI (bgB 59 m) (w + 3) = gI m (w + 3) := by
      funext i
      rcases hw with rfl | rfl <;> simp [gI, bgB, sI]
    rw [evl] at e2
    -- the reference
    generalize hS2 : (jdN Λ F vb ob (gI m (w + 3)) n).2 = S2 at e2
    have hq1 := Hq_59 h (F := S2)
    have hL1 := LinesI_59 hw (F := S2) hL
    have hsc1 := Sc_pS (m := m) (S := S2) (a := 59) rfl
    have ev1 : gI (pS 59 S2 (bgB 59 m)) 113 = gI m 113 := by
      funext i
      simp [gI, pS, bgB, sI]
    generalize pS 59 S2 (bgB 59 m) = m1 at e2 hq1 hL1 hsc1 ev1
    have hq2 := Hq_th hq1
    have hL2' := LinesI_th hw hL1
    have c1 := r_copies (m := th m1) (p0 := 117) (p2 := 118) (a := 0) (b := 0) (by decide) (by decide) (by decide) (by decide) (by decide)
    rw [cp_as (by decide)] at c1
    have hq3 := Hq_wr (b := 118) (g := asR 118 (th m1)) (by omega) hq2
    have hL3 := LinesI_wr (b := 118) (g := asR 118 (th m1)) (by omega) hw hL2'
    have f1 := r_fresh (F := F) hq3.2.1.1 hW h3 hF
    have w117 : (wr 118 (asR 118 (th m1)) (th m1)).1 117 = (th m1).1 117 := by
      funext i
      simp [wr]
    rw [w117] at f1
    have hR4 : RelR Λ (wr 117 (fl 374 ((th m1).1 117)) (wr 118 (asR 118 (th m1)) (th m1))) := by
      unfold RelR
      simp (disch := omega) only [wr_g]
      exact hq3.2.1
    have hL4 := LinesI_wr (b := 117) (g := fl 374 ((th m1).1 117)) (by omega) hw hL3
    have e5 := r_judgedL (m2 := wr 118 (asR 118 (th m1)) (th m1)) hR4 hW hW2 h3 hF hL4 hx4 (fun S2 => (cp_asB (b := 118) (z := 374) (m := th m1) (by decide) hW.2.2.1).resolve_right (by omega))
    have ev4 : gI (wr 117 (fl 374 ((th m1).1 117)) (wr 118 (asR 118 (th m1)) (th m1))) 113 = gI m 113 := by
      rw [← ev1]
      funext i
      simp [gI, wr, th, sI]
    rw [ev4, ← jd_congr (vl := gI m (w + 3)) (vl2 := gI m 113) (n := n) (fun i hi h1 => (hL.2.2.2 i hi).2.2.2.2.2 h1) n (Nat.le_refl _), hS2] at e5
    refine ⟨if x = 0 then oI (jdN Λ F vb ob (gI m (w + 3)) n).1 else if x = 1 then smI S2.2.2.2 (yD Λ) else nI (deC Λ S2), m1, wr 118 (asR 118 (th m1)) (th m1), ?_, ?_, Sc_tr hsc1 (Sc_tr Sc_th (Sc_wr (by omega)))⟩
    · unfold f_X10_judged
      simp (maxSteps := 500000) (disch := first | assumption | omega) only [q_l0, q_l1, q_l2, q_l3, q_l4, q_l5, q_l6, q_l7, q_l8, q_l9, q_l10, q_l11, q_l12, q_l13, q_l14, q_l15, q_l16, q_l20, q_l21, q_l22, q_l24, q_l25, q_l26, q_l27, q_l28, q_l29, q_l30, q_l31, q_l32, q_l40, q_l48, q_l57, q_l80, q_l97, q_l100, q_l120, q_l122, q_l126, q_l160, q_l200, q_l214, q_l255, q_l256, q_l374, q_l400, q_l999, q_l1000, q_l9999, q_l99, q_l99999, q_nm, q_gd, q_gd2, q_ix, q_lt, q_eq, q_m5a, q_m5b, q_m40b, q_m8a, q_m8b, q_m16b, q_m374b, q_m160b, q_m10a, q_div5, q_rem5, nI_add, q_moe, q_moe2, q_mol, q_mol2, q_mor, q_bd2, q_bd1, q_stI, q_oI0, if_true, if_false, ite_true, ite_false, ↓reduceIte, Nat.lt_irrefl, Nat.not_lt_zero, Nat.add_zero, Nat.zero_add, Nat.reduceEqDiff, Nat.reduceLeDiff, Nat.reduceLT, Nat.reduceAdd, Bool.false_eq_true, and_self, and_false, false_and, true_and, and_true, not_true_eq_false, not_false_eq_true, hx3, e1, e2]
    · unfold f_X11_judged
      rw [q_stI, q_th]
      simp (maxSteps := 500000) (disch := first | assumption | omega) only [q_l0, q_l1, q_l2, q_l3, q_l4, q_l5, q_l6, q_l7, q_l8, q_l9, q_l10, q_l11, q_l12, q_l13, q_l14, q_l15, q_l16, q_l20, q_l21, q_l22, q_l24, q_l25, q_l26, q_l27, q_l28, q_l29, q_l30, q_l31, q_l32, q_l40, q_l48, q_l57, q_l80, q_l97, q_l100, q_l120, q_l122, q_l126, q_l160, q_l200, q_l214, q_l255, q_l256, q_l374, q_l400, q_l999, q_l1000, q_l9999, q_l99, q_l99999, q_nm, q_gd, q_gd2, q_ix, q_lt, q_eq, q_m5a, q_m5b, q_m40b, q_m8a, q_m8b, q_m16b, q_m374b, q_m160b, q_m10a, q_div5, q_rem5, nI_add, q_moe, q_moe2, q_mol, q_mol2, q_mor, q_bd2, q_bd1, q_stI, q_oI0, if_true, if_false, ite_true, ite_false, ↓reduceIte, Nat.lt_irrefl, Nat.not_lt_zero, Nat.add_zero, Nat.zero_add, Nat.reduceEqDiff, Nat.reduceLeDiff, Nat.reduceLT, Nat.reduceAdd, Bool.false_eq_true, and_self, and_false, false_and, true_and, and_true, not_true_eq_false, not_false_eq_true, r_winL, hx4, c1, f1, e5]
  · refine ⟨-nI 2, m, th m, ?_, ?_, Sc_th⟩
    · unfold f_X10_judged
      rcases ho with h5 | ⟨y, h5, h6, rfl⟩
      · rw [q_l0] at h5
        simp (maxSteps := 500000) (disch := first | assumption | omega) only [q_l0, q_l1, q_l2, q_l3, q_l4, q_l5, q_l6, q_l7, q_l8, q_l9, q_l10, q_l11, q_l12, q_l13, q_l14, q_l15, q_l16, q_l20, q_l21, q_l22, q_l24, q_l25, q_l26, q_l27, q_l28, q_l29, q_l30, q_l31, q_l32, q_l40, q_l48, q_l57, q_l80, q_l97, q_l100, q_l120, q_l122, q_l126, q_l160, q_l200, q_l214, q_l255, q_l256, q_l374, q_l400, q_l999, q_l1000, q_l9999, q_l99, q_l99999, q_nm, q_gd, q_gd2, q_ix, q_lt, q_eq, q_m5a, q_m5b, q_m40b, q_m8a, q_m8b, q_m16b, q_m374b, q_m160b, q_m10a, q_div5, q_rem5, nI_add, q_moe, q_moe2, q_mol, q_mol2, q_mor, q_bd2, q_bd1, q_stI, q_oI0, if_true, if_false, ite_true, ite_false, ↓reduceIte, Nat.lt_irrefl, Nat.not_lt_zero, Nat.add_zero, Nat.zero_add, Nat.reduceEqDiff, Nat.reduceLeDiff, Nat.reduceLT, Nat.reduceAdd, Bool.false_eq_true, and_self, and_false, false_and, true_and, and_true, not_true_eq_false, not_false_eq_true, h5]
      · have hy3 : 2 < y := by omega
        simp (maxSteps := 500000) (disch := first | assumption | omega) only [q_l0, q_l1, q_l2, q_l3, q_l4, q_l5, q_l6, q_l7, q_l8, q_l9, q_l10, q_l11, q_l12, q_l13, q_l14, q_l15, q_l16, q_l20, q_l21, q_l22, q_l24, q_l25, q_l26, q_l27, q_l28, q_l29, q_l30, q_l31, q_l32, q_l40, q_l48, q_l57, q_l80, q_l97, q_l100, q_l120, q_l122, q_l126, q_l160, q_l200, q_l214, q_l255, q_l256, q_l374, q_l400, q_l999, q_l1000, q_l9999, q_l99, q_l99999, q_nm, q_gd, q_gd2, q_ix, q_lt, q_eq, q_m5a, q_m5b, q_m40b, q_m8a, q_m8b, q_m16b, q_m374b, q_m160b, q_m10a, q_div5, q_rem5, nI_add, q_moe, q_moe2, q_mol, q_mol2, q_mor, q_bd2, q_bd1, q_stI, q_oI0, if_true, if_false, ite_true, ite_false, ↓reduceIte, Nat.lt_irrefl, Nat.not_lt_zero, Nat.add_zero, Nat.zero_add, Nat.reduceEqDiff, Nat.reduceLeDiff, Nat.reduceLT, Nat.reduceAdd, Bool.false_eq_true, and_self, and_false, false_and, true_and, and_true, not_true_eq_false, not_false_eq_true, hy3]
    · unfold f_X11_judged
      rw [q_stI, q_th]
      simp (maxSteps := 500000) (disch := first | assumption | omega) only [q_l0, q_l1, q_l2, q_l3, q_l4, q_l5, q_l6, q_l7, q_l8, q_l9, q_l10, q_l11, q_l12, q_l13, q_l14, q_l15, q_l16, q_l20, q_l21, q_l22, q_l24, q_l25, q_l26, q_l27, q_l28, q_l29, q_l30, q_l31, q_l32, q_l40, q_l48, q_l57, q_l80, q_l97, q_l100, q_l120, q_l122, q_l126, q_l160, q_l200, q_l214, q_l255, q_l256, q_l374, q_l400, q_l999, q_l1000, q_l9999, q_l99, q_l99999, q_nm, q_gd, q_gd2, q_ix, q_lt, q_eq, q_m5a, q_m5b, q_m40b, q_m8a, q_m8b, q_m16b, q_m374b, q_m160b, q_m10a, q_div5, q_rem5, nI_add, q_moe, q_moe2, q_mol, q_mol2, q_mor, q_bd2, q_bd1, q_stI, q_oI0, if_true, if_false, ite_true, ite_false, ↓reduceIte, Nat.lt_irrefl, Nat.not_lt_zero, Nat.add_zero, Nat.zero_add, Nat.reduceEqDiff, Nat.reduceLeDiff, Nat.reduceLT, Nat.reduceAdd, Bool.false_eq_true, and_self, and_false, false_and, true_and, and_true, not_true_eq_false, not_false_eq_true, r_outL ho]
end Jd2
