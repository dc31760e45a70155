/-! MATH HALF: the call mark -/
section Mk4
variable {Λ : Lv} {a b x k d n i B t u w v s M p j y : Nat} {D : Nat → Nat} {S T : Sv} {m m2 : Mm} {x1 : Int32}
theorem MkO_th (hX : yX Λ ≤ 160) (h : Hq Λ S m) (hT : WT Λ B S) (hs : SeenAt Λ 54 0 s D M m) (hB : SnB m) (h0 : MkI Λ B 0 m) (h1 : MkI Λ B 1 m) : MkO Λ B (th m) := by
  have hg : ∀ b i, b ≠ 78 → gI (th m) b i = gI m b i := fun b i hb => by simp [gI, th, sI, hb]
  refine ⟨⟨S, s, D, M, Hq_th h, hT, ?_⟩, ?_, ?_, fun i hi => ?_⟩
  · refine Seen_mv (a := 54) (r := 0) ?_ ?_ ?_ (fun i hi => ?_) (fun i hi => ?_) (fun i hi => ?_) hs <;> exact hg _ _ (by omega)
  · refine MkI_ag hX ?_ ?_ (fun b i h1 h2 => ?_) (fun i hi => ?_) ?_ (fun b i h1 h2 => ?_) h0 <;> exact hg _ _ (by omega)
  · refine MkI_ag hX ?_ ?_ (fun b i h1 h2 => ?_) (fun i hi => ?_) ?_ (fun b i h1 h2 => ?_) h1 <;> exact hg _ _ (by omega)
  · rw [hg _ _ (by omega)]; exact hB i hi
theorem mkF_th : mkF m (th m) := ⟨rfl, fun b i h => by
  have : ¬ (b = 78 ∧ i = 0) := by omega
  simp only [gI, th, sI]
  rw [if_neg this]⟩
theorem mkF_L (hk : k < 2) : mkF m (mkL k m) := ⟨rfl, fun b i h => mkL_same (by omega) (by omega) (by omega) (by omega) (by omega) (by omega) (by omega)⟩
theorem mkF_B (hk : k < 2) : mkF m (mkB k m) := ⟨rfl, fun b i h => mkB_same (by omega) (by omega) (by omega) (by omega) (by omega) (by omega)⟩
theorem c_mark (hk : k < 2) : f_X10_mark t u w v (nI k) (nI 0) m = some (nI 1, sI (cyM (65 + 5 * k) 54 m) 75 k (nI 1)) := by
  have e0 : k = 0 ∨ k = 1 := by omega
  rcases e0 with rfl | rfl
  · have e1 := c_copy (a := 65) (p := 54) (m := m) (by omega)
    simp (maxSteps := 500000) (disch := first | assumption | omega) only [f_X10_mark, f_X10_mark_J24, q_l0, q_l1, q_l2, q_l3, q_l4, q_l5, q_l6, q_l7, q_l8, q_l9, q_l10, q_l11, q_l12, q_l13, q_l14, q_l15, q_l16, q_l20, q_l21, q_l22, q_l24, q_l25, q_l26, q_l27, q_l28, q_l29, q_l30, q_l31, q_l32, q_l40, q_l48, q_l57, q_l80, q_l97, q_l100, q_l120, q_l122, q_l126, q_l160, q_l200, q_l214, q_l255, q_l256, q_l374, q_l400, q_l999, q_l1000, q_l9999, q_l99, q_l99999, q_nm, q_gd, q_gd2, q_ix, q_lt, q_eq, q_m5a, q_m5b, q_m40b, q_m8a, q_m8b, q_m16b, q_m374b, q_m160b, q_m10a, q_div5, q_rem5, nI_add, q_moe, q_moe2, q_mol, q_mol2, q_mor, q_bd2, q_bd1, q_stI, q_oI0, if_true, if_false, ite_true, ite_false, ↓reduceIte, Nat.lt_irrefl, Nat.not_lt_zero, Nat.add_zero, Nat.zero_add, Nat.reduceEqDiff, Nat.reduceLeDiff, Nat.reduceLT, Nat.reduceAdd, Bool.false_eq_true, and_self, and_false, false_and, true_and, and_true, not_true_eq_false, not_false_eq_true, e1]
  · have e1 := c_copy (a := 70) (p := 54) (m := m) (by omega)
    simp (maxSteps := 500000) (disch := first | assumption | omega) only [f_X10_mark, f_X10_mark_J24, q_l0, q_l1, q_l2, q_l3, q_l4, q_l5, q_l6, q_l7, q_l8, q_l9, q_l10, q_l11, q_l12, q_l13, q_l14, q_l15, q_l16, q_l20, q_l21, q_l22, q_l24, q_l25, q_l26, q_l27, q_l28, q_l29, q_l30, q_l31, q_l32, q_l40, q_l48, q_l57, q_l80, q_l97, q_l100, q_l120, q_l122, q_l126, q_l160, q_l200, q_l214, q_l255, q_l256, q_l374, q_l400, q_l999, q_l1000, q_l9999, q_l99, q_l99999, q_nm, q_gd, q_gd2, q_ix, q_lt, q_eq, q_m5a, q_m5b, q_m40b, q_m8a, q_m8b, q_m16b, q_m374b, q_m160b, q_m10a, q_div5, q_rem5, nI_add, q_moe, q_moe2, q_mol, q_mol2, q_mor, q_bd2, q_bd1, q_stI, q_oI0, if_true, if_false, ite_true, ite_false, ↓reduceIte, Nat.lt_irrefl, Nat.not_lt_zero, Nat.add_zero, Nat.zero_add, Nat.reduceEqDiff, Nat.reduceLeDiff, Nat.reduceLT, Nat.reduceAdd, Bool.false_eq_true, and_self, and_false, false_and, true_and, and_true, not_true_eq_false, not_false_eq_true, e1, n10]
theorem c_markB (hk : k < 2) (h1 : gI m 75 k = nI 1) : f_X10_mark t u w v (nI k) (nI 1) m = some (nI 1, cyM 54 (65 + 5 * k) m) := by
  have e0 : k = 0 ∨ k = 1 := by omega
  rcases e0 with rfl | rfl
  · have e1 := c_copy (a := 54) (p := 65) (m := m) (by omega)
    simp (maxSteps := 500000) (disch := first | assumption | omega) only [f_X10_mark, f_X10_mark_J24, q_l0, q_l1, q_l2, q_l3, q_l4, q_l5, q_l6, q_l7, q_l8, q_l9, q_l10, q_l11, q_l12, q_l13, q_l14, q_l15, q_l16, q_l20, q_l21, q_l22, q_l24, q_l25, q_l26, q_l27, q_l28, q_l29, q_l30, q_l31, q_l32, q_l40, q_l48, q_l57, q_l80, q_l97, q_l100, q_l120, q_l122, q_l126, q_l160, q_l200, q_l214, q_l255, q_l256, q_l374, q_l400, q_l999, q_l1000, q_l9999, q_l99, q_l99999, q_nm, q_gd, q_gd2, q_ix, q_lt, q_eq, q_m5a, q_m5b, q_m40b, q_m8a, q_m8b, q_m16b, q_m374b, q_m160b, q_m10a, q_div5, q_rem5, nI_add, q_moe, q_moe2, q_mol, q_mol2, q_mor, q_bd2, q_bd1, q_stI, q_oI0, if_true, if_false, ite_true, ite_false, ↓reduceIte, Nat.lt_irrefl, Nat.not_lt_zero, Nat.add_zero, Nat.zero_add, Nat.reduceEqDiff, Nat.reduceLeDiff, Nat.reduceLT, Nat.reduceAdd, Bool.false_eq_true, and_self, and_false, false_and, true_and, and_true, not_true_eq_false, not_false_eq_true, e1, h1, n10]
  · have e1 := c_copy (a := 54) (p := 70) (m := m) (by omega)
    simp (maxSteps := 500000) (disch := first | assumption | omega) only [f_X10_mark, f_X10_mark_J24, q_l0, q_l1, q_l2, q_l3, q_l4, q_l5, q_l6, q_l7, q_l8, q_l9, q_l10, q_l11, q_l12, q_l13, q_l14, q_l15, q_l16, q_l20, q_l21, q_l22, q_l24, q_l25, q_l26, q_l27, q_l28, q_l29, q_l30, q_l31, q_l32, q_l40, q_l48, q_l57, q_l80, q_l97, q_l100, q_l120, q_l122, q_l126, q_l160, q_l200, q_l214, q_l255, q_l256, q_l374, q_l400, q_l999, q_l1000, q_l9999, q_l99, q_l99999, q_nm, q_gd, q_gd2, q_ix, q_lt, q_eq, q_m5a, q_m5b, q_m40b, q_m8a, q_m8b, q_m16b, q_m374b, q_m160b, q_m10a, q_div5, q_rem5, nI_add, q_moe, q_moe2, q_mol, q_mol2, q_mor, q_bd2, q_bd1, q_stI, q_oI0, if_true, if_false, ite_true, ite_false, ↓reduceIte, Nat.lt_irrefl, Nat.not_lt_zero, Nat.add_zero, Nat.zero_add, Nat.reduceEqDiff, Nat.reduceLeDiff, Nat.reduceLT, Nat.reduceAdd, Bool.false_eq_true, and_self, and_false, false_and, true_and, and_true, not_true_eq_false, not_false_eq_true, e1, h1, n10]
/-- mark: both lay or go back alike -/
theorem a_mark (h : Hq Λ S m) (hW : WL1 Λ) (h3 : WL3 Λ) (hT : WT Λ B S) (hs : SeenAt Λ 54 0 s D M m) (hB : SnB m) (h0 : MkI Λ B 0 m) (h1 : MkI Λ B 1 m) (hy : y < 2) : ∃ r m1 m2, f_X10_mark t u w v x1 (nI y) m = some (r, m1) ∧ f_X11_mark x1 (nI y) m1 = some (r, m2) ∧ MkO Λ B m2 ∧ mkF m m2 := by
  have hX := hW.2.2.1
  have hall : ∀ j, j < 2 → MkI Λ B j m := fun j hj => by
    have e0 : j = 0 ∨ j = 1 := by omega
    rcases e0 with rfl | rfl
    · exact h0
    · exact h1
  have hth := MkO_th hX h hT hs hB h0 h1
  rcases inN_or x1 2 with ⟨k, hk, hk2, rfl⟩ | ho
  · have e0 : y = 0 ∨ y = 1 := by omega
    rcases e0 with rfl | rfl
    · exact ⟨nI 1, _, mkL k m, c_mark hk, r_mark hk rfl hB, out_L hk hW h hT hs hB hall, mkF_L hk⟩
    · obtain ⟨f, g1, g2, g3, g4⟩ := hall k hk
      have e1 : f = 0 ∨ f = 1 := by omega
      rcases e1 with rfl | rfl
      · refine ⟨nI 0, m, th m, ?_, ?_, hth, mkF_th⟩
        · simp (maxSteps := 500000) (disch := first | assumption | omega) only [f_X10_mark, q_l0, q_l1, q_l2, q_l3, q_l4, q_l5, q_l6, q_l7, q_l8, q_l9, q_l10, q_l11, q_l12, q_l13, q_l14, q_l15, q_l16, q_l20, q_l21, q_l22, q_l24, q_l25, q_l26, q_l27, q_l28, q_l29, q_l30, q_l31, q_l32, q_l40, q_l48, q_l57, q_l80, q_l97, q_l100, q_l120, q_l122, q_l126, q_l160, q_l200, q_l214, q_l255, q_l256, q_l374, q_l400, q_l999, q_l1000, q_l9999, q_l99, q_l99999, q_nm, q_gd, q_gd2, q_ix, q_lt, q_eq, q_m5a, q_m5b, q_m40b, q_m8a, q_m8b, q_m16b, q_m374b, q_m160b, q_m10a, q_div5, q_rem5, nI_add, q_moe, q_moe2, q_mol, q_mol2, q_mor, q_bd2, q_bd1, q_stI, q_oI0, if_true, if_false, ite_true, ite_false, ↓reduceIte, Nat.lt_irrefl, Nat.not_lt_zero, Nat.add_zero, Nat.zero_add, Nat.reduceEqDiff, Nat.reduceLeDiff, Nat.reduceLT, Nat.reduceAdd, Bool.false_eq_true, and_self, and_false, false_and, true_and, and_true, not_true_eq_false, not_false_eq_true, g2, n10, hk]
        · have hw := r_winL (k := k) (n := 1) (m := th m) (by omega) (by omega)
          have hk1 : k ≤ 1 := by omega
          have e3 : gI (th m) 121 k = nI 0 := g3
          unfold f_X11_mark
          rw [q_stI, q_th, q_l0, q_l1, hw, if_pos hk1, q_bd2, if_neg n10, if_neg n10]
          simp (maxSteps := 500000) (disch := first | assumption | omega) only [q_l0, q_l1, q_l2, q_l3, q_l4, q_l5, q_l6, q_l7, q_l8, q_l9, q_l10, q_l11, q_l12, q_l13, q_l14, q_l15, q_l16, q_l20, q_l21, q_l22, q_l24, q_l25, q_l26, q_l27, q_l28, q_l29, q_l30, q_l31, q_l32, q_l40, q_l48, q_l57, q_l80, q_l97, q_l100, q_l120, q_l122, q_l126, q_l160, q_l200, q_l214, q_l255, q_l256, q_l374, q_l400, q_l999, q_l1000, q_l9999, q_l99, q_l99999, q_nm, q_gd, q_gd2, q_ix, q_lt, q_eq, q_m5a, q_m5b, q_m40b, q_m8a, q_m8b, q_m16b, q_m374b, q_m160b, q_m10a, q_div5, q_rem5, nI_add, q_moe, q_moe2, q_mol, q_mol2, q_mor, q_bd2, q_bd1, q_stI, q_oI0, if_true, if_false, ite_true, ite_false, ↓reduceIte, Nat.lt_irrefl, Nat.not_lt_zero, Nat.add_zero, Nat.zero_add, Nat.reduceEqDiff, Nat.reduceLeDiff, Nat.reduceLT, Nat.reduceAdd, Bool.false_eq_true, and_self, and_false, false_and, true_and, and_true, not_true_eq_false, not_false_eq_true, e3]
      · exact ⟨nI 1, _, mkB k m, c_markB hk g2, r_markB hk hB g3, out_B hk hW h3 h hB hall g2, mkF_B hk⟩
  · refine ⟨nI 0, m, th m, ?_, ?_, hth, mkF_th⟩
    · unfold f_X10_mark
      rcases ho with hn | ⟨j, hj, hj2, rfl⟩
      · rw [if_pos hn]; rfl
      · have hj3 : ¬ j < 2 := by omega
        simp (maxSteps := 500000) (disch := first | assumption | omega) only [q_l0, q_l1, q_l2, q_l3, q_l4, q_l5, q_l6, q_l7, q_l8, q_l9, q_l10, q_l11, q_l12, q_l13, q_l14, q_l15, q_l16, q_l20, q_l21, q_l22, q_l24, q_l25, q_l26, q_l27, q_l28, q_l29, q_l30, q_l31, q_l32, q_l40, q_l48, q_l57, q_l80, q_l97, q_l100, q_l120, q_l122, q_l126, q_l160, q_l200, q_l214, q_l255, q_l256, q_l374, q_l400, q_l999, q_l1000, q_l9999, q_l99, q_l99999, q_nm, q_gd, q_gd2, q_ix, q_lt, q_eq, q_m5a, q_m5b, q_m40b, q_m8a, q_m8b, q_m16b, q_m374b, q_m160b, q_m10a, q_div5, q_rem5, nI_add, q_moe, q_moe2, q_mol, q_mol2, q_mor, q_bd2, q_bd1, q_stI, q_oI0, if_true, if_false, ite_true, ite_false, ↓reduceIte, Nat.lt_irrefl, Nat.not_lt_zero, Nat.add_zero, Nat.zero_add, Nat.reduceEqDiff, Nat.reduceLeDiff, Nat.reduceLT, Nat.reduceAdd, Bool.false_eq_true, and_self, and_false, false_and, true_and, and_true, not_true_eq_false, not_false_eq_true, hj3]
    · have hw := r_outL (x1 := x1) (n := 1) (m := th m) ho (by omega)
      unfold f_X11_mark
      rw [q_stI, q_th, q_l0, q_l1, hw, q_bd2, if_pos rfl]
end Mk4
