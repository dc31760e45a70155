/-! MATH HALF: lost and see as calls, copies of states, marks -/
section See
variable {Λ T : Lv} {a b x k d o n i N K z c B t u w v p s q M W : Nat} {D vb ob : Nat → Nat} {S F : Sv} {m m2 m3 : Mm} {x1 x2 x3 st : Int32} {g vl : Nat → Int32}
theorem Hq_sL {y : Int64} (h : Hq Λ S m) : Hq Λ S (sL m b i y) := ⟨h.1, h.2.1, by
  have e := h.2.2.1
  refine mm_ext (fun c j => ?_) rfl
  exact congrFun (congrFun (congrArg Prod.fst e) c) j, by
  have e := h.2.2.2
  refine mm_ext (fun c j => ?_) rfl
  exact congrFun (congrFun (congrArg Prod.fst e) c) j⟩
theorem Sc_sL {y : Int64} : Sc m (sL m b i y) := fun _ _ _ => rfl
theorem lg_refl (y : Int64) : lg_cmp y y = 0 := by
  unfold lg_cmp
  rw [if_neg (by rw [gt_iff_lt, Int64.lt_iff_toInt_lt]; omega), if_pos rfl]
theorem a_lost (h : Hq Λ S m) (hW : WL1 Λ) : ∃ k m1 r m2, f_L_lost x1 m = some (k, m1) ∧ f_X11_lost x1 m1 = some (r, m2) ∧ gI m2 78 0 = k ∧ (k = 0 → gL m2 125 0 = r.toInt64) ∧ Sc m m2 := by
  have h40 := hW.2.1
  by_cases hx : x1 < 0
  · refine ⟨nI 1, m, nI 0, sI (th m) 78 0 (nI 1), ?_, ?_, ?_, ?_, ?_⟩
    · unfold f_L_lost
      rw [if_pos hx]; rfl
    · unfold f_X11_lost
      rw [q_stI, q_th]
      have h2 := Hq_th h
      have r99 := h2.2.1.2.1
      have hx2 : x1 < nI 0 := hx
      obtain ⟨j, hj1, hj2⟩ := FU_j
      rw [hj1]
      by_cases h0 : 0 < yS Λ
      · simp (maxSteps := 500000) (disch := first | assumption | omega) only [f_X11_lost_L9, q_l0, q_l1, q_l2, q_l3, q_l4, q_l5, q_l6, q_l7, q_l8, q_l9, q_l10, q_l11, q_l12, q_l13, q_l14, q_l15, q_l16, q_l20, q_l21, q_l22, q_l24, q_l25, q_l26, q_l27, q_l28, q_l29, q_l30, q_l31, q_l32, q_l40, q_l48, q_l57, q_l80, q_l97, q_l100, q_l120, q_l122, q_l126, q_l160, q_l200, q_l214, q_l255, q_l256, q_l374, q_l400, q_l999, q_l1000, q_l9999, q_l99, q_l99999, q_nm, q_gd, q_gd2, q_ix, q_lt, q_eq, q_m5a, q_m5b, q_m40b, q_m8a, q_m8b, q_m16b, q_m374b, q_m160b, q_m10a, q_div5, q_rem5, nI_add, q_moe, q_moe2, q_mol, q_mol2, q_mor, q_bd2, q_bd1, q_stI, q_oI0, if_true, if_false, ite_true, ite_false, ↓reduceIte, Nat.lt_irrefl, Nat.not_lt_zero, Nat.add_zero, Nat.zero_add, Nat.reduceEqDiff, Nat.reduceLeDiff, Nat.reduceLT, Nat.reduceAdd, Bool.false_eq_true, and_self, and_false, false_and, true_and, and_true, not_true_eq_false, not_false_eq_true, r99, h0, hx2]
      · simp (maxSteps := 500000) (disch := first | assumption | omega) only [f_X11_lost_L9, q_l0, q_l1, q_l2, q_l3, q_l4, q_l5, q_l6, q_l7, q_l8, q_l9, q_l10, q_l11, q_l12, q_l13, q_l14, q_l15, q_l16, q_l20, q_l21, q_l22, q_l24, q_l25, q_l26, q_l27, q_l28, q_l29, q_l30, q_l31, q_l32, q_l40, q_l48, q_l57, q_l80, q_l97, q_l100, q_l120, q_l122, q_l126, q_l160, q_l200, q_l214, q_l255, q_l256, q_l374, q_l400, q_l999, q_l1000, q_l9999, q_l99, q_l99999, q_nm, q_gd, q_gd2, q_ix, q_lt, q_eq, q_m5a, q_m5b, q_m40b, q_m8a, q_m8b, q_m16b, q_m374b, q_m160b, q_m10a, q_div5, q_rem5, nI_add, q_moe, q_moe2, q_mol, q_mol2, q_mor, q_bd2, q_bd1, q_stI, q_oI0, if_true, if_false, ite_true, ite_false, ↓reduceIte, Nat.lt_irrefl, Nat.not_lt_zero, Nat.add_zero, Nat.zero_add, Nat.reduceEqDiff, Nat.reduceLeDiff, Nat.reduceLT, Nat.reduceAdd, Bool.false_eq_true, and_self, and_false, false_and, true_and, and_true, not_true_eq_false, not_false_eq_true, r99, h0]
    · simp [gI, sI]
    · intro e
      exact absurd e (by decide)
    · refine Sc_tr Sc_th (fun b i hn => ?_)
      show (if b = 78 ∧ i = 0 then _ else _) = _
      rw [if_neg]
      rintro ⟨rfl, rfl⟩
      unfold ns at hn
      omega
  · obtain ⟨p, hp, rfl⟩ := nI_of hx
    have hp2 : p < 2147483648 := hp
    have e1 := c_lostAt h hW hp2
    have hle := fs_le (fun x => (vx Λ x ∧ S.2.1 x = nI 2) ∧ stC2 Λ S (nI 2) x = p) (5 * yS Λ)
    have e2 := fun m' (h' : Hq Λ S m') => r_lost (p := p) h' hW hp2
    unfold fo at e1
    generalize fs (fun x => (vx Λ x ∧ S.2.1 x = nI 2) ∧ stC2 Λ S (nI 2) x = p) (5 * yS Λ) = x0 at e1 e2 hle
    by_cases hx0 : x0 < 5 * yS Λ
    · rw [if_pos hx0] at e1
      have h2 := Hq_th (Hq_sL (b := 125) (i := 0) (y := (nI (8 * (x0 / 5) + x0 % 5)).toInt64) h)
      have e3 := e2 _ h2
      rw [if_pos hx0] at e3
      refine ⟨nI 0, sL m 125 0 (nI (8 * (x0 / 5) + x0 % 5)).toInt64, nI (8 * (x0 / 5) + x0 % 5), th (sL m 125 0 (nI (8 * (x0 / 5) + x0 % 5)).toInt64), ?_, ?_, ?_, ?_, ?_⟩
      · unfold f_L_lost
        rw [if_neg hx, e1, q_bd2]
        have h3 : x0 < 200 := by omega
        simp (maxSteps := 500000) (disch := first | assumption | omega) only [q_l0, q_l1, q_l2, q_l3, q_l4, q_l5, q_l6, q_l7, q_l8, q_l9, q_l10, q_l11, q_l12, q_l13, q_l14, q_l15, q_l16, q_l20, q_l21, q_l22, q_l24, q_l25, q_l26, q_l27, q_l28, q_l29, q_l30, q_l31, q_l32, q_l40, q_l48, q_l57, q_l80, q_l97, q_l100, q_l120, q_l122, q_l126, q_l160, q_l200, q_l214, q_l255, q_l256, q_l374, q_l400, q_l999, q_l1000, q_l9999, q_l99, q_l99999, q_nm, q_gd, q_gd2, q_ix, q_lt, q_eq, q_m5a, q_m5b, q_m40b, q_m8a, q_m8b, q_m16b, q_m374b, q_m160b, q_m10a, q_div5, q_rem5, nI_add, q_moe, q_moe2, q_mol, q_mol2, q_mor, q_bd2, q_bd1, q_stI, q_oI0, if_true, if_false, ite_true, ite_false, ↓reduceIte, Nat.lt_irrefl, Nat.not_lt_zero, Nat.add_zero, Nat.zero_add, Nat.reduceEqDiff, Nat.reduceLeDiff, Nat.reduceLT, Nat.reduceAdd, Bool.false_eq_true, and_self, and_false, false_and, true_and, and_true, not_true_eq_false, not_false_eq_true]
        rfl
      · unfold f_X11_lost
        rw [q_stI, q_th, q_l0]
        exact e3
      · simp [gI, th, sI]
      · intro _
        simp [gL, th, sI, sL]
      · exact Sc_tr Sc_sL Sc_th
    · rw [if_neg hx0] at e1
      have e3 := e2 _ (Hq_th h)
      rw [if_neg hx0] at e3
      refine ⟨nI 1, m, nI 0, sI (th m) 78 0 (nI 1), ?_, ?_, ?_, ?_, ?_⟩
      · unfold f_L_lost
        rw [if_neg hx, e1, q_bd2, q_l1, q_nm, if_pos rfl]
      · unfold f_X11_lost
        rw [q_stI, q_th, q_l0]
        exact e3
      · simp [gI, sI]
      · intro e
        exact absurd e (by decide)
      · refine Sc_tr Sc_th (fun b i hn => ?_)
        show (if b = 78 ∧ i = 0 then _ else _) = _
        rw [if_neg]
        rintro ⟨rfl, rfl⟩
        unfold ns at hn
        omega
/-! see -/
def snM (s : Nat) (x : Int32) (y : Nat) (m : Mm) : Mm := sI (sI (sI m 58 s x) 54 7 (nI y)) 54 5 (nI (s + 1))
def snR (s : Nat) (x : Int32) (y : Nat) (m : Mm) : Mm := sI (sI (sI m 115 s x) 116 s (nI y)) 114 0 (nI (s + 1))
theorem a_see (h : Hq Λ S m) (hW : WL1 Λ) (hs : SeenAt Λ 54 0 s D M m) {y : Nat} (hy : y < 2) : (∃ r, f_X10_see t u w v x1 (nI y) m = some (r, m) ∧ f_X11_see x1 (nI y) m = some (r, th m)) ∨ ∃ r i, i < yX Λ ∧ s < 8 ∧ f_X10_see t u w v x1 (nI y) m = some (r, snM s (nI i) (if y = 0 then M else M ||| 2 ^ s) m) ∧ f_X11_see x1 (nI y) (snM s (nI i) (if y = 0 then M else M ||| 2 ^ s) m) = some (r, snR s (nI i) y (th (snM s (nI i) (if y = 0 then M else M ||| 2 ^ s) m))) := by
  have h160 := hW.2.2.1
  obtain ⟨s8, hM, e5, e7, e114, hx⟩ := hs
  have hM2 : M < 256 := Nat.lt_of_lt_of_le hM (Nat.pow_le_pow_right (by decide) s8)
  rcases inN_or x1 (yX Λ) with ⟨i, hi, hi2, rfl⟩ | ho
  · by_cases hs8 : s < 8
    · right
      have hR : RelR Λ (th (snM s (nI i) (if y = 0 then M else M ||| 2 ^ s) m)) := by
        have hg : ∀ c j, 58 < c → c ≠ 78 → gI (th (snM s (nI i) (if y = 0 then M else M ||| 2 ^ s) m)) c j = gI m c j := fun c j hc hc2 => by
          have a1 : c ≠ 58 := by omega
          have a2 : c ≠ 54 := by omega
          simp [gI, th, snM, sI, a1, a2, hc2]
        unfold RelR
        simp (disch := omega) only [hg]
        exact h.2.1
      have e114' : gI (th (snM s (nI i) (if y = 0 then M else M ||| 2 ^ s) m)) 114 0 = nI s := by
        have : gI (th (snM s (nI i) (if y = 0 then M else M ||| 2 ^ s) m)) 114 0 = gI m 114 0 := by simp [gI, th, snM, sI]
        rw [this]; exact e114
      have hs9 : (s = 8) = False := eq_false (by omega)
      refine ⟨nI 1, i, hi, hs8, ?_, ?_⟩
      · unfold f_X10_see
        rw [isDatum1 h.1 hW hi]
        have g1 : gI (sI m 58 s (nI i)) 54 7 = nI M := by
          have : gI (sI m 58 s (nI i)) 54 7 = gI m 54 7 := by simp [gI, sI]
          rw [this]; exact e7
        have g2 : gI (sI m 58 s (nI i)) 54 5 = nI s := by
          have : gI (sI m 58 s (nI i)) 54 5 = gI m 54 5 := by simp [gI, sI]
          rw [this]; exact e5
        have g3 : ∀ z, gI (sI (sI m 58 s (nI i)) 54 7 z) 54 5 = nI s := fun z => by
          have : gI (sI (sI m 58 s (nI i)) 54 7 z) 54 5 = gI m 54 5 := by simp [gI, sI]
          rw [this]; exact e5
        have hy2 : y = 0 ∨ y = 1 := by omega
        rcases hy2 with rfl | rfl
        · simp (maxSteps := 500000) (disch := first | assumption | omega) only [f_X6_addSeen, f_X6_addSeen_J40, q_l0, q_l1, q_l2, q_l3, q_l4, q_l5, q_l6, q_l7, q_l8, q_l9, q_l10, q_l11, q_l12, q_l13, q_l14, q_l15, q_l16, q_l20, q_l21, q_l22, q_l24, q_l25, q_l26, q_l27, q_l28, q_l29, q_l30, q_l31, q_l32, q_l40, q_l48, q_l57, q_l80, q_l97, q_l100, q_l120, q_l122, q_l126, q_l160, q_l200, q_l214, q_l255, q_l256, q_l374, q_l400, q_l999, q_l1000, q_l9999, q_l99, q_l99999, q_nm, q_gd, q_gd2, q_ix, q_lt, q_eq, q_m5a, q_m5b, q_m40b, q_m8a, q_m8b, q_m16b, q_m374b, q_m160b, q_m10a, q_div5, q_rem5, nI_add, q_moe, q_moe2, q_mol, q_mol2, q_mor, q_bd2, q_bd1, q_stI, q_oI0, if_true, if_false, ite_true, ite_false, ↓reduceIte, Nat.lt_irrefl, Nat.not_lt_zero, Nat.add_zero, Nat.zero_add, Nat.reduceEqDiff, Nat.reduceLeDiff, Nat.reduceLT, Nat.reduceAdd, Bool.false_eq_true, and_self, and_false, false_and, true_and, and_true, not_true_eq_false, not_false_eq_true, e5, hs8, g1, g2, g3, q_or, Nat.or_zero, snM]
        · simp (maxSteps := 500000) (disch := first | assumption | omega) only [f_X6_addSeen, f_X6_addSeen_J40, q_l0, q_l1, q_l2, q_l3, q_l4, q_l5, q_l6, q_l7, q_l8, q_l9, q_l10, q_l11, q_l12, q_l13, q_l14, q_l15, q_l16, q_l20, q_l21, q_l22, q_l24, q_l25, q_l26, q_l27, q_l28, q_l29, q_l30, q_l31, q_l32, q_l40, q_l48, q_l57, q_l80, q_l97, q_l100, q_l120, q_l122, q_l126, q_l160, q_l200, q_l214, q_l255, q_l256, q_l374, q_l400, q_l999, q_l1000, q_l9999, q_l99, q_l99999, q_nm, q_gd, q_gd2, q_ix, q_lt, q_eq, q_m5a, q_m5b, q_m40b, q_m8a, q_m8b, q_m16b, q_m374b, q_m160b, q_m10a, q_div5, q_rem5, nI_add, q_moe, q_moe2, q_mol, q_mol2, q_mor, q_bd2, q_bd1, q_stI, q_oI0, if_true, if_false, ite_true, ite_false, ↓reduceIte, Nat.lt_irrefl, Nat.not_lt_zero, Nat.add_zero, Nat.zero_add, Nat.reduceEqDiff, Nat.reduceLeDiff, Nat.reduceLT, Nat.reduceAdd, Bool.false_eq_true, and_self, and_false, false_and, true_and, and_true, not_true_eq_false, not_false_eq_true, e5, hs8, g1, g2, g3, q_shl, q_or, snM]
      · unfold f_X11_see
        rw [q_stI, q_th, rDatum1 hR hW hi]
        generalize th (snM s (nI i) (if y = 0 then M else M ||| 2 ^ s) m) = m1 at e114'
        have g1 : gI (sI m1 115 s (nI i)) 114 0 = nI s := by
          have : gI (sI m1 115 s (nI i)) 114 0 = gI m1 114 0 := by simp [gI, sI]
          rw [this]; exact e114'
        have g2 : gI (sI (sI m1 115 s (nI i)) 116 s (nI y)) 114 0 = nI s := by
          have : gI (sI (sI m1 115 s (nI i)) 116 s (nI y)) 114 0 = gI m1 114 0 := by simp [gI, sI]
          rw [this]; exact e114'
        simp (maxSteps := 500000) (disch := first | assumption | omega) only [q_l0, q_l1, q_l2, q_l3, q_l4, q_l5, q_l6, q_l7, q_l8, q_l9, q_l10, q_l11, q_l12, q_l13, q_l14, q_l15, q_l16, q_l20, q_l21, q_l22, q_l24, q_l25, q_l26, q_l27, q_l28, q_l29, q_l30, q_l31, q_l32, q_l40, q_l48, q_l57, q_l80, q_l97, q_l100, q_l120, q_l122, q_l126, q_l160, q_l200, q_l214, q_l255, q_l256, q_l374, q_l400, q_l999, q_l1000, q_l9999, q_l99, q_l99999, q_nm, q_gd, q_gd2, q_ix, q_lt, q_eq, q_m5a, q_m5b, q_m40b, q_m8a, q_m8b, q_m16b, q_m374b, q_m160b, q_m10a, q_div5, q_rem5, nI_add, q_moe, q_moe2, q_mol, q_mol2, q_mor, q_bd2, q_bd1, q_stI, q_oI0, if_true, if_false, ite_true, ite_false, ↓reduceIte, Nat.lt_irrefl, Nat.not_lt_zero, Nat.add_zero, Nat.zero_add, Nat.reduceEqDiff, Nat.reduceLeDiff, Nat.reduceLT, Nat.reduceAdd, Bool.false_eq_true, and_self, and_false, false_and, true_and, and_true, not_true_eq_false, not_false_eq_true, e114', hs9, g1, g2, snR]
    · left
      have hs9 : s = 8 := by omega
      subst hs9
      refine ⟨nI 0, ?_, ?_⟩
      · unfold f_X10_see
        rw [isDatum1 h.1 hW hi]
        simp (maxSteps := 500000) (disch := first | assumption | omega) only [f_X6_addSeen, q_l0, q_l1, q_l2, q_l3, q_l4, q_l5, q_l6, q_l7, q_l8, q_l9, q_l10, q_l11, q_l12, q_l13, q_l14, q_l15, q_l16, q_l20, q_l21, q_l22, q_l24, q_l25, q_l26, q_l27, q_l28, q_l29, q_l30, q_l31, q_l32, q_l40, q_l48, q_l57, q_l80, q_l97, q_l100, q_l120, q_l122, q_l126, q_l160, q_l200, q_l214, q_l255, q_l256, q_l374, q_l400, q_l999, q_l1000, q_l9999, q_l99, q_l99999, q_nm, q_gd, q_gd2, q_ix, q_lt, q_eq, q_m5a, q_m5b, q_m40b, q_m8a, q_m8b, q_m16b, q_m374b, q_m160b, q_m10a, q_div5, q_rem5, nI_add, q_moe, q_moe2, q_mol, q_mol2, q_mor, q_bd2, q_bd1, q_stI, q_oI0, if_true, if_false, ite_true, ite_false, ↓reduceIte, Nat.lt_irrefl, Nat.not_lt_zero, Nat.add_zero, Nat.zero_add, Nat.reduceEqDiff, Nat.reduceLeDiff, Nat.reduceLT, Nat.reduceAdd, Bool.false_eq_true, and_self, and_false, false_and, true_and, and_true, not_true_eq_false, not_false_eq_true, e5]
      · unfold f_X11_see
        rw [q_stI, q_th, rDatum1 (RelR_th h.2.1) hW hi]
        have e114' : gI (th m) 114 0 = nI 8 := by rw [th_g (by decide)]; exact e114
        simp (maxSteps := 500000) (disch := first | assumption | omega) only [q_l0, q_l1, q_l2, q_l3, q_l4, q_l5, q_l6, q_l7, q_l8, q_l9, q_l10, q_l11, q_l12, q_l13, q_l14, q_l15, q_l16, q_l20, q_l21, q_l22, q_l24, q_l25, q_l26, q_l27, q_l28, q_l29, q_l30, q_l31, q_l32, q_l40, q_l48, q_l57, q_l80, q_l97, q_l100, q_l120, q_l122, q_l126, q_l160, q_l200, q_l214, q_l255, q_l256, q_l374, q_l400, q_l999, q_l1000, q_l9999, q_l99, q_l99999, q_nm, q_gd, q_gd2, q_ix, q_lt, q_eq, q_m5a, q_m5b, q_m40b, q_m8a, q_m8b, q_m16b, q_m374b, q_m160b, q_m10a, q_div5, q_rem5, nI_add, q_moe, q_moe2, q_mol, q_mol2, q_mor, q_bd2, q_bd1, q_stI, q_oI0, if_true, if_false, ite_true, ite_false, ↓reduceIte, Nat.lt_irrefl, Nat.not_lt_zero, Nat.add_zero, Nat.zero_add, Nat.reduceEqDiff, Nat.reduceLeDiff, Nat.reduceLT, Nat.reduceAdd, Bool.false_eq_true, and_self, and_false, false_and, true_and, and_true, not_true_eq_false, not_false_eq_true, e114']
  · left
    refine ⟨nI 0, ?_, ?_⟩
    · unfold f_X10_see
      rw [isDatum0 h.1 hW ho]
      simp (maxSteps := 500000) (disch := first | assumption | omega) only [q_l0, q_l1, q_l2, q_l3, q_l4, q_l5, q_l6, q_l7, q_l8, q_l9, q_l10, q_l11, q_l12, q_l13, q_l14, q_l15, q_l16, q_l20, q_l21, q_l22, q_l24, q_l25, q_l26, q_l27, q_l28, q_l29, q_l30, q_l31, q_l32, q_l40, q_l48, q_l57, q_l80, q_l97, q_l100, q_l120, q_l122, q_l126, q_l160, q_l200, q_l214, q_l255, q_l256, q_l374, q_l400, q_l999, q_l1000, q_l9999, q_l99, q_l99999, q_nm, q_gd, q_gd2, q_ix, q_lt, q_eq, q_m5a, q_m5b, q_m40b, q_m8a, q_m8b, q_m16b, q_m374b, q_m160b, q_m10a, q_div5, q_rem5, nI_add, q_moe, q_moe2, q_mol, q_mol2, q_mor, q_bd2, q_bd1, q_stI, q_oI0, if_true, if_false, ite_true, ite_false, ↓reduceIte, Nat.lt_irrefl, Nat.not_lt_zero, Nat.add_zero, Nat.zero_add, Nat.reduceEqDiff, Nat.reduceLeDiff, Nat.reduceLT, Nat.reduceAdd, Bool.false_eq_true, and_self, and_false, false_and, true_and, and_true, not_true_eq_false, not_false_eq_true]
    · unfold f_X11_see
      rw [q_stI, q_th, rDatum0 (RelR_th h.2.1) hW ho]
      simp (maxSteps := 500000) (disch := first | assumption | omega) only [q_l0, q_l1, q_l2, q_l3, q_l4, q_l5, q_l6, q_l7, q_l8, q_l9, q_l10, q_l11, q_l12, q_l13, q_l14, q_l15, q_l16, q_l20, q_l21, q_l22, q_l24, q_l25, q_l26, q_l27, q_l28, q_l29, q_l30, q_l31, q_l32, q_l40, q_l48, q_l57, q_l80, q_l97, q_l100, q_l120, q_l122, q_l126, q_l160, q_l200, q_l214, q_l255, q_l256, q_l374, q_l400, q_l999, q_l1000, q_l9999, q_l99, q_l99999, q_nm, q_gd, q_gd2, q_ix, q_lt, q_eq, q_m5a, q_m5b, q_m40b, q_m8a, q_m8b, q_m16b, q_m374b, q_m160b, q_m10a, q_div5, q_rem5, nI_add, q_moe, q_moe2, q_mol, q_mol2, q_mor, q_bd2, q_bd1, q_stI, q_oI0, if_true, if_false, ite_true, ite_false, ↓reduceIte, Nat.lt_irrefl, Nat.not_lt_zero, Nat.add_zero, Nat.zero_add, Nat.reduceEqDiff, Nat.reduceLeDiff, Nat.reduceLT, Nat.reduceAdd, Bool.false_eq_true, and_self, and_false, false_and, true_and, and_true, not_true_eq_false, not_false_eq_true]
theorem SeenAt_new (hW : WL1 Λ) (hs : SeenAt Λ 54 0 s D M m) {y : Nat} (hy : y < 2) (hi : i < yX Λ) (hs8 : s < 8) : SeenAt Λ 54 0 (s + 1) (fun j => if j = s then i else D j) (if y = 0 then M else M ||| 2 ^ s) (snR s (nI i) y (th (snM s (nI i) (if y = 0 then M else M ||| 2 ^ s) m))) := by
  obtain ⟨s8, hM, e5, e7, e114, hx⟩ := hs
  have hlt : 2 ^ s < 2 ^ (s + 1) := Nat.pow_lt_pow_right (by decide) (by omega)
  have hMs : M.testBit s = false := Nat.testBit_lt_two_pow hM
  refine ⟨by omega, ?_, ?_, ?_, ?_, fun j hj => ?_⟩
  · split
    · omega
    · exact Nat.or_lt_two_pow (by omega) hlt
  · simp [gI, snR, th, snM, sI]
  · simp [gI, snR, th, snM, sI]
  · simp [gI, snR, sI]
  · rw [show 8 * 0 + j = j from by omega]
    dsimp only
    by_cases hjs : j = s
    · subst hjs
      refine ⟨by rw [if_pos rfl]; exact hi, ?_, ?_, ?_⟩
      · simp [gI, snR, th, snM, sI]
      · simp [gI, snR, th, snM, sI]
      · have hy2 : y = 0 ∨ y = 1 := by omega
        rcases hy2 with rfl | rfl
        · simp [gI, snR, th, snM, sI, hMs]
        · simp [gI, snR, th, snM, sI, Nat.testBit_or, Nat.testBit_two_pow]
    · obtain ⟨d1, d2, d3, d4⟩ := hx j (by omega)
      rw [show 8 * 0 + j = j from by omega] at d3 d4
      refine ⟨by rw [if_neg hjs]; exact d1, ?_, ?_, ?_⟩
      · rw [if_neg hjs]
        have : gI (snR s (nI i) y (th (snM s (nI i) (if y = 0 then M else M ||| 2 ^ s) m))) (54 + 4) j = gI m 58 j := by simp [gI, snR, th, snM, sI, hjs]
        rw [this]; exact d2
      · rw [if_neg hjs]
        have : gI (snR s (nI i) y (th (snM s (nI i) (if y = 0 then M else M ||| 2 ^ s) m))) 115 j = gI m 115 j := by simp [gI, snR, th, snM, sI, hjs]
        rw [this]; exact d3
      · have : gI (snR s (nI i) y (th (snM s (nI i) (if y = 0 then M else M ||| 2 ^ s) m))) 116 j = gI m 116 j := by simp [gI, snR, th, snM, sI, hjs]
        rw [this, d4]
        have hy2 : y = 0 ∨ y = 1 := by omega
        rcases hy2 with rfl | rfl
        · simp
        · have hjs2 : ¬ s = j := fun e => hjs e.symm
          simp [Nat.testBit_or, Nat.testBit_two_pow, hjs2]
end See
