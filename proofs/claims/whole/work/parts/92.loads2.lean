/-! MATH HALF: loads as a call -/
section Ld2
variable {Λ : Lv} {a b x k d o n i N K z c B t u w v p s M W : Nat} {S F T : Sv} {m m2 m3 : Mm} {x1 x2 x3 st : Int32} {g h0 vl : Nat → Int32} {y : Int64} {qq : Nat × Sv} {dwN : Nat → Nat} {dvN : Nat → Nat → Nat}
theorem WT_eq (hW : WL1 Λ) (h : EqS S T) (hT : WT Λ B S) : WT Λ B T := by
  obtain ⟨e1, e2, e3, e4⟩ := h
  refine ⟨fun x hx => ?_, fun k u v hk hu hv h1 h2 => ?_, fun d h1 h2 => ?_, fun d hd => ?_⟩
  · rw [← e2 x (vy_lt hW hx)]; exact hT.1 x hx
  · rw [← e2 _ (vy_lt hW (vx_mk hW hk hu))] at h1
    rw [← e2 _ (vy_lt hW (vx_mk hW hk hv))] at h2
    exact hT.2.1 k u v hk hu hv h1 h2
  · rw [← e4 d h2]; exact hT.2.2.1 d h1 h2
  · rw [← e4 d hd]; exact hT.2.2.2 d hd
theorem pR_eq (hW : WL1 Λ) (h3 : WL3 Λ) (h : EqS S T) : pR Λ S m = pR Λ T m := by
  obtain ⟨e1, e2, e3, e4⟩ := h
  refine mm_ext (fun c j => ?_) rfl
  simp only [pR]
  by_cases hc : c = 117
  · rw [if_pos hc, if_pos hc]
    by_cases j0 : j = 0
    · rw [if_pos j0, if_pos j0, e1]
    · rw [if_neg j0, if_neg j0]
      by_cases j1 : j < 14
      · rw [if_pos j1, if_pos j1, e4 _ (by omega)]
      · rw [if_neg j1, if_neg j1]
        by_cases j2 : j < 214
        · rw [if_pos j2, if_pos j2, e2 _ (by omega)]
        · rw [if_neg j2, if_neg j2]
          by_cases j3 : j < 214 + yX Λ
          · rw [if_pos j3, if_pos j3, e3 _ (vy_lt hW (h3.1 (j - 214) (by omega)).1)]
          · rw [if_neg j3, if_neg j3]
  · rw [if_neg hc, if_neg hc]
/-- what Hq rests on -/
abbrev hqc (b : Nat) : Prop := (26 ≤ b ∧ b ≤ 39) ∨ (54 ≤ b ∧ b ≤ 57) ∨ b = 80 ∨ (99 ≤ b ∧ b ≤ 109) ∨ b = 117
theorem Hq_ag (hag : ∀ b i, hqc b → m2.1 b i = m.1 b i) (h : Hq Λ S m) : Hq Λ S m2 := by
  have hg : ∀ b i, hqc b → gI m2 b i = gI m b i := hag
  refine ⟨?_, ?_, ?_, ?_⟩
  · unfold RelC
    simp (disch := omega) only [hg]
    exact h.1
  · unfold RelR
    simp (disch := omega) only [hg]
    exact h.2.1
  · have e : ∀ b i, (pS 54 S m).1 b i = m.1 b i := fun b i => by rw [h.2.2.1]
    refine mm_ext (fun b i => ?_) rfl
    have e1 := e b i
    by_cases hb : 54 ≤ b ∧ b ≤ 57
    · have h1 := hag b i (Or.inr (Or.inl hb))
      simp only [pS] at e1 ⊢
      rw [h1]
      exact e1
    · have a1 : b ≠ 54 := by omega
      have a2 : b ≠ 54 + 1 := by omega
      have a3 : b ≠ 54 + 2 := by omega
      have a4 : b ≠ 54 + 3 := by omega
      simp only [pS]
      rw [if_neg a1, if_neg a2, if_neg a3, if_neg a4]
  · have e : ∀ b i, (pR Λ S m).1 b i = m.1 b i := fun b i => by rw [h.2.2.2]
    refine mm_ext (fun b i => ?_) rfl
    have e1 := e b i
    by_cases hb : b = 117
    · have h1 := hag b i (by omega)
      simp only [pR] at e1 ⊢
      rw [h1]
      exact e1
    · simp only [pR]
      rw [if_neg hb]
theorem mn_first {f : Nat → Nat} (h0 : f 0 ≤ c) (hn : 1 ≤ n) : mnN f c n ≤ f 0 ∧ f 0 ≤ mxN f n := by
  induction n with
  | zero => omega
  | succ n ih =>
    by_cases hn0 : n = 0
    · subst hn0
      unfold mnN mnN mxN mxN
      constructor
      · split <;> omega
      · split <;> omega
    · have := ih (by omega)
      unfold mnN mxN
      constructor
      · split <;> omega
      · split <;> omega
/-- loads of a state, as numbers -/
theorem lo_ix (hL : WLo Λ B S) (hB : B < 2147483648) (hd : d < 13) : S.2.2.2 d = nI (ix (S.2.2.2 d)) ∧ ix (S.2.2.2 d) ≤ B := by
  obtain ⟨v, h1, h2⟩ := hL.2 d hd
  rw [h2, q_ix (by omega)]
  exact ⟨rfl, h1⟩
def ldF (T : Sv) (d : Nat) : Nat := ix (T.2.2.2 d)
/-- the answer -/
def ldA2 (Λ : Lv) (S T : Sv) (x : Nat) : Int32 := if x = 0 then smI T.2.2.2 (yD Λ) - smI S.2.2.2 (yD Λ) else if x = 1 then nI (deC Λ T) else if yD Λ = 0 then nI 0 else nI (mxN (ldF T) (yD Λ)) - nI (mnN (ldF T) 99999 (yD Λ))
theorem c_loadsE (h : Hq Λ S (pS 59 T m)) (hC : RelC Λ m) (hW : WL1 Λ) (hL : WLo Λ B T) (hB : B ≤ 99999) (hx : x ≤ 2) : f_X10_loads_J79 t u w v (nI x) (pS 59 T m) = some (ldA2 Λ S T x, pS 59 T m) := by
  have h13 := hW.1
  have e1 := c_allLoads (a := 59) (S := T) (by omega) hC hW
  have e2 := c_allLoads (a := 54) (S := S) (by omega) h.1 hW
  rw [h.2.2.1] at e2
  have e3 := c_deadStripes (a := 59) (S := T) (by omega) hC hW
  have c0 := h.1.1
  have hx3 : x = 0 ∨ x = 1 ∨ x = 2 := by omega
  unfold f_X10_loads_J79 ldA2
  rcases hx3 with rfl | rfl | rfl
  · simp (maxSteps := 500000) (disch := first | assumption | omega) only [q_l0, q_l1, q_l2, q_l3, q_l4, q_l5, q_l6, q_l7, q_l8, q_l9, q_l10, q_l11, q_l12, q_l13, q_l14, q_l15, q_l16, q_l20, q_l21, q_l22, q_l24, q_l25, q_l26, q_l27, q_l28, q_l29, q_l30, q_l31, q_l32, q_l40, q_l48, q_l57, q_l80, q_l97, q_l100, q_l120, q_l122, q_l126, q_l160, q_l200, q_l214, q_l255, q_l256, q_l374, q_l400, q_l999, q_l1000, q_l9999, q_l99, q_l99999, q_nm, q_gd, q_gd2, q_ix, q_lt, q_eq, q_m5a, q_m5b, q_m40b, q_m8a, q_m8b, q_m16b, q_m374b, q_m160b, q_m10a, q_div5, q_rem5, nI_add, q_moe, q_moe2, q_mol, q_mol2, q_mor, q_bd2, q_bd1, q_stI, q_oI0, if_true, if_false, ite_true, ite_false, ↓reduceIte, Nat.lt_irrefl, Nat.not_lt_zero, Nat.add_zero, Nat.zero_add, Nat.reduceEqDiff, Nat.reduceLeDiff, Nat.reduceLT, Nat.reduceAdd, Bool.false_eq_true, and_self, and_false, false_and, true_and, and_true, not_true_eq_false, not_false_eq_true, e1, e2]
  · simp (maxSteps := 500000) (disch := first | assumption | omega) only [q_l0, q_l1, q_l2, q_l3, q_l4, q_l5, q_l6, q_l7, q_l8, q_l9, q_l10, q_l11, q_l12, q_l13, q_l14, q_l15, q_l16, q_l20, q_l21, q_l22, q_l24, q_l25, q_l26, q_l27, q_l28, q_l29, q_l30, q_l31, q_l32, q_l40, q_l48, q_l57, q_l80, q_l97, q_l100, q_l120, q_l122, q_l126, q_l160, q_l200, q_l214, q_l255, q_l256, q_l374, q_l400, q_l999, q_l1000, q_l9999, q_l99, q_l99999, q_nm, q_gd, q_gd2, q_ix, q_lt, q_eq, q_m5a, q_m5b, q_m40b, q_m8a, q_m8b, q_m16b, q_m374b, q_m160b, q_m10a, q_div5, q_rem5, nI_add, q_moe, q_moe2, q_mol, q_mol2, q_mor, q_bd2, q_bd1, q_stI, q_oI0, if_true, if_false, ite_true, ite_false, ↓reduceIte, Nat.lt_irrefl, Nat.not_lt_zero, Nat.add_zero, Nat.zero_add, Nat.reduceEqDiff, Nat.reduceLeDiff, Nat.reduceLT, Nat.reduceAdd, Bool.false_eq_true, and_self, and_false, false_and, true_and, and_true, not_true_eq_false, not_false_eq_true, e3]
  · by_cases hD : yD Λ = 0
    · have e4 : f_X10_spreadOf t u w v 62 (nI 0) (pS 59 T m) = some (nI 0, pS 59 T m) := by
        unfold f_X10_spreadOf
        simp (maxSteps := 500000) (disch := first | assumption | omega) only [q_l0, q_l1, q_l2, q_l3, q_l4, q_l5, q_l6, q_l7, q_l8, q_l9, q_l10, q_l11, q_l12, q_l13, q_l14, q_l15, q_l16, q_l20, q_l21, q_l22, q_l24, q_l25, q_l26, q_l27, q_l28, q_l29, q_l30, q_l31, q_l32, q_l40, q_l48, q_l57, q_l80, q_l97, q_l100, q_l120, q_l122, q_l126, q_l160, q_l200, q_l214, q_l255, q_l256, q_l374, q_l400, q_l999, q_l1000, q_l9999, q_l99, q_l99999, q_nm, q_gd, q_gd2, q_ix, q_lt, q_eq, q_m5a, q_m5b, q_m40b, q_m8a, q_m8b, q_m16b, q_m374b, q_m160b, q_m10a, q_div5, q_rem5, nI_add, q_moe, q_moe2, q_mol, q_mol2, q_mor, q_bd2, q_bd1, q_stI, q_oI0, if_true, if_false, ite_true, ite_false, ↓reduceIte, Nat.lt_irrefl, Nat.not_lt_zero, Nat.add_zero, Nat.zero_add, Nat.reduceEqDiff, Nat.reduceLeDiff, Nat.reduceLT, Nat.reduceAdd, Bool.false_eq_true, and_self, and_false, false_and, true_and, and_true, not_true_eq_false, not_false_eq_true]
      simp (maxSteps := 500000) (disch := first | assumption | omega) only [q_l0, q_l1, q_l2, q_l3, q_l4, q_l5, q_l6, q_l7, q_l8, q_l9, q_l10, q_l11, q_l12, q_l13, q_l14, q_l15, q_l16, q_l20, q_l21, q_l22, q_l24, q_l25, q_l26, q_l27, q_l28, q_l29, q_l30, q_l31, q_l32, q_l40, q_l48, q_l57, q_l80, q_l97, q_l100, q_l120, q_l122, q_l126, q_l160, q_l200, q_l214, q_l255, q_l256, q_l374, q_l400, q_l999, q_l1000, q_l9999, q_l99, q_l99999, q_nm, q_gd, q_gd2, q_ix, q_lt, q_eq, q_m5a, q_m5b, q_m40b, q_m8a, q_m8b, q_m16b, q_m374b, q_m160b, q_m10a, q_div5, q_rem5, nI_add, q_moe, q_moe2, q_mol, q_mol2, q_mor, q_bd2, q_bd1, q_stI, q_oI0, if_true, if_false, ite_true, ite_false, ↓reduceIte, Nat.lt_irrefl, Nat.not_lt_zero, Nat.add_zero, Nat.zero_add, Nat.reduceEqDiff, Nat.reduceLeDiff, Nat.reduceLT, Nat.reduceAdd, Bool.false_eq_true, and_self, and_false, false_and, true_and, and_true, not_true_eq_false, not_false_eq_true, c0, hD, e4]
    · have hD0 : (yD Λ = 0) = False := eq_false hD
      have e4 := c_spreadOf (t := t) (u := u) (w := w) (v := v) (p0 := 62) (m := pS 59 T m) (n := yD Λ) (f := ldF T) (c := 99999) rfl (fun d hd => by
        have := lo_ix hL (by omega) hd
        refine ⟨?_, by unfold ldF; omega⟩
        have e5 := pS_lo (a := 59) (S := T) (m := m) (x := d)
        exact e5.trans this.1) (by omega) (by omega) h13
      simp (maxSteps := 500000) (disch := first | assumption | omega) only [q_l0, q_l1, q_l2, q_l3, q_l4, q_l5, q_l6, q_l7, q_l8, q_l9, q_l10, q_l11, q_l12, q_l13, q_l14, q_l15, q_l16, q_l20, q_l21, q_l22, q_l24, q_l25, q_l26, q_l27, q_l28, q_l29, q_l30, q_l31, q_l32, q_l40, q_l48, q_l57, q_l80, q_l97, q_l100, q_l120, q_l122, q_l126, q_l160, q_l200, q_l214, q_l255, q_l256, q_l374, q_l400, q_l999, q_l1000, q_l9999, q_l99, q_l99999, q_nm, q_gd, q_gd2, q_ix, q_lt, q_eq, q_m5a, q_m5b, q_m40b, q_m8a, q_m8b, q_m16b, q_m374b, q_m160b, q_m10a, q_div5, q_rem5, nI_add, q_moe, q_moe2, q_mol, q_mol2, q_mor, q_bd2, q_bd1, q_stI, q_oI0, if_true, if_false, ite_true, ite_false, ↓reduceIte, Nat.lt_irrefl, Nat.not_lt_zero, Nat.add_zero, Nat.zero_add, Nat.reduceEqDiff, Nat.reduceLeDiff, Nat.reduceLT, Nat.reduceAdd, Bool.false_eq_true, and_self, and_false, false_and, true_and, and_true, not_true_eq_false, not_false_eq_true, c0, hD0, e4]
theorem r_loadsE (hW : WL1 Λ) (hR : RelR Λ m) (hL : WLo Λ B T) (hB : B ≤ 99999) (hx : x ≤ 2) (hbk : cpN 118 0 117 0 374 (pR Λ T m) = m2) : f_X11_loads_J90 (nI x) (smI S.2.2.2 (yD Λ)) (pR Λ T m) = some (ldA2 Λ S T x, m2) := by
  have h13 := hW.1
  have e1 := r_allLoads (m := m) hW hL
  have e2 := r_deadOnes (S := T) hR hW
  have e7 := r_copies (m := pR Λ T m) (p0 := 118) (p2 := 117) (a := 0) (b := 0) (by decide) (by decide) (by decide) (by decide) (by decide)
  rw [hbk] at e7
  have r80 : gI (pR Λ T m) 80 0 = nI (yD Λ) := by rw [pR_oth (by decide)]; exact hR.1
  have hle : ∀ d, d < 13 → ldF T d ≤ 99999 := fun d hd => by have := (lo_ix hL (by omega) hd).2; unfold ldF; omega
  have key : ∀ v5 v6, f_X11_loads_L116 FU (nI x) v5 v6 (nI 0) (nI 99999) (nI 0) (pR Λ T m) = some (if x = 0 then v5 else if x = 1 then v6 else imax (nI 0) (nI (mxN (ldF T) (yD Λ)) - nI (mnN (ldF T) 99999 (yD Λ))), m2) := fun v5 v6 => by
    refine lp0 (fun j d => f_X11_loads_L116 j (nI x) v5 v6 (nI (mxN (ldF T) d)) (nI (mnN (ldF T) 99999 d)) (nI d) (pR Λ T m)) (yD Λ) _ (fun j => ?_) (fun j d hd => ?_) (by omega)
    · have hx3 : x = 0 ∨ x = 1 ∨ x = 2 := by omega
      rcases hx3 with rfl | rfl | rfl
      · simp (maxSteps := 500000) (disch := first | assumption | omega) only [f_X11_loads_L116, q_l0, q_l1, q_l2, q_l3, q_l4, q_l5, q_l6, q_l7, q_l8, q_l9, q_l10, q_l11, q_l12, q_l13, q_l14, q_l15, q_l16, q_l20, q_l21, q_l22, q_l24, q_l25, q_l26, q_l27, q_l28, q_l29, q_l30, q_l31, q_l32, q_l40, q_l48, q_l57, q_l80, q_l97, q_l100, q_l120, q_l122, q_l126, q_l160, q_l200, q_l214, q_l255, q_l256, q_l374, q_l400, q_l999, q_l1000, q_l9999, q_l99, q_l99999, q_nm, q_gd, q_gd2, q_ix, q_lt, q_eq, q_m5a, q_m5b, q_m40b, q_m8a, q_m8b, q_m16b, q_m374b, q_m160b, q_m10a, q_div5, q_rem5, nI_add, q_moe, q_moe2, q_mol, q_mol2, q_mor, q_bd2, q_bd1, q_stI, q_oI0, if_true, if_false, ite_true, ite_false, ↓reduceIte, Nat.lt_irrefl, Nat.not_lt_zero, Nat.add_zero, Nat.zero_add, Nat.reduceEqDiff, Nat.reduceLeDiff, Nat.reduceLT, Nat.reduceAdd, Bool.false_eq_true, and_self, and_false, false_and, true_and, and_true, not_true_eq_false, not_false_eq_true, r80, e7]
      · simp (maxSteps := 500000) (disch := first | assumption | omega) only [f_X11_loads_L116, q_l0, q_l1, q_l2, q_l3, q_l4, q_l5, q_l6, q_l7, q_l8, q_l9, q_l10, q_l11, q_l12, q_l13, q_l14, q_l15, q_l16, q_l20, q_l21, q_l22, q_l24, q_l25, q_l26, q_l27, q_l28, q_l29, q_l30, q_l31, q_l32, q_l40, q_l48, q_l57, q_l80, q_l97, q_l100, q_l120, q_l122, q_l126, q_l160, q_l200, q_l214, q_l255, q_l256, q_l374, q_l400, q_l999, q_l1000, q_l9999, q_l99, q_l99999, q_nm, q_gd, q_gd2, q_ix, q_lt, q_eq, q_m5a, q_m5b, q_m40b, q_m8a, q_m8b, q_m16b, q_m374b, q_m160b, q_m10a, q_div5, q_rem5, nI_add, q_moe, q_moe2, q_mol, q_mol2, q_mor, q_bd2, q_bd1, q_stI, q_oI0, if_true, if_false, ite_true, ite_false, ↓reduceIte, Nat.lt_irrefl, Nat.not_lt_zero, Nat.add_zero, Nat.zero_add, Nat.reduceEqDiff, Nat.reduceLeDiff, Nat.reduceLT, Nat.reduceAdd, Bool.false_eq_true, and_self, and_false, false_and, true_and, and_true, not_true_eq_false, not_false_eq_true, r80, e7]
      · simp (maxSteps := 500000) (disch := first | assumption | omega) only [f_X11_loads_L116, q_l0, q_l1, q_l2, q_l3, q_l4, q_l5, q_l6, q_l7, q_l8, q_l9, q_l10, q_l11, q_l12, q_l13, q_l14, q_l15, q_l16, q_l20, q_l21, q_l22, q_l24, q_l25, q_l26, q_l27, q_l28, q_l29, q_l30, q_l31, q_l32, q_l40, q_l48, q_l57, q_l80, q_l97, q_l100, q_l120, q_l122, q_l126, q_l160, q_l200, q_l214, q_l255, q_l256, q_l374, q_l400, q_l999, q_l1000, q_l9999, q_l99, q_l99999, q_nm, q_gd, q_gd2, q_ix, q_lt, q_eq, q_m5a, q_m5b, q_m40b, q_m8a, q_m8b, q_m16b, q_m374b, q_m160b, q_m10a, q_div5, q_rem5, nI_add, q_moe, q_moe2, q_mol, q_mol2, q_mor, q_bd2, q_bd1, q_stI, q_oI0, if_true, if_false, ite_true, ite_false, ↓reduceIte, Nat.lt_irrefl, Nat.not_lt_zero, Nat.add_zero, Nat.zero_add, Nat.reduceEqDiff, Nat.reduceLeDiff, Nat.reduceLT, Nat.reduceAdd, Bool.false_eq_true, and_self, and_false, false_and, true_and, and_true, not_true_eq_false, not_false_eq_true, r80, e7]
    · have e5 := pR_lo (Λ := Λ) (S := T) (m := m) (d := d) (by omega)
      rw [(lo_ix hL (by omega) (show d < 13 by omega)).1] at e5
      have e5' : gI (pR Λ T m) 117 (1 + d) = nI (ldF T d) := e5
      have l1 := hle d (by omega)
      have q1 := mx_le (f := ldF T) (n := d) (c := 99999) (fun i hi => hle i (by omega))
      have q2 := mn_le (f := ldF T) (n := d) (c := 99999)
      simp (maxSteps := 500000) (disch := first | assumption | omega) only [f_X11_loads_L116, q_l0, q_l1, q_l2, q_l3, q_l4, q_l5, q_l6, q_l7, q_l8, q_l9, q_l10, q_l11, q_l12, q_l13, q_l14, q_l15, q_l16, q_l20, q_l21, q_l22, q_l24, q_l25, q_l26, q_l27, q_l28, q_l29, q_l30, q_l31, q_l32, q_l40, q_l48, q_l57, q_l80, q_l97, q_l100, q_l120, q_l122, q_l126, q_l160, q_l200, q_l214, q_l255, q_l256, q_l374, q_l400, q_l999, q_l1000, q_l9999, q_l99, q_l99999, q_nm, q_gd, q_gd2, q_ix, q_lt, q_eq, q_m5a, q_m5b, q_m40b, q_m8a, q_m8b, q_m16b, q_m374b, q_m160b, q_m10a, q_div5, q_rem5, nI_add, q_moe, q_moe2, q_mol, q_mol2, q_mor, q_bd2, q_bd1, q_stI, q_oI0, if_true, if_false, ite_true, ite_false, ↓reduceIte, Nat.lt_irrefl, Nat.not_lt_zero, Nat.add_zero, Nat.zero_add, Nat.reduceEqDiff, Nat.reduceLeDiff, Nat.reduceLT, Nat.reduceAdd, Bool.false_eq_true, and_self, and_false, false_and, true_and, and_true, not_true_eq_false, not_false_eq_true, r80, hd, e5', q_imax, q_imin, mxN, mnN]
  unfold f_X11_loads_J90
  rw [e1, q_bd2, e2, q_bd2, q_l0, q_l99999, key]
  unfold ldA2
  have hx3 : x = 0 ∨ x = 1 ∨ x = 2 := by omega
  rcases hx3 with rfl | rfl | rfl
  · rfl
  · rfl
  · by_cases hD : yD Λ = 0
    · rw [hD]
      have : imax (nI 0) (nI (mxN (ldF T) 0) - nI (mnN (ldF T) 99999 0)) = nI 0 := by
        show imax (nI 0) (nI 0 - nI 99999) = nI 0
        decide
      simp (maxSteps := 500000) (disch := first | assumption | omega) only [q_l0, q_l1, q_l2, q_l3, q_l4, q_l5, q_l6, q_l7, q_l8, q_l9, q_l10, q_l11, q_l12, q_l13, q_l14, q_l15, q_l16, q_l20, q_l21, q_l22, q_l24, q_l25, q_l26, q_l27, q_l28, q_l29, q_l30, q_l31, q_l32, q_l40, q_l48, q_l57, q_l80, q_l97, q_l100, q_l120, q_l122, q_l126, q_l160, q_l200, q_l214, q_l255, q_l256, q_l374, q_l400, q_l999, q_l1000, q_l9999, q_l99, q_l99999, q_nm, q_gd, q_gd2, q_ix, q_lt, q_eq, q_m5a, q_m5b, q_m40b, q_m8a, q_m8b, q_m16b, q_m374b, q_m160b, q_m10a, q_div5, q_rem5, nI_add, q_moe, q_moe2, q_mol, q_mol2, q_mor, q_bd2, q_bd1, q_stI, q_oI0, if_true, if_false, ite_true, ite_false, ↓reduceIte, Nat.lt_irrefl, Nat.not_lt_zero, Nat.add_zero, Nat.zero_add, Nat.reduceEqDiff, Nat.reduceLeDiff, Nat.reduceLT, Nat.reduceAdd, Bool.false_eq_true, and_self, and_false, false_and, true_and, and_true, not_true_eq_false, not_false_eq_true, this]
    · have hD0 : (yD Λ = 0) = False := eq_false hD
      have hm := mn_first (f := ldF T) (c := 99999) (n := yD Λ) (hle 0 (by omega)) (by omega)
      have hx9 := mx_le (f := ldF T) (n := yD Λ) (c := 99999) (fun i hi => hle i (by omega))
      have : imax (nI 0) (nI (mxN (ldF T) (yD Λ)) - nI (mnN (ldF T) 99999 (yD Λ))) = nI (mxN (ldF T) (yD Λ)) - nI (mnN (ldF T) 99999 (yD Λ)) := by
        rw [pk_sub (by omega), q_imax (by omega) (by omega)]
        by_cases h : 0 < mxN (ldF T) (yD Λ) - mnN (ldF T) 99999 (yD Λ)
        · rw [if_pos h]
        · have e0 : mxN (ldF T) (yD Λ) - mnN (ldF T) 99999 (yD Λ) = 0 := by omega
          rw [if_neg h, e0]
      simp (maxSteps := 500000) (disch := first | assumption | omega) only [q_l0, q_l1, q_l2, q_l3, q_l4, q_l5, q_l6, q_l7, q_l8, q_l9, q_l10, q_l11, q_l12, q_l13, q_l14, q_l15, q_l16, q_l20, q_l21, q_l22, q_l24, q_l25, q_l26, q_l27, q_l28, q_l29, q_l30, q_l31, q_l32, q_l40, q_l48, q_l57, q_l80, q_l97, q_l100, q_l120, q_l122, q_l126, q_l160, q_l200, q_l214, q_l255, q_l256, q_l374, q_l400, q_l999, q_l1000, q_l9999, q_l99, q_l99999, q_nm, q_gd, q_gd2, q_ix, q_lt, q_eq, q_m5a, q_m5b, q_m40b, q_m8a, q_m8b, q_m16b, q_m374b, q_m160b, q_m10a, q_div5, q_rem5, nI_add, q_moe, q_moe2, q_mol, q_mol2, q_mor, q_bd2, q_bd1, q_stI, q_oI0, if_true, if_false, ite_true, ite_false, ↓reduceIte, Nat.lt_irrefl, Nat.not_lt_zero, Nat.add_zero, Nat.zero_add, Nat.reduceEqDiff, Nat.reduceLeDiff, Nat.reduceLT, Nat.reduceAdd, Bool.false_eq_true, and_self, and_false, false_and, true_and, and_true, not_true_eq_false, not_false_eq_true, hD0, this]
end Ld2
