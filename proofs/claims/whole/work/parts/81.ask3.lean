/-! MATH HALF: who, ask, see, would as calls -/
/-- how many of a set a datum is dearer by -/
def skC (Λ : Lv) (S : Sv) (W i n : Nat) : Nat := ct (fun d => W.testBit d = true ∧ drP Λ S d i) n
def lfN (Λ : Lv) (S : Sv) (W i : Nat) : Nat := if skC Λ S W i (yD Λ) < pc W - skC Λ S W i (yD Λ) then pc W - skC Λ S W i (yD Λ) else skC Λ S W i (yD Λ)
/-- the least so far, the datum (one more) by which -/
def bqN (Λ : Lv) (S : Sv) (W : Nat) : Nat → Nat × Nat
  | 0 => (pc W, 0)
  | n + 1 => if lfN Λ S W n < (bqN Λ S W n).1 then (lfN Λ S W n, n + 1) else bqN Λ S W n
section Ask3
variable {Λ T : Lv} {a b x k d o n i N K z c B t u w v p s q M W : Nat} {D : Nat → Nat} {S : Sv} {m m2 m3 : Mm} {x1 x2 x3 st : Int32} {g : Nat → Int32}
theorem who_bit : (whoB Λ S s D M n).testBit d = true ↔ (d < n ∧ upP S d ∧ fitP Λ S s D M d) := lb_bit _ _ _
theorem who_lt (hn : n ≤ 13) : whoB Λ S s D M n < 8192 := by
  have h := lb_lt (fun d => upP S d ∧ fitP Λ S s D M d) n
  have h2 : 2 ^ n ≤ 2 ^ 13 := Nat.pow_le_pow_right (by decide) hn
  unfold whoB
  omega
theorem SeenAt_wr (hb : b = 77 ∨ 117 < b) (ha : a ≤ 72 ∧ 54 ≤ a) (h : SeenAt Λ a z s D M m) : SeenAt Λ a z s D M (wr b g m) := by
  unfold SeenAt
  simp (disch := omega) only [wr_g]
  exact h
theorem SeenAt_th (ha : a ≤ 72 ∧ 54 ≤ a) (h : SeenAt Λ a z s D M m) : SeenAt Λ a z s D M (th m) := by
  unfold SeenAt
  simp (disch := omega) only [th_g]
  exact h
theorem r_seen (hs : SeenAt Λ 54 0 s D M m) (hW : WL1 Λ) (hd : d < yD Λ) (hr : ∀ i, i < yX Λ → gI m 124 (160 * d + i) = nI (if drP Λ S d i then 1 else 0)) : f_X11_isAsSeen (nI d) m = some (nI (if fitP Λ S s D M d then 1 else 0), m) := by
  obtain ⟨s8, hM, _, _, e114, hx⟩ := hs
  have h160 := hW.2.2.1
  have h13 := hW.1
  have hst : ∀ j i, i < s → f_X11_isAsSeen_L2 (j + 1) (nI d) (nI i) m = if (drP Λ S d (D i) ↔ M.testBit i = true) then f_X11_isAsSeen_L2 j (nI d) (nI (i + 1)) m else some (nI 0, m) := fun j i hi => by
    obtain ⟨d1, _, d2, d3⟩ := hx i hi
    have e := hr (D i) d1
    rw [show 8 * 0 + i = i from by omega] at d2 d3
    by_cases p1 : M.testBit i = true
    · rw [if_pos p1] at d3
      by_cases p2 : drP Λ S d (D i)
      · rw [if_pos p2] at e
        rw [if_pos ⟨fun _ => p1, fun _ => p2⟩]
        simp (maxSteps := 500000) (disch := first | assumption | omega) only [f_X11_isAsSeen_L2, q_l0, q_l1, q_l2, q_l3, q_l4, q_l5, q_l6, q_l7, q_l8, q_l9, q_l10, q_l11, q_l12, q_l13, q_l14, q_l15, q_l16, q_l20, q_l21, q_l22, q_l24, q_l25, q_l26, q_l27, q_l28, q_l29, q_l30, q_l31, q_l32, q_l40, q_l48, q_l57, q_l80, q_l97, q_l100, q_l120, q_l122, q_l126, q_l160, q_l200, q_l214, q_l255, q_l256, q_l374, q_l400, q_l999, q_l1000, q_l9999, q_l99, q_l99999, q_nm, q_gd, q_gd2, q_ix, q_lt, q_eq, q_m5a, q_m5b, q_m40b, q_m8a, q_m8b, q_m16b, q_m374b, q_m160b, q_m10a, q_div5, q_rem5, nI_add, q_moe, q_moe2, q_mol, q_mol2, q_mor, q_bd2, q_bd1, q_stI, q_oI0, if_true, if_false, ite_true, ite_false, ↓reduceIte, Nat.lt_irrefl, Nat.not_lt_zero, Nat.add_zero, Nat.zero_add, Nat.reduceEqDiff, Nat.reduceLeDiff, Nat.reduceLT, Nat.reduceAdd, Bool.false_eq_true, and_self, and_false, false_and, true_and, and_true, not_true_eq_false, not_false_eq_true, e114, hi, d2, d3, e]
      · rw [if_neg p2] at e
        rw [if_neg (fun h => p2 (h.mpr p1))]
        simp (maxSteps := 500000) (disch := first | assumption | omega) only [f_X11_isAsSeen_L2, q_l0, q_l1, q_l2, q_l3, q_l4, q_l5, q_l6, q_l7, q_l8, q_l9, q_l10, q_l11, q_l12, q_l13, q_l14, q_l15, q_l16, q_l20, q_l21, q_l22, q_l24, q_l25, q_l26, q_l27, q_l28, q_l29, q_l30, q_l31, q_l32, q_l40, q_l48, q_l57, q_l80, q_l97, q_l100, q_l120, q_l122, q_l126, q_l160, q_l200, q_l214, q_l255, q_l256, q_l374, q_l400, q_l999, q_l1000, q_l9999, q_l99, q_l99999, q_nm, q_gd, q_gd2, q_ix, q_lt, q_eq, q_m5a, q_m5b, q_m40b, q_m8a, q_m8b, q_m16b, q_m374b, q_m160b, q_m10a, q_div5, q_rem5, nI_add, q_moe, q_moe2, q_mol, q_mol2, q_mor, q_bd2, q_bd1, q_stI, q_oI0, if_true, if_false, ite_true, ite_false, ↓reduceIte, Nat.lt_irrefl, Nat.not_lt_zero, Nat.add_zero, Nat.zero_add, Nat.reduceEqDiff, Nat.reduceLeDiff, Nat.reduceLT, Nat.reduceAdd, Bool.false_eq_true, and_self, and_false, false_and, true_and, and_true, not_true_eq_false, not_false_eq_true, e114, hi, d2, d3, e]
    · rw [if_neg p1] at d3
      by_cases p2 : drP Λ S d (D i)
      · rw [if_pos p2] at e
        rw [if_neg (fun h => p1 (h.mp p2))]
        simp (maxSteps := 500000) (disch := first | assumption | omega) only [f_X11_isAsSeen_L2, q_l0, q_l1, q_l2, q_l3, q_l4, q_l5, q_l6, q_l7, q_l8, q_l9, q_l10, q_l11, q_l12, q_l13, q_l14, q_l15, q_l16, q_l20, q_l21, q_l22, q_l24, q_l25, q_l26, q_l27, q_l28, q_l29, q_l30, q_l31, q_l32, q_l40, q_l48, q_l57, q_l80, q_l97, q_l100, q_l120, q_l122, q_l126, q_l160, q_l200, q_l214, q_l255, q_l256, q_l374, q_l400, q_l999, q_l1000, q_l9999, q_l99, q_l99999, q_nm, q_gd, q_gd2, q_ix, q_lt, q_eq, q_m5a, q_m5b, q_m40b, q_m8a, q_m8b, q_m16b, q_m374b, q_m160b, q_m10a, q_div5, q_rem5, nI_add, q_moe, q_moe2, q_mol, q_mol2, q_mor, q_bd2, q_bd1, q_stI, q_oI0, if_true, if_false, ite_true, ite_false, ↓reduceIte, Nat.lt_irrefl, Nat.not_lt_zero, Nat.add_zero, Nat.zero_add, Nat.reduceEqDiff, Nat.reduceLeDiff, Nat.reduceLT, Nat.reduceAdd, Bool.false_eq_true, and_self, and_false, false_and, true_and, and_true, not_true_eq_false, not_false_eq_true, e114, hi, d2, d3, e]
      · rw [if_neg p2] at e
        rw [if_pos ⟨fun h => absurd h p2, fun h => absurd h p1⟩]
        simp (maxSteps := 500000) (disch := first | assumption | omega) only [f_X11_isAsSeen_L2, q_l0, q_l1, q_l2, q_l3, q_l4, q_l5, q_l6, q_l7, q_l8, q_l9, q_l10, q_l11, q_l12, q_l13, q_l14, q_l15, q_l16, q_l20, q_l21, q_l22, q_l24, q_l25, q_l26, q_l27, q_l28, q_l29, q_l30, q_l31, q_l32, q_l40, q_l48, q_l57, q_l80, q_l97, q_l100, q_l120, q_l122, q_l126, q_l160, q_l200, q_l214, q_l255, q_l256, q_l374, q_l400, q_l999, q_l1000, q_l9999, q_l99, q_l99999, q_nm, q_gd, q_gd2, q_ix, q_lt, q_eq, q_m5a, q_m5b, q_m40b, q_m8a, q_m8b, q_m16b, q_m374b, q_m160b, q_m10a, q_div5, q_rem5, nI_add, q_moe, q_moe2, q_mol, q_mol2, q_mor, q_bd2, q_bd1, q_stI, q_oI0, if_true, if_false, ite_true, ite_false, ↓reduceIte, Nat.lt_irrefl, Nat.not_lt_zero, Nat.add_zero, Nat.zero_add, Nat.reduceEqDiff, Nat.reduceLeDiff, Nat.reduceLT, Nat.reduceAdd, Bool.false_eq_true, and_self, and_false, false_and, true_and, and_true, not_true_eq_false, not_false_eq_true, e114, hi, d2, d3, e]
  have hl := lpx (fun j i => f_X11_isAsSeen_L2 j (nI d) (nI i) m) (fun i => ¬ (drP Λ S d (D i) ↔ M.testBit i = true)) 0 s (some (nI 0, m)) (some (nI 1, m)) (by omega) (by omega) (fun j => by
    simp (maxSteps := 500000) (disch := first | assumption | omega) only [f_X11_isAsSeen_L2, q_l0, q_l1, q_l2, q_l3, q_l4, q_l5, q_l6, q_l7, q_l8, q_l9, q_l10, q_l11, q_l12, q_l13, q_l14, q_l15, q_l16, q_l20, q_l21, q_l22, q_l24, q_l25, q_l26, q_l27, q_l28, q_l29, q_l30, q_l31, q_l32, q_l40, q_l48, q_l57, q_l80, q_l97, q_l100, q_l120, q_l122, q_l126, q_l160, q_l200, q_l214, q_l255, q_l256, q_l374, q_l400, q_l999, q_l1000, q_l9999, q_l99, q_l99999, q_nm, q_gd, q_gd2, q_ix, q_lt, q_eq, q_m5a, q_m5b, q_m40b, q_m8a, q_m8b, q_m16b, q_m374b, q_m160b, q_m10a, q_div5, q_rem5, nI_add, q_moe, q_moe2, q_mol, q_mol2, q_mor, q_bd2, q_bd1, q_stI, q_oI0, if_true, if_false, ite_true, ite_false, ↓reduceIte, Nat.lt_irrefl, Nat.not_lt_zero, Nat.add_zero, Nat.zero_add, Nat.reduceEqDiff, Nat.reduceLeDiff, Nat.reduceLT, Nat.reduceAdd, Bool.false_eq_true, and_self, and_false, false_and, true_and, and_true, not_true_eq_false, not_false_eq_true, e114]) (fun j i _ hi hp => by
    rw [hst j i hi, if_neg hp]) (fun j i _ hi hp => by
    rw [hst j i hi, if_pos (Classical.byContradiction hp)])
  unfold f_X11_isAsSeen
  rw [q_l0]
  by_cases hf : fitP Λ S s D M d
  · rw [if_pos hf]
    exact hl.2 (fun i _ hi hp => hp (hf i hi))
  · rw [if_neg hf]
    refine hl.1 (Classical.byContradiction fun hn => hf (fun i hi => Classical.byContradiction fun hp => hn ⟨i, by omega, hi, hp⟩))
theorem r_who (h : Hq Λ S m) (hW : WL1 Λ) (hs : SeenAt Λ 54 0 s D M m) (hr : ∀ d, d < yD Λ → upP S d → ∀ i, i < yX Λ → gI m 124 (160 * d + i) = nI (if drP Λ S d i then 1 else 0)) : f_X11_who_L13 FU (nI 0) (nI 0) m = some (nI (whoB Λ S s D M (yD Λ)), m) := by
  have r80 := h.2.1.1
  have h13 := hW.1
  refine lp0 (fun j d => f_X11_who_L13 j (nI (whoB Λ S s D M d)) (nI d) m) (yD Λ) _ (fun j => ?_) (fun j d hd => ?_) (by omega)
  · simp (maxSteps := 500000) (disch := first | assumption | omega) only [f_X11_who_L13, q_l0, q_l1, q_l2, q_l3, q_l4, q_l5, q_l6, q_l7, q_l8, q_l9, q_l10, q_l11, q_l12, q_l13, q_l14, q_l15, q_l16, q_l20, q_l21, q_l22, q_l24, q_l25, q_l26, q_l27, q_l28, q_l29, q_l30, q_l31, q_l32, q_l40, q_l48, q_l57, q_l80, q_l97, q_l100, q_l120, q_l122, q_l126, q_l160, q_l200, q_l214, q_l255, q_l256, q_l374, q_l400, q_l999, q_l1000, q_l9999, q_l99, q_l99999, q_nm, q_gd, q_gd2, q_ix, q_lt, q_eq, q_m5a, q_m5b, q_m40b, q_m8a, q_m8b, q_m16b, q_m374b, q_m160b, q_m10a, q_div5, q_rem5, nI_add, q_moe, q_moe2, q_mol, q_mol2, q_mor, q_bd2, q_bd1, q_stI, q_oI0, if_true, if_false, ite_true, ite_false, ↓reduceIte, Nat.lt_irrefl, Nat.not_lt_zero, Nat.add_zero, Nat.zero_add, Nat.reduceEqDiff, Nat.reduceLeDiff, Nat.reduceLT, Nat.reduceAdd, Bool.false_eq_true, and_self, and_false, false_and, true_and, and_true, not_true_eq_false, not_false_eq_true, r80]
  · have e1 := rUp h (d := d) (by omega)
    by_cases p1 : upP S d
    · rw [if_pos p1] at e1
      have e2 := r_seen hs hW hd (hr d hd p1)
      by_cases p2 : fitP Λ S s D M d
      · rw [if_pos p2] at e2
        simp (maxSteps := 500000) (disch := first | assumption | omega) only [f_X11_who_L13, q_l0, q_l1, q_l2, q_l3, q_l4, q_l5, q_l6, q_l7, q_l8, q_l9, q_l10, q_l11, q_l12, q_l13, q_l14, q_l15, q_l16, q_l20, q_l21, q_l22, q_l24, q_l25, q_l26, q_l27, q_l28, q_l29, q_l30, q_l31, q_l32, q_l40, q_l48, q_l57, q_l80, q_l97, q_l100, q_l120, q_l122, q_l126, q_l160, q_l200, q_l214, q_l255, q_l256, q_l374, q_l400, q_l999, q_l1000, q_l9999, q_l99, q_l99999, q_nm, q_gd, q_gd2, q_ix, q_lt, q_eq, q_m5a, q_m5b, q_m40b, q_m8a, q_m8b, q_m16b, q_m374b, q_m160b, q_m10a, q_div5, q_rem5, nI_add, q_moe, q_moe2, q_mol, q_mol2, q_mor, q_bd2, q_bd1, q_stI, q_oI0, if_true, if_false, ite_true, ite_false, ↓reduceIte, Nat.lt_irrefl, Nat.not_lt_zero, Nat.add_zero, Nat.zero_add, Nat.reduceEqDiff, Nat.reduceLeDiff, Nat.reduceLT, Nat.reduceAdd, Bool.false_eq_true, and_self, and_false, false_and, true_and, and_true, not_true_eq_false, not_false_eq_true, r80, hd, e1, e2, q_shl, q_or, whoB, lb]
        rw [if_pos ⟨p1, p2⟩]
      · rw [if_neg p2] at e2
        simp (maxSteps := 500000) (disch := first | assumption | omega) only [f_X11_who_L13, q_l0, q_l1, q_l2, q_l3, q_l4, q_l5, q_l6, q_l7, q_l8, q_l9, q_l10, q_l11, q_l12, q_l13, q_l14, q_l15, q_l16, q_l20, q_l21, q_l22, q_l24, q_l25, q_l26, q_l27, q_l28, q_l29, q_l30, q_l31, q_l32, q_l40, q_l48, q_l57, q_l80, q_l97, q_l100, q_l120, q_l122, q_l126, q_l160, q_l200, q_l214, q_l255, q_l256, q_l374, q_l400, q_l999, q_l1000, q_l9999, q_l99, q_l99999, q_nm, q_gd, q_gd2, q_ix, q_lt, q_eq, q_m5a, q_m5b, q_m40b, q_m8a, q_m8b, q_m16b, q_m374b, q_m160b, q_m10a, q_div5, q_rem5, nI_add, q_moe, q_moe2, q_mol, q_mol2, q_mor, q_bd2, q_bd1, q_stI, q_oI0, if_true, if_false, ite_true, ite_false, ↓reduceIte, Nat.lt_irrefl, Nat.not_lt_zero, Nat.add_zero, Nat.zero_add, Nat.reduceEqDiff, Nat.reduceLeDiff, Nat.reduceLT, Nat.reduceAdd, Bool.false_eq_true, and_self, and_false, false_and, true_and, and_true, not_true_eq_false, not_false_eq_true, r80, hd, e1, e2, q_or, Nat.or_zero, whoB, lb]
        rw [if_neg (fun h => p2 h.2)]
    · rw [if_neg p1] at e1
      simp (maxSteps := 500000) (disch := first | assumption | omega) only [f_X11_who_L13, q_l0, q_l1, q_l2, q_l3, q_l4, q_l5, q_l6, q_l7, q_l8, q_l9, q_l10, q_l11, q_l12, q_l13, q_l14, q_l15, q_l16, q_l20, q_l21, q_l22, q_l24, q_l25, q_l26, q_l27, q_l28, q_l29, q_l30, q_l31, q_l32, q_l40, q_l48, q_l57, q_l80, q_l97, q_l100, q_l120, q_l122, q_l126, q_l160, q_l200, q_l214, q_l255, q_l256, q_l374, q_l400, q_l999, q_l1000, q_l9999, q_l99, q_l99999, q_nm, q_gd, q_gd2, q_ix, q_lt, q_eq, q_m5a, q_m5b, q_m40b, q_m8a, q_m8b, q_m16b, q_m374b, q_m160b, q_m10a, q_div5, q_rem5, nI_add, q_moe, q_moe2, q_mol, q_mol2, q_mor, q_bd2, q_bd1, q_stI, q_oI0, if_true, if_false, ite_true, ite_false, ↓reduceIte, Nat.lt_irrefl, Nat.not_lt_zero, Nat.add_zero, Nat.zero_add, Nat.reduceEqDiff, Nat.reduceLeDiff, Nat.reduceLT, Nat.reduceAdd, Bool.false_eq_true, and_self, and_false, false_and, true_and, and_true, not_true_eq_false, not_false_eq_true, r80, hd, e1, q_or, Nat.or_zero, whoB, lb]
      rw [if_neg (fun h => p1 h.1)]
theorem r_whoA (h : Hq Λ S m) (hW : WL1 Λ) (hW2 : WL2 Λ) (h3 : WL3 Λ) (hS : WS Λ S) (hs : SeenAt Λ 54 0 s D M m) : ∃ g1 g2, f_X11_who m = some (nI (whoB Λ S s D M (yD Λ)), wr 124 g2 (wr 119 g1 (th m))) ∧ ∀ d, d < yD Λ → upP S d → ∀ i, i < yX Λ → g2 (160 * d + i) = nI (if drP Λ S d i then 1 else 0) := by
  obtain ⟨g1, g2, e, hr⟩ := r_laysDearer (Hq_th h) hW hW2 h3 hS
  refine ⟨g1, g2, ?_, hr⟩
  have hq := Hq_wr (b := 124) (g := g2) (by omega) (Hq_wr (b := 119) (g := g1) (by omega) (Hq_th h))
  have hs2 := SeenAt_wr (b := 124) (g := g2) (by omega) (by omega) (SeenAt_wr (b := 119) (g := g1) (by omega) (by omega) (SeenAt_th (by omega) hs))
  have e2 := r_who hq hW hs2 (fun d hd hu i hi => by rw [wr_s]; exact hr d hd hu i hi)
  unfold f_X11_who
  rw [q_stI, q_th, e, q_bd1, q_l0]
  exact e2
theorem a_who (h : Hq Λ S m) (hW : WL1 Λ) (hW2 : WL2 Λ) (h3 : WL3 Λ) (hS : WS Λ S) (hA : WA Λ S) (hs : SeenAt Λ 54 0 s D M m) : ∃ r m2, f_X10_who t u w v m = some (r, m) ∧ f_X11_who m = some (r, m2) ∧ Sc m m2 := by
  obtain ⟨g1, g2, e, hr⟩ := r_whoA h hW hW2 h3 hS hs
  refine ⟨nI (whoB Λ S s D M (yD Λ)), _, ?_, e, Sc_tr Sc_th (Sc_tr (Sc_wr (by omega)) (Sc_wr (by omega)))⟩
  unfold f_X10_who
  rw [c_suspects h hW hW2 h3 hS hA hs, q_bd2]
theorem skC_le (hn : n ≤ 13) : skC Λ S W i n ≤ pc W := by
  unfold skC pc
  have h1 : ct (fun d => W.testBit d = true ∧ drP Λ S d i) n ≤ ct (fun d => W.testBit d = true) n := ct_imp_le (fun j _ h => h.1)
  have h2 : ct (fun d => W.testBit d = true) (n + (13 - n)) = _ := ct_add
  rw [show n + (13 - n) = 13 from by omega] at h2
  omega
theorem pc_le : pc W ≤ 13 := ct_le _ _
theorem lf_le (hn : yD Λ ≤ 13) : lfN Λ S W i ≤ 13 := by
  have h1 := skC_le (Λ := Λ) (S := S) (W := W) (i := i) hn
  have h2 := pc_le (W := W)
  unfold lfN
  split <;> omega
theorem bq_le (hn : yD Λ ≤ 13) : (bqN Λ S W n).1 ≤ 13 ∧ (bqN Λ S W n).2 ≤ n := by
  induction n with
  | zero => exact ⟨pc_le, Nat.le_refl _⟩
  | succ n ih =>
    have h1 := lf_le (Λ := Λ) (S := S) (W := W) (i := n) hn
    unfold bqN
    split
    · exact ⟨h1, Nat.le_refl _⟩
    · exact ⟨ih.1, by omega⟩
theorem c_leftBy (h : Hq Λ S m) (hW : WL1 Λ) (hW2 : WL2 Λ) (h3 : WL3 Λ) (hS : WS Λ S) (hA : WA Λ S) (hw : W < 8192) (hi : i < yX Λ) : f_X5_leftBy (nI i) (nI W) m = some (nI (lfN Λ S W i), m) := by
  have c0 := h.1.1
  have h13 := hW.1
  have hsk := skC_le (Λ := Λ) (S := S) (W := W) (i := i) h13
  have hpc := pc_le (W := W)
  refine lp0 (fun j d => f_X5_leftBy_L5 j (nI i) (nI W) (nI (skC Λ S W i d)) (nI d) m) (yD Λ) _ (fun j => ?_) (fun j d hd => ?_) (by omega)
  · simp (maxSteps := 500000) (disch := first | assumption | omega) only [f_X5_leftBy_L5, q_l0, q_l1, q_l2, q_l3, q_l4, q_l5, q_l6, q_l7, q_l8, q_l9, q_l10, q_l11, q_l12, q_l13, q_l14, q_l15, q_l16, q_l20, q_l21, q_l22, q_l24, q_l25, q_l26, q_l27, q_l28, q_l29, q_l30, q_l31, q_l32, q_l40, q_l48, q_l57, q_l80, q_l97, q_l100, q_l120, q_l122, q_l126, q_l160, q_l200, q_l214, q_l255, q_l256, q_l374, q_l400, q_l999, q_l1000, q_l9999, q_l99, q_l99999, q_nm, q_gd, q_gd2, q_ix, q_lt, q_eq, q_m5a, q_m5b, q_m40b, q_m8a, q_m8b, q_m16b, q_m374b, q_m160b, q_m10a, q_div5, q_rem5, nI_add, q_moe, q_moe2, q_mol, q_mol2, q_mor, q_bd2, q_bd1, q_stI, q_oI0, if_true, if_false, ite_true, ite_false, ↓reduceIte, Nat.lt_irrefl, Nat.not_lt_zero, Nat.add_zero, Nat.zero_add, Nat.reduceEqDiff, Nat.reduceLeDiff, Nat.reduceLT, Nat.reduceAdd, Bool.false_eq_true, and_self, and_false, false_and, true_and, and_true, not_true_eq_false, not_false_eq_true, c0, f_bc, bc_pc W hw, pk_sub hsk, q_imax]
    rfl
  · have e := c_dearer h hW hW2 h3 hS hA hd hi
    have t1 := q_tb (s := W) (d := d) (by omega) (by omega)
    have hc : skC Λ S W i d ≤ d := ct_le _ _
    by_cases p1 : W.testBit d = true
    · rw [if_pos p1] at t1
      by_cases p2 : drP Λ S d i
      · rw [if_pos p2] at e
        simp (maxSteps := 500000) (disch := first | assumption | omega) only [f_X5_leftBy_L5, q_l0, q_l1, q_l2, q_l3, q_l4, q_l5, q_l6, q_l7, q_l8, q_l9, q_l10, q_l11, q_l12, q_l13, q_l14, q_l15, q_l16, q_l20, q_l21, q_l22, q_l24, q_l25, q_l26, q_l27, q_l28, q_l29, q_l30, q_l31, q_l32, q_l40, q_l48, q_l57, q_l80, q_l97, q_l100, q_l120, q_l122, q_l126, q_l160, q_l200, q_l214, q_l255, q_l256, q_l374, q_l400, q_l999, q_l1000, q_l9999, q_l99, q_l99999, q_nm, q_gd, q_gd2, q_ix, q_lt, q_eq, q_m5a, q_m5b, q_m40b, q_m8a, q_m8b, q_m16b, q_m374b, q_m160b, q_m10a, q_div5, q_rem5, nI_add, q_moe, q_moe2, q_mol, q_mol2, q_mor, q_bd2, q_bd1, q_stI, q_oI0, if_true, if_false, ite_true, ite_false, ↓reduceIte, Nat.lt_irrefl, Nat.not_lt_zero, Nat.add_zero, Nat.zero_add, Nat.reduceEqDiff, Nat.reduceLeDiff, Nat.reduceLT, Nat.reduceAdd, Bool.false_eq_true, and_self, and_false, false_and, true_and, and_true, not_true_eq_false, not_false_eq_true, c0, hd, t1, e, skC, ct]
        rw [if_pos ⟨p1, p2⟩]
      · rw [if_neg p2] at e
        simp (maxSteps := 500000) (disch := first | assumption | omega) only [f_X5_leftBy_L5, q_l0, q_l1, q_l2, q_l3, q_l4, q_l5, q_l6, q_l7, q_l8, q_l9, q_l10, q_l11, q_l12, q_l13, q_l14, q_l15, q_l16, q_l20, q_l21, q_l22, q_l24, q_l25, q_l26, q_l27, q_l28, q_l29, q_l30, q_l31, q_l32, q_l40, q_l48, q_l57, q_l80, q_l97, q_l100, q_l120, q_l122, q_l126, q_l160, q_l200, q_l214, q_l255, q_l256, q_l374, q_l400, q_l999, q_l1000, q_l9999, q_l99, q_l99999, q_nm, q_gd, q_gd2, q_ix, q_lt, q_eq, q_m5a, q_m5b, q_m40b, q_m8a, q_m8b, q_m16b, q_m374b, q_m160b, q_m10a, q_div5, q_rem5, nI_add, q_moe, q_moe2, q_mol, q_mol2, q_mor, q_bd2, q_bd1, q_stI, q_oI0, if_true, if_false, ite_true, ite_false, ↓reduceIte, Nat.lt_irrefl, Nat.not_lt_zero, Nat.add_zero, Nat.zero_add, Nat.reduceEqDiff, Nat.reduceLeDiff, Nat.reduceLT, Nat.reduceAdd, Bool.false_eq_true, and_self, and_false, false_and, true_and, and_true, not_true_eq_false, not_false_eq_true, c0, hd, t1, e, skC, ct]
        rw [if_neg (fun h => p2 h.2)]; rfl
    · rw [if_neg p1] at t1
      simp (maxSteps := 500000) (disch := first | assumption | omega) only [f_X5_leftBy_L5, q_l0, q_l1, q_l2, q_l3, q_l4, q_l5, q_l6, q_l7, q_l8, q_l9, q_l10, q_l11, q_l12, q_l13, q_l14, q_l15, q_l16, q_l20, q_l21, q_l22, q_l24, q_l25, q_l26, q_l27, q_l28, q_l29, q_l30, q_l31, q_l32, q_l40, q_l48, q_l57, q_l80, q_l97, q_l100, q_l120, q_l122, q_l126, q_l160, q_l200, q_l214, q_l255, q_l256, q_l374, q_l400, q_l999, q_l1000, q_l9999, q_l99, q_l99999, q_nm, q_gd, q_gd2, q_ix, q_lt, q_eq, q_m5a, q_m5b, q_m40b, q_m8a, q_m8b, q_m16b, q_m374b, q_m160b, q_m10a, q_div5, q_rem5, nI_add, q_moe, q_moe2, q_mol, q_mol2, q_mor, q_bd2, q_bd1, q_stI, q_oI0, if_true, if_false, ite_true, ite_false, ↓reduceIte, Nat.lt_irrefl, Nat.not_lt_zero, Nat.add_zero, Nat.zero_add, Nat.reduceEqDiff, Nat.reduceLeDiff, Nat.reduceLT, Nat.reduceAdd, Bool.false_eq_true, and_self, and_false, false_and, true_and, and_true, not_true_eq_false, not_false_eq_true, c0, hd, t1, skC, ct]
      rw [if_neg (fun h => p1 h.1)]; rfl
theorem a_ask (h : Hq Λ S m) (hW : WL1 Λ) (hW2 : WL2 Λ) (h3 : WL3 Λ) (hS : WS Λ S) (hA : WA Λ S) (hs : SeenAt Λ 54 0 s D M m) : ∃ r m2, f_X10_ask t u w v m = some (r, m) ∧ f_X11_ask m = some (r, m2) ∧ Sc m m2 := by
  have h13 := hW.1
  have h160 := hW.2.2.1
  obtain ⟨g1, g2, e, hr⟩ := r_whoA (Hq_th h) hW hW2 h3 hS (SeenAt_th (by omega) hs)
  have hwho := who_lt (Λ := Λ) (S := S) (s := s) (D := D) (M := M) h13
  have hwb : ∀ d, (whoB Λ S s D M (yD Λ)).testBit d = true → d < yD Λ ∧ upP S d := fun d hd => ⟨(who_bit.mp hd).1, (who_bit.mp hd).2.1⟩
  have ec := c_suspects h hW hW2 h3 hS hA hs
  generalize whoB Λ S s D M (yD Λ) = W at hwho hwb ec e
  have hq := Hq_wr (b := 124) (g := g2) (by omega) (Hq_wr (b := 119) (g := g1) (by omega) (Hq_th (Hq_th h)))
  have hsc : Sc m (wr 124 g2 (wr 119 g1 (th (th m)))) := Sc_tr Sc_th (Sc_tr Sc_th (Sc_tr (Sc_wr (by omega)) (Sc_wr (by omega))))
  have hr2 : ∀ d, W.testBit d = true → ∀ i, i < yX Λ → gI (wr 124 g2 (wr 119 g1 (th (th m)))) 124 (160 * d + i) = nI (if drP Λ S d i then 1 else 0) := fun d hd i hi => by
    rw [wr_s]
    exact hr d (hwb d hd).1 (hwb d hd).2 i hi
  generalize wr 124 g2 (wr 119 g1 (th (th m))) = M2 at hq hsc hr2 e
  have hpc := pc_le (W := W)
  refine ⟨oI (bqN Λ S W (yX Λ)).2, M2, ?_, ?_, hsc⟩
  · unfold f_X10_ask f_X5_bestQuestion
    have c2 := h.1.2.2.1
    have hl := lp0 (fun j i => f_X5_bestQuestion_L15 j (nI W) (nI (bqN Λ S W i).1) (oI (bqN Λ S W i).2) (nI i) m) (yX Λ) (some (oI (bqN Λ S W (yX Λ)).2, m)) (fun j => by
      simp (maxSteps := 500000) (disch := first | assumption | omega) only [f_X5_bestQuestion_L15, q_l0, q_l1, q_l2, q_l3, q_l4, q_l5, q_l6, q_l7, q_l8, q_l9, q_l10, q_l11, q_l12, q_l13, q_l14, q_l15, q_l16, q_l20, q_l21, q_l22, q_l24, q_l25, q_l26, q_l27, q_l28, q_l29, q_l30, q_l31, q_l32, q_l40, q_l48, q_l57, q_l80, q_l97, q_l100, q_l120, q_l122, q_l126, q_l160, q_l200, q_l214, q_l255, q_l256, q_l374, q_l400, q_l999, q_l1000, q_l9999, q_l99, q_l99999, q_nm, q_gd, q_gd2, q_ix, q_lt, q_eq, q_m5a, q_m5b, q_m40b, q_m8a, q_m8b, q_m16b, q_m374b, q_m160b, q_m10a, q_div5, q_rem5, nI_add, q_moe, q_moe2, q_mol, q_mol2, q_mor, q_bd2, q_bd1, q_stI, q_oI0, if_true, if_false, ite_true, ite_false, ↓reduceIte, Nat.lt_irrefl, Nat.not_lt_zero, Nat.add_zero, Nat.zero_add, Nat.reduceEqDiff, Nat.reduceLeDiff, Nat.reduceLT, Nat.reduceAdd, Bool.false_eq_true, and_self, and_false, false_and, true_and, and_true, not_true_eq_false, not_false_eq_true, c2]) (fun j i hi => by
      have e1 := c_leftBy h hW hW2 h3 hS hA hwho hi
      have l1 := lf_le (Λ := Λ) (S := S) (W := W) (i := i) h13
      have l2 := (bq_le (Λ := Λ) (S := S) (W := W) (n := i) h13).1
      by_cases p : lfN Λ S W i < (bqN Λ S W i).1
      · simp (maxSteps := 500000) (disch := first | assumption | omega) only [f_X5_bestQuestion_L15, q_l0, q_l1, q_l2, q_l3, q_l4, q_l5, q_l6, q_l7, q_l8, q_l9, q_l10, q_l11, q_l12, q_l13, q_l14, q_l15, q_l16, q_l20, q_l21, q_l22, q_l24, q_l25, q_l26, q_l27, q_l28, q_l29, q_l30, q_l31, q_l32, q_l40, q_l48, q_l57, q_l80, q_l97, q_l100, q_l120, q_l122, q_l126, q_l160, q_l200, q_l214, q_l255, q_l256, q_l374, q_l400, q_l999, q_l1000, q_l9999, q_l99, q_l99999, q_nm, q_gd, q_gd2, q_ix, q_lt, q_eq, q_m5a, q_m5b, q_m40b, q_m8a, q_m8b, q_m16b, q_m374b, q_m160b, q_m10a, q_div5, q_rem5, nI_add, q_moe, q_moe2, q_mol, q_mol2, q_mor, q_bd2, q_bd1, q_stI, q_oI0, if_true, if_false, ite_true, ite_false, ↓reduceIte, Nat.lt_irrefl, Nat.not_lt_zero, Nat.add_zero, Nat.zero_add, Nat.reduceEqDiff, Nat.reduceLeDiff, Nat.reduceLT, Nat.reduceAdd, Bool.false_eq_true, and_self, and_false, false_and, true_and, and_true, not_true_eq_false, not_false_eq_true, c2, hi, e1, p, bqN, q_oIs]
      · simp (maxSteps := 500000) (disch := first | assumption | omega) only [f_X5_bestQuestion_L15, q_l0, q_l1, q_l2, q_l3, q_l4, q_l5, q_l6, q_l7, q_l8, q_l9, q_l10, q_l11, q_l12, q_l13, q_l14, q_l15, q_l16, q_l20, q_l21, q_l22, q_l24, q_l25, q_l26, q_l27, q_l28, q_l29, q_l30, q_l31, q_l32, q_l40, q_l48, q_l57, q_l80, q_l97, q_l100, q_l120, q_l122, q_l126, q_l160, q_l200, q_l214, q_l255, q_l256, q_l374, q_l400, q_l999, q_l1000, q_l9999, q_l99, q_l99999, q_nm, q_gd, q_gd2, q_ix, q_lt, q_eq, q_m5a, q_m5b, q_m40b, q_m8a, q_m8b, q_m16b, q_m374b, q_m160b, q_m10a, q_div5, q_rem5, nI_add, q_moe, q_moe2, q_mol, q_mol2, q_mor, q_bd2, q_bd1, q_stI, q_oI0, if_true, if_false, ite_true, ite_false, ↓reduceIte, Nat.lt_irrefl, Nat.not_lt_zero, Nat.add_zero, Nat.zero_add, Nat.reduceEqDiff, Nat.reduceLeDiff, Nat.reduceLT, Nat.reduceAdd, Bool.false_eq_true, and_self, and_false, false_and, true_and, and_true, not_true_eq_false, not_false_eq_true, c2, hi, e1, p, bqN]) (by omega)
    have z : bqN Λ S W 0 = (pc W, 0) := rfl
    rw [z] at hl
    rw [ec, q_bd2, f_bc, q_bd2, bc_pc W hwho, q_l0, q_l1, q_nm]
    rw [show f_X5_bestQuestion_L15 FU (nI W) (nI (pc W)) mo (nI 0) m = some (oI (bqN Λ S W (yX Λ)).2, m) from hl, q_bd2]
  · unfold f_X11_ask
    rw [q_stI, q_th, e, q_bd2]
    have eb : f_X11_bits (nI W) M2 = some (nI (pc W), M2) := by
      refine lp0 (fun j d => f_X11_bits_L4 j (nI W) (nI (ct (fun i => W.testBit i = true) d)) (nI d) M2) 13 _ (fun j => ?_) (fun j d hd => ?_) (by omega)
      · simp (maxSteps := 500000) (disch := first | assumption | omega) only [f_X11_bits_L4, q_l0, q_l1, q_l2, q_l3, q_l4, q_l5, q_l6, q_l7, q_l8, q_l9, q_l10, q_l11, q_l12, q_l13, q_l14, q_l15, q_l16, q_l20, q_l21, q_l22, q_l24, q_l25, q_l26, q_l27, q_l28, q_l29, q_l30, q_l31, q_l32, q_l40, q_l48, q_l57, q_l80, q_l97, q_l100, q_l120, q_l122, q_l126, q_l160, q_l200, q_l214, q_l255, q_l256, q_l374, q_l400, q_l999, q_l1000, q_l9999, q_l99, q_l99999, q_nm, q_gd, q_gd2, q_ix, q_lt, q_eq, q_m5a, q_m5b, q_m40b, q_m8a, q_m8b, q_m16b, q_m374b, q_m160b, q_m10a, q_div5, q_rem5, nI_add, q_moe, q_moe2, q_mol, q_mol2, q_mor, q_bd2, q_bd1, q_stI, q_oI0, if_true, if_false, ite_true, ite_false, ↓reduceIte, Nat.lt_irrefl, Nat.not_lt_zero, Nat.add_zero, Nat.zero_add, Nat.reduceEqDiff, Nat.reduceLeDiff, Nat.reduceLT, Nat.reduceAdd, Bool.false_eq_true, and_self, and_false, false_and, true_and, and_true, not_true_eq_false, not_false_eq_true]
        rfl
      · have t1 := q_tb (s := W) (d := d) (by omega) (by omega)
        simp (maxSteps := 500000) (disch := first | assumption | omega) only [f_X11_bits_L4, q_l0, q_l1, q_l2, q_l3, q_l4, q_l5, q_l6, q_l7, q_l8, q_l9, q_l10, q_l11, q_l12, q_l13, q_l14, q_l15, q_l16, q_l20, q_l21, q_l22, q_l24, q_l25, q_l26, q_l27, q_l28, q_l29, q_l30, q_l31, q_l32, q_l40, q_l48, q_l57, q_l80, q_l97, q_l100, q_l120, q_l122, q_l126, q_l160, q_l200, q_l214, q_l255, q_l256, q_l374, q_l400, q_l999, q_l1000, q_l9999, q_l99, q_l99999, q_nm, q_gd, q_gd2, q_ix, q_lt, q_eq, q_m5a, q_m5b, q_m40b, q_m8a, q_m8b, q_m16b, q_m374b, q_m160b, q_m10a, q_div5, q_rem5, nI_add, q_moe, q_moe2, q_mol, q_mol2, q_mor, q_bd2, q_bd1, q_stI, q_oI0, if_true, if_false, ite_true, ite_false, ↓reduceIte, Nat.lt_irrefl, Nat.not_lt_zero, Nat.add_zero, Nat.zero_add, Nat.reduceEqDiff, Nat.reduceLeDiff, Nat.reduceLT, Nat.reduceAdd, Bool.false_eq_true, and_self, and_false, false_and, true_and, and_true, not_true_eq_false, not_false_eq_true, hd, t1, ct]
    have r80 := hq.2.1.1
    have r108 := hq.2.1.2.2.1
    have hin : ∀ d, d < 32 → f_X11_isIn (nI W) (nI d) M2 = some (nI (if W.testBit d = true then 1 else 0), M2) := fun d hd => by
      unfold f_X11_isIn
      rw [q_l31, q_l1, q_tb (by omega) hd]
      by_cases h : W.testBit d = true
      · simp (maxSteps := 500000) (disch := first | assumption | omega) only [h, q_l0, q_l1, q_l2, q_l3, q_l4, q_l5, q_l6, q_l7, q_l8, q_l9, q_l10, q_l11, q_l12, q_l13, q_l14, q_l15, q_l16, q_l20, q_l21, q_l22, q_l24, q_l25, q_l26, q_l27, q_l28, q_l29, q_l30, q_l31, q_l32, q_l40, q_l48, q_l57, q_l80, q_l97, q_l100, q_l120, q_l122, q_l126, q_l160, q_l200, q_l214, q_l255, q_l256, q_l374, q_l400, q_l999, q_l1000, q_l9999, q_l99, q_l99999, q_nm, q_gd, q_gd2, q_ix, q_lt, q_eq, q_m5a, q_m5b, q_m40b, q_m8a, q_m8b, q_m16b, q_m374b, q_m160b, q_m10a, q_div5, q_rem5, nI_add, q_moe, q_moe2, q_mol, q_mol2, q_mor, q_bd2, q_bd1, q_stI, q_oI0, if_true, if_false, ite_true, ite_false, ↓reduceIte, Nat.lt_irrefl, Nat.not_lt_zero, Nat.add_zero, Nat.zero_add, Nat.reduceEqDiff, Nat.reduceLeDiff, Nat.reduceLT, Nat.reduceAdd, Bool.false_eq_true, and_self, and_false, false_and, true_and, and_true, not_true_eq_false, not_false_eq_true]
      · simp (maxSteps := 500000) (disch := first | assumption | omega) only [h, q_l0, q_l1, q_l2, q_l3, q_l4, q_l5, q_l6, q_l7, q_l8, q_l9, q_l10, q_l11, q_l12, q_l13, q_l14, q_l15, q_l16, q_l20, q_l21, q_l22, q_l24, q_l25, q_l26, q_l27, q_l28, q_l29, q_l30, q_l31, q_l32, q_l40, q_l48, q_l57, q_l80, q_l97, q_l100, q_l120, q_l122, q_l126, q_l160, q_l200, q_l214, q_l255, q_l256, q_l374, q_l400, q_l999, q_l1000, q_l9999, q_l99, q_l99999, q_nm, q_gd, q_gd2, q_ix, q_lt, q_eq, q_m5a, q_m5b, q_m40b, q_m8a, q_m8b, q_m16b, q_m374b, q_m160b, q_m10a, q_div5, q_rem5, nI_add, q_moe, q_moe2, q_mol, q_mol2, q_mor, q_bd2, q_bd1, q_stI, q_oI0, if_true, if_false, ite_true, ite_false, ↓reduceIte, Nat.lt_irrefl, Nat.not_lt_zero, Nat.add_zero, Nat.zero_add, Nat.reduceEqDiff, Nat.reduceLeDiff, Nat.reduceLT, Nat.reduceAdd, Bool.false_eq_true, and_self, and_false, false_and, true_and, and_true, not_true_eq_false, not_false_eq_true]
    have inner : ∀ i, i < yX Λ → ∀ v2 v3 v4 (K' : Int32 → Mm → Option (Int32 × Mm)), f_X11_ask_L40 (nI W) v2 v3 v4 (nI i) K' FU (nI 0) (nI 0) M2 = K' (nI (skC Λ S W i (yD Λ))) M2 := fun i hi v2 v3 v4 K' => by
      refine lp0 (fun j d => f_X11_ask_L40 (nI W) v2 v3 v4 (nI i) K' j (nI (skC Λ S W i d)) (nI d) M2) (yD Λ) _ (fun j => ?_) (fun j d hd => ?_) (by omega)
      · simp (maxSteps := 500000) (disch := first | assumption | omega) only [f_X11_ask_L40, q_l0, q_l1, q_l2, q_l3, q_l4, q_l5, q_l6, q_l7, q_l8, q_l9, q_l10, q_l11, q_l12, q_l13, q_l14, q_l15, q_l16, q_l20, q_l21, q_l22, q_l24, q_l25, q_l26, q_l27, q_l28, q_l29, q_l30, q_l31, q_l32, q_l40, q_l48, q_l57, q_l80, q_l97, q_l100, q_l120, q_l122, q_l126, q_l160, q_l200, q_l214, q_l255, q_l256, q_l374, q_l400, q_l999, q_l1000, q_l9999, q_l99, q_l99999, q_nm, q_gd, q_gd2, q_ix, q_lt, q_eq, q_m5a, q_m5b, q_m40b, q_m8a, q_m8b, q_m16b, q_m374b, q_m160b, q_m10a, q_div5, q_rem5, nI_add, q_moe, q_moe2, q_mol, q_mol2, q_mor, q_bd2, q_bd1, q_stI, q_oI0, if_true, if_false, ite_true, ite_false, ↓reduceIte, Nat.lt_irrefl, Nat.not_lt_zero, Nat.add_zero, Nat.zero_add, Nat.reduceEqDiff, Nat.reduceLeDiff, Nat.reduceLT, Nat.reduceAdd, Bool.false_eq_true, and_self, and_false, false_and, true_and, and_true, not_true_eq_false, not_false_eq_true, r80]
      · have e1 := hin d (by omega)
        have hc : skC Λ S W i d ≤ d := ct_le _ _
        by_cases p1 : W.testBit d = true
        · rw [if_pos p1] at e1
          have e2 := hr2 d p1 i hi
          by_cases p2 : drP Λ S d i
          · rw [if_pos p2] at e2
            simp (maxSteps := 500000) (disch := first | assumption | omega) only [f_X11_ask_L40, q_l0, q_l1, q_l2, q_l3, q_l4, q_l5, q_l6, q_l7, q_l8, q_l9, q_l10, q_l11, q_l12, q_l13, q_l14, q_l15, q_l16, q_l20, q_l21, q_l22, q_l24, q_l25, q_l26, q_l27, q_l28, q_l29, q_l30, q_l31, q_l32, q_l40, q_l48, q_l57, q_l80, q_l97, q_l100, q_l120, q_l122, q_l126, q_l160, q_l200, q_l214, q_l255, q_l256, q_l374, q_l400, q_l999, q_l1000, q_l9999, q_l99, q_l99999, q_nm, q_gd, q_gd2, q_ix, q_lt, q_eq, q_m5a, q_m5b, q_m40b, q_m8a, q_m8b, q_m16b, q_m374b, q_m160b, q_m10a, q_div5, q_rem5, nI_add, q_moe, q_moe2, q_mol, q_mol2, q_mor, q_bd2, q_bd1, q_stI, q_oI0, if_true, if_false, ite_true, ite_false, ↓reduceIte, Nat.lt_irrefl, Nat.not_lt_zero, Nat.add_zero, Nat.zero_add, Nat.reduceEqDiff, Nat.reduceLeDiff, Nat.reduceLT, Nat.reduceAdd, Bool.false_eq_true, and_self, and_false, false_and, true_and, and_true, not_true_eq_false, not_false_eq_true, r80, hd, e1, e2, skC, ct]
            rw [if_pos ⟨p1, p2⟩]
          · rw [if_neg p2] at e2
            simp (maxSteps := 500000) (disch := first | assumption | omega) only [f_X11_ask_L40, q_l0, q_l1, q_l2, q_l3, q_l4, q_l5, q_l6, q_l7, q_l8, q_l9, q_l10, q_l11, q_l12, q_l13, q_l14, q_l15, q_l16, q_l20, q_l21, q_l22, q_l24, q_l25, q_l26, q_l27, q_l28, q_l29, q_l30, q_l31, q_l32, q_l40, q_l48, q_l57, q_l80, q_l97, q_l100, q_l120, q_l122, q_l126, q_l160, q_l200, q_l214, q_l255, q_l256, q_l374, q_l400, q_l999, q_l1000, q_l9999, q_l99, q_l99999, q_nm, q_gd, q_gd2, q_ix, q_lt, q_eq, q_m5a, q_m5b, q_m40b, q_m8a, q_m8b, q_m16b, q_m374b, q_m160b, q_m10a, q_div5, q_rem5, nI_add, q_moe, q_moe2, q_mol, q_mol2, q_mor, q_bd2, q_bd1, q_stI, q_oI0, if_true, if_false, ite_true, ite_false, ↓reduceIte, Nat.lt_irrefl, Nat.not_lt_zero, Nat.add_zero, Nat.zero_add, Nat.reduceEqDiff, Nat.reduceLeDiff, Nat.reduceLT, Nat.reduceAdd, Bool.false_eq_true, and_self, and_false, false_and, true_and, and_true, not_true_eq_false, not_false_eq_true, r80, hd, e1, e2, skC, ct]
            rw [if_neg (fun h => p2 h.2)]; rfl
        · rw [if_neg p1] at e1
          simp (maxSteps := 500000) (disch := first | assumption | omega) only [f_X11_ask_L40, q_l0, q_l1, q_l2, q_l3, q_l4, q_l5, q_l6, q_l7, q_l8, q_l9, q_l10, q_l11, q_l12, q_l13, q_l14, q_l15, q_l16, q_l20, q_l21, q_l22, q_l24, q_l25, q_l26, q_l27, q_l28, q_l29, q_l30, q_l31, q_l32, q_l40, q_l48, q_l57, q_l80, q_l97, q_l100, q_l120, q_l122, q_l126, q_l160, q_l200, q_l214, q_l255, q_l256, q_l374, q_l400, q_l999, q_l1000, q_l9999, q_l99, q_l99999, q_nm, q_gd, q_gd2, q_ix, q_lt, q_eq, q_m5a, q_m5b, q_m40b, q_m8a, q_m8b, q_m16b, q_m374b, q_m160b, q_m10a, q_div5, q_rem5, nI_add, q_moe, q_moe2, q_mol, q_mol2, q_mor, q_bd2, q_bd1, q_stI, q_oI0, if_true, if_false, ite_true, ite_false, ↓reduceIte, Nat.lt_irrefl, Nat.not_lt_zero, Nat.add_zero, Nat.zero_add, Nat.reduceEqDiff, Nat.reduceLeDiff, Nat.reduceLT, Nat.reduceAdd, Bool.false_eq_true, and_self, and_false, false_and, true_and, and_true, not_true_eq_false, not_false_eq_true, r80, hd, e1, skC, ct]
          rw [if_neg (fun h => p1 h.1)]; rfl
    have hl := lp0 (fun j i => f_X11_ask_L23 j (nI W) (nI (pc W)) (nI (bqN Λ S W i).1) (oI (bqN Λ S W i).2) (nI i) M2) (yX Λ) (some (oI (bqN Λ S W (yX Λ)).2, M2)) (fun j => by
      simp (maxSteps := 500000) (disch := first | assumption | omega) only [f_X11_ask_L23, q_l0, q_l1, q_l2, q_l3, q_l4, q_l5, q_l6, q_l7, q_l8, q_l9, q_l10, q_l11, q_l12, q_l13, q_l14, q_l15, q_l16, q_l20, q_l21, q_l22, q_l24, q_l25, q_l26, q_l27, q_l28, q_l29, q_l30, q_l31, q_l32, q_l40, q_l48, q_l57, q_l80, q_l97, q_l100, q_l120, q_l122, q_l126, q_l160, q_l200, q_l214, q_l255, q_l256, q_l374, q_l400, q_l999, q_l1000, q_l9999, q_l99, q_l99999, q_nm, q_gd, q_gd2, q_ix, q_lt, q_eq, q_m5a, q_m5b, q_m40b, q_m8a, q_m8b, q_m16b, q_m374b, q_m160b, q_m10a, q_div5, q_rem5, nI_add, q_moe, q_moe2, q_mol, q_mol2, q_mor, q_bd2, q_bd1, q_stI, q_oI0, if_true, if_false, ite_true, ite_false, ↓reduceIte, Nat.lt_irrefl, Nat.not_lt_zero, Nat.add_zero, Nat.zero_add, Nat.reduceEqDiff, Nat.reduceLeDiff, Nat.reduceLT, Nat.reduceAdd, Bool.false_eq_true, and_self, and_false, false_and, true_and, and_true, not_true_eq_false, not_false_eq_true, r108]) (fun j i hi => by
      have hsk := skC_le (Λ := Λ) (S := S) (W := W) (i := i) h13
      have l1 := lf_le (Λ := Λ) (S := S) (W := W) (i := i) h13
      have l2 := (bq_le (Λ := Λ) (S := S) (W := W) (n := i) h13).1
      have e9 : imax (nI (skC Λ S W i (yD Λ))) (nI (pc W) - nI (skC Λ S W i (yD Λ))) = nI (lfN Λ S W i) := by
        rw [pk_sub hsk, q_imax (by omega) (by omega)]; rfl
      by_cases p : lfN Λ S W i < (bqN Λ S W i).1
      · simp (maxSteps := 500000) (disch := first | assumption | omega) only [f_X11_ask_L23, q_l0, q_l1, q_l2, q_l3, q_l4, q_l5, q_l6, q_l7, q_l8, q_l9, q_l10, q_l11, q_l12, q_l13, q_l14, q_l15, q_l16, q_l20, q_l21, q_l22, q_l24, q_l25, q_l26, q_l27, q_l28, q_l29, q_l30, q_l31, q_l32, q_l40, q_l48, q_l57, q_l80, q_l97, q_l100, q_l120, q_l122, q_l126, q_l160, q_l200, q_l214, q_l255, q_l256, q_l374, q_l400, q_l999, q_l1000, q_l9999, q_l99, q_l99999, q_nm, q_gd, q_gd2, q_ix, q_lt, q_eq, q_m5a, q_m5b, q_m40b, q_m8a, q_m8b, q_m16b, q_m374b, q_m160b, q_m10a, q_div5, q_rem5, nI_add, q_moe, q_moe2, q_mol, q_mol2, q_mor, q_bd2, q_bd1, q_stI, q_oI0, if_true, if_false, ite_true, ite_false, ↓reduceIte, Nat.lt_irrefl, Nat.not_lt_zero, Nat.add_zero, Nat.zero_add, Nat.reduceEqDiff, Nat.reduceLeDiff, Nat.reduceLT, Nat.reduceAdd, Bool.false_eq_true, and_self, and_false, false_and, true_and, and_true, not_true_eq_false, not_false_eq_true, r108, hi, inner i hi, e9, p, bqN, q_oIs]
      · simp (maxSteps := 500000) (disch := first | assumption | omega) only [f_X11_ask_L23, q_l0, q_l1, q_l2, q_l3, q_l4, q_l5, q_l6, q_l7, q_l8, q_l9, q_l10, q_l11, q_l12, q_l13, q_l14, q_l15, q_l16, q_l20, q_l21, q_l22, q_l24, q_l25, q_l26, q_l27, q_l28, q_l29, q_l30, q_l31, q_l32, q_l40, q_l48, q_l57, q_l80, q_l97, q_l100, q_l120, q_l122, q_l126, q_l160, q_l200, q_l214, q_l255, q_l256, q_l374, q_l400, q_l999, q_l1000, q_l9999, q_l99, q_l99999, q_nm, q_gd, q_gd2, q_ix, q_lt, q_eq, q_m5a, q_m5b, q_m40b, q_m8a, q_m8b, q_m16b, q_m374b, q_m160b, q_m10a, q_div5, q_rem5, nI_add, q_moe, q_moe2, q_mol, q_mol2, q_mor, q_bd2, q_bd1, q_stI, q_oI0, if_true, if_false, ite_true, ite_false, ↓reduceIte, Nat.lt_irrefl, Nat.not_lt_zero, Nat.add_zero, Nat.zero_add, Nat.reduceEqDiff, Nat.reduceLeDiff, Nat.reduceLT, Nat.reduceAdd, Bool.false_eq_true, and_self, and_false, false_and, true_and, and_true, not_true_eq_false, not_false_eq_true, r108, hi, inner i hi, e9, p, bqN]) (by omega)
    have z : bqN Λ S W 0 = (pc W, 0) := rfl
    rw [z] at hl
    rw [eb, q_bd2, q_l0, q_l1, q_nm]
    exact hl
end Ask3
