/-! MATH HALF: the reference lays all stripes -/
section Ref2
variable {T Λ : Lv} {P : Pv} {nd a b k p u x n d i j c c2 r sh fl : Nat} {β γ δ : Bv} {m m2 m3 : Mm} {v : Int32}
theorem r_sOf (hk : k ≤ 3) (hnd : nd < 2147483648) (e : k = tK T b) : f_X11_stripesOf (nI k) (nI nd) m = some (nI (sN T nd b), m) := by
  subst e
  unfold f_X11_stripesOf sN
  by_cases k0 : tK T b = 0
  · simp (maxSteps := 500000) (disch := first | assumption | omega) only [q_l0, q_l1, q_l2, q_l3, q_l4, q_l5, q_l6, q_l7, q_l8, q_l9, q_l10, q_l11, q_l12, q_l13, q_l14, q_l15, q_l16, q_l20, q_l21, q_l22, q_l24, q_l25, q_l26, q_l27, q_l28, q_l29, q_l30, q_l31, q_l32, q_l40, q_l48, q_l57, q_l80, q_l97, q_l100, q_l120, q_l122, q_l126, q_l160, q_l200, q_l214, q_l255, q_l256, q_l374, q_l400, q_l999, q_l1000, q_l9999, q_l99, q_l99999, q_nm, q_gd, q_gd2, q_ix, q_lt, q_eq, q_m5a, q_m5b, q_m40b, q_m8a, q_m8b, q_m16b, q_m374b, q_m160b, q_m10a, q_div5, q_rem5, nI_add, q_moe, q_moe2, q_mol, q_mol2, q_mor, q_bd2, q_bd1, q_stI, q_oI0, if_true, if_false, ite_true, ite_false, ↓reduceIte, Nat.lt_irrefl, Nat.not_lt_zero, Nat.add_zero, Nat.zero_add, Nat.reduceEqDiff, Nat.reduceLeDiff, Nat.reduceLT, Nat.reduceAdd, Bool.false_eq_true, and_self, and_false, false_and, true_and, and_true, not_true_eq_false, not_false_eq_true, k0]
  · by_cases k1 : tK T b = 1
    · simp (maxSteps := 500000) (disch := first | assumption | omega) only [q_l0, q_l1, q_l2, q_l3, q_l4, q_l5, q_l6, q_l7, q_l8, q_l9, q_l10, q_l11, q_l12, q_l13, q_l14, q_l15, q_l16, q_l20, q_l21, q_l22, q_l24, q_l25, q_l26, q_l27, q_l28, q_l29, q_l30, q_l31, q_l32, q_l40, q_l48, q_l57, q_l80, q_l97, q_l100, q_l120, q_l122, q_l126, q_l160, q_l200, q_l214, q_l255, q_l256, q_l374, q_l400, q_l999, q_l1000, q_l9999, q_l99, q_l99999, q_nm, q_gd, q_gd2, q_ix, q_lt, q_eq, q_m5a, q_m5b, q_m40b, q_m8a, q_m8b, q_m16b, q_m374b, q_m160b, q_m10a, q_div5, q_rem5, nI_add, q_moe, q_moe2, q_mol, q_mol2, q_mor, q_bd2, q_bd1, q_stI, q_oI0, if_true, if_false, ite_true, ite_false, ↓reduceIte, Nat.lt_irrefl, Nat.not_lt_zero, Nat.add_zero, Nat.zero_add, Nat.reduceEqDiff, Nat.reduceLeDiff, Nat.reduceLT, Nat.reduceAdd, Bool.false_eq_true, and_self, and_false, false_and, true_and, and_true, not_true_eq_false, not_false_eq_true, k1]
    · simp (maxSteps := 500000) (disch := first | assumption | omega) only [q_l0, q_l1, q_l2, q_l3, q_l4, q_l5, q_l6, q_l7, q_l8, q_l9, q_l10, q_l11, q_l12, q_l13, q_l14, q_l15, q_l16, q_l20, q_l21, q_l22, q_l24, q_l25, q_l26, q_l27, q_l28, q_l29, q_l30, q_l31, q_l32, q_l40, q_l48, q_l57, q_l80, q_l97, q_l100, q_l120, q_l122, q_l126, q_l160, q_l200, q_l214, q_l255, q_l256, q_l374, q_l400, q_l999, q_l1000, q_l9999, q_l99, q_l99999, q_nm, q_gd, q_gd2, q_ix, q_lt, q_eq, q_m5a, q_m5b, q_m40b, q_m8a, q_m8b, q_m16b, q_m374b, q_m160b, q_m10a, q_div5, q_rem5, nI_add, q_moe, q_moe2, q_mol, q_mol2, q_mor, q_bd2, q_bd1, q_stI, q_oI0, if_true, if_false, ite_true, ite_false, ↓reduceIte, Nat.lt_irrefl, Nat.not_lt_zero, Nat.add_zero, Nat.zero_add, Nat.reduceEqDiff, Nat.reduceLeDiff, Nat.reduceLT, Nat.reduceAdd, Bool.false_eq_true, and_self, and_false, false_and, true_and, and_true, not_true_eq_false, not_false_eq_true, k0, k1]
theorem r_stripe2 (hr : r < 2) (hR : ToR T m) (hL : LawR P m) (h : okT T P nd) (hi : isT T P nd Λ) (h1 : WL1 Λ) (hb : b < tB T) (hp : p < sN T nd b) (hB : RBn Λ r (cS T nd b + p) β) : ∃ γ m2, f_X11_laysStripe (nI r) (nI b) (nI (if tK T b = 1 then p else 0)) (nI (if tK T b = 2 ∧ p = 1 then 1 else 0)) (nI nd) (pB 99 β m) = some (pB 99 γ m2) ∧ RBn Λ r (cS T nd b + p + 1) γ ∧ rF r β γ ∧ lwR m m2 := by
  have hn : cS T nd b + p < yS Λ := by rw [hi.2.1]; exact cS_lt hb hp
  obtain ⟨eZ, eB, eK, eP⟩ := hi.2.2 b p hb hp
  have hD : 2 ≤ nd := by
    have := h.1.2.2.2.1 (by omega)
    have := h.2.2.1
    omega
  have h5 := h.1.2.2.2.2.2.2.1 b hb
  have hle := h.2.2.1
  have e0 : yK Λ (5 * (cS T nd b + p)) = dIn T nd b p 0 := eK 0 (by omega)
  refine r_stripe hr hR hL h h1 hb hn ?_ (by split <;> omega) eZ eB (fun u hu => ?_) (by rw [eP, e0]) hB
  · unfold sN at hp
    by_cases k1 : tK T b = 1
    · rw [if_pos k1]
      rw [if_neg (by omega), if_pos k1] at hp
      exact hp
    · rw [if_neg k1]; omega
  · have hM := h.1.2.2.2.2.2.2.2.1 b u hb hu
    rw [eK u (by omega)]
    unfold dIn
    by_cases k1 : tK T b = 1
    · have k2 : ¬ (tK T b = 2 ∧ p = 1) := by omega
      rw [if_pos k1, if_pos k1, if_neg k2, if_pos rfl]
    · rw [if_neg k1, if_neg k1, Nat.add_zero, Nat.mod_eq_of_lt (by omega)]
      by_cases k2 : tK T b = 2 ∧ p = 1
      · rw [if_pos k2, if_pos k2, if_neg (by omega)]
      · rw [if_neg k2, if_neg k2, if_pos rfl]
theorem r_J63 (hb : b < tB T) (hR : ToR T m) (hT : WTo T) (hp : p < 2147483648) {K : Int32 → Mm → Option Mm} (e : f_X11_laysStripe (nI r) (nI b) (nI sh) (nI (if tK T b = 2 ∧ p = 1 then 1 else 0)) (nI nd) (pB 99 β m) = some (pB 99 γ m2)) : f_X11_laysAll_J63 K (nI r) (nI nd) (nI b) (nI p) (nI sh) (nI b) (nI r) (pB 99 β m) = K (nI (p + 1)) (pB 99 γ m2) := by
  have h6 := hT.2.2.1
  have h5 := hT.2.2.2.2.2.2.1 b hb
  have c81 := hR.2.2.2.1 b hb
  by_cases k2 : tK T b = 2
  · by_cases p1 : p = 1
    · rw [if_pos ⟨k2, p1⟩] at e
      simp (maxSteps := 500000) (disch := first | assumption | omega) only [f_X11_laysAll_J63, q_l0, q_l1, q_l2, q_l3, q_l4, q_l5, q_l6, q_l7, q_l8, q_l9, q_l10, q_l11, q_l12, q_l13, q_l14, q_l15, q_l16, q_l20, q_l21, q_l22, q_l24, q_l25, q_l26, q_l27, q_l28, q_l29, q_l30, q_l31, q_l32, q_l40, q_l48, q_l57, q_l80, q_l97, q_l100, q_l120, q_l122, q_l126, q_l160, q_l200, q_l214, q_l255, q_l256, q_l374, q_l400, q_l999, q_l1000, q_l9999, q_l99, q_l99999, q_nm, q_gd, q_gd2, q_ix, q_lt, q_eq, q_m5a, q_m5b, q_m40b, q_m8a, q_m8b, q_m16b, q_m374b, q_m160b, q_m10a, q_div5, q_rem5, nI_add, q_moe, q_moe2, q_mol, q_mol2, q_mor, q_bd2, q_bd1, q_stI, q_oI0, if_true, if_false, ite_true, ite_false, ↓reduceIte, Nat.lt_irrefl, Nat.not_lt_zero, Nat.add_zero, Nat.zero_add, Nat.reduceEqDiff, Nat.reduceLeDiff, Nat.reduceLT, Nat.reduceAdd, Bool.false_eq_true, and_self, and_false, false_and, true_and, and_true, not_true_eq_false, not_false_eq_true, g9_99, s9_99, g9_100, s9_100, g9_101, s9_101, g9_102, s9_102, g9_103, s9_103, g9_104, s9_104, g9_105, s9_105, g9_106, s9_106, g9_107, s9_107, g9_108, s9_108, g9_109, s9_109, pB_o, up_ne, up_eq, c81, k2, p1, e]
    · rw [if_neg (fun h => p1 h.2)] at e
      simp (maxSteps := 500000) (disch := first | assumption | omega) only [f_X11_laysAll_J63, q_l0, q_l1, q_l2, q_l3, q_l4, q_l5, q_l6, q_l7, q_l8, q_l9, q_l10, q_l11, q_l12, q_l13, q_l14, q_l15, q_l16, q_l20, q_l21, q_l22, q_l24, q_l25, q_l26, q_l27, q_l28, q_l29, q_l30, q_l31, q_l32, q_l40, q_l48, q_l57, q_l80, q_l97, q_l100, q_l120, q_l122, q_l126, q_l160, q_l200, q_l214, q_l255, q_l256, q_l374, q_l400, q_l999, q_l1000, q_l9999, q_l99, q_l99999, q_nm, q_gd, q_gd2, q_ix, q_lt, q_eq, q_m5a, q_m5b, q_m40b, q_m8a, q_m8b, q_m16b, q_m374b, q_m160b, q_m10a, q_div5, q_rem5, nI_add, q_moe, q_moe2, q_mol, q_mol2, q_mor, q_bd2, q_bd1, q_stI, q_oI0, if_true, if_false, ite_true, ite_false, ↓reduceIte, Nat.lt_irrefl, Nat.not_lt_zero, Nat.add_zero, Nat.zero_add, Nat.reduceEqDiff, Nat.reduceLeDiff, Nat.reduceLT, Nat.reduceAdd, Bool.false_eq_true, and_self, and_false, false_and, true_and, and_true, not_true_eq_false, not_false_eq_true, g9_99, s9_99, g9_100, s9_100, g9_101, s9_101, g9_102, s9_102, g9_103, s9_103, g9_104, s9_104, g9_105, s9_105, g9_106, s9_106, g9_107, s9_107, g9_108, s9_108, g9_109, s9_109, pB_o, up_ne, up_eq, c81, k2, p1, e]
  · rw [if_neg (fun h => k2 h.1)] at e
    simp (maxSteps := 500000) (disch := first | assumption | omega) only [f_X11_laysAll_J63, q_l0, q_l1, q_l2, q_l3, q_l4, q_l5, q_l6, q_l7, q_l8, q_l9, q_l10, q_l11, q_l12, q_l13, q_l14, q_l15, q_l16, q_l20, q_l21, q_l22, q_l24, q_l25, q_l26, q_l27, q_l28, q_l29, q_l30, q_l31, q_l32, q_l40, q_l48, q_l57, q_l80, q_l97, q_l100, q_l120, q_l122, q_l126, q_l160, q_l200, q_l214, q_l255, q_l256, q_l374, q_l400, q_l999, q_l1000, q_l9999, q_l99, q_l99999, q_nm, q_gd, q_gd2, q_ix, q_lt, q_eq, q_m5a, q_m5b, q_m40b, q_m8a, q_m8b, q_m16b, q_m374b, q_m160b, q_m10a, q_div5, q_rem5, nI_add, q_moe, q_moe2, q_mol, q_mol2, q_mor, q_bd2, q_bd1, q_stI, q_oI0, if_true, if_false, ite_true, ite_false, ↓reduceIte, Nat.lt_irrefl, Nat.not_lt_zero, Nat.add_zero, Nat.zero_add, Nat.reduceEqDiff, Nat.reduceLeDiff, Nat.reduceLT, Nat.reduceAdd, Bool.false_eq_true, and_self, and_false, false_and, true_and, and_true, not_true_eq_false, not_false_eq_true, g9_99, s9_99, g9_100, s9_100, g9_101, s9_101, g9_102, s9_102, g9_103, s9_103, g9_104, s9_104, g9_105, s9_105, g9_106, s9_106, g9_107, s9_107, g9_108, s9_108, g9_109, s9_109, pB_o, up_ne, up_eq, c81, k2, e]
theorem r_L29 (hr : r < 2) (hR : ToR T m) (hL : LawR P m) (h : okT T P nd) (hi : isT T P nd Λ) (h1 : WL1 Λ) (hb : b < tB T) {K : Mm → Option Mm} (R : Option Mm → Prop) (hK : ∀ γ m2, RBn Λ r (cS T nd (b + 1)) γ → rF r β γ → lwR m m2 → R (K (pB 99 γ m2))) (hB : RBn Λ r (cS T nd b) β) : R (f_X11_laysAll_L29 (nI r) (nI nd) (nI b) K FU (nI 0) (pB 99 β m)) := by
  have h6 := h.1.2.2.1
  have h5 := h.1.2.2.2.2.2.2.1 b hb
  have h13 := h.2.1
  have hD : 2 ≤ nd := by
    have := h.1.2.2.2.1 (by omega)
    have := h.2.2.1
    omega
  have hs := sN_le (T := T) (b := b) hD h.2.1
  refine lpI (fun j p (s : Bv × Mm) => f_X11_laysAll_L29 (nI r) (nI nd) (nI b) K j (nI p) (pB 99 s.1 s.2)) (fun p s => RBn Λ r (cS T nd b + p) s.1 ∧ rF r β s.1 ∧ lwR m s.2) (sN T nd b) R (fun j s hI => ?_) (fun j p s hp hI => ?_) FU 0 (β, m) (by omega) (by show _ < 0 + 4096; omega) ⟨hB, rF_r, lwR_r⟩
  · have c81 := (ToR_lw hI.2.2 hR).2.2.2.1 b hb
    have es := r_sOf (T := T) (b := b) (nd := nd) (m := pB 99 s.1 s.2) (k := tK T b) (by omega) (by omega) rfl
    simp (maxSteps := 500000) (disch := first | assumption | omega) only [f_X11_laysAll_L29, q_l0, q_l1, q_l2, q_l3, q_l4, q_l5, q_l6, q_l7, q_l8, q_l9, q_l10, q_l11, q_l12, q_l13, q_l14, q_l15, q_l16, q_l20, q_l21, q_l22, q_l24, q_l25, q_l26, q_l27, q_l28, q_l29, q_l30, q_l31, q_l32, q_l40, q_l48, q_l57, q_l80, q_l97, q_l100, q_l120, q_l122, q_l126, q_l160, q_l200, q_l214, q_l255, q_l256, q_l374, q_l400, q_l999, q_l1000, q_l9999, q_l99, q_l99999, q_nm, q_gd, q_gd2, q_ix, q_lt, q_eq, q_m5a, q_m5b, q_m40b, q_m8a, q_m8b, q_m16b, q_m374b, q_m160b, q_m10a, q_div5, q_rem5, nI_add, q_moe, q_moe2, q_mol, q_mol2, q_mor, q_bd2, q_bd1, q_stI, q_oI0, if_true, if_false, ite_true, ite_false, ↓reduceIte, Nat.lt_irrefl, Nat.not_lt_zero, Nat.add_zero, Nat.zero_add, Nat.reduceEqDiff, Nat.reduceLeDiff, Nat.reduceLT, Nat.reduceAdd, Bool.false_eq_true, and_self, and_false, false_and, true_and, and_true, not_true_eq_false, not_false_eq_true, g9_99, s9_99, g9_100, s9_100, g9_101, s9_101, g9_102, s9_102, g9_103, s9_103, g9_104, s9_104, g9_105, s9_105, g9_106, s9_106, g9_107, s9_107, g9_108, s9_108, g9_109, s9_109, pB_o, up_ne, up_eq, c81, es]
    exact hK s.1 s.2 hI.1 hI.2.1 hI.2.2
  · have c81 := (ToR_lw hI.2.2 hR).2.2.2.1 b hb
    have es := r_sOf (T := T) (b := b) (nd := nd) (m := pB 99 s.1 s.2) (k := tK T b) (by omega) (by omega) rfl
    obtain ⟨γ, m3, e1, e2, e3, e4⟩ := r_stripe2 hr (ToR_lw hI.2.2 hR) (LawR_lw hI.2.2 hL) h hi h1 hb hp hI.1
    refine ⟨(γ, m3), ⟨e2, rF_t hI.2.1 e3, lwR_t hI.2.2 e4⟩, ?_⟩
    by_cases k1 : tK T b = 1
    · rw [if_pos k1] at e1
      have ej := r_J63 (K := fun w4 m => f_X11_laysAll_L29 (nI r) (nI nd) (nI b) K j w4 m) hb (ToR_lw hI.2.2 hR) h.1 (by omega) e1
      have k1' : nI (tK T b) = nI 1 := by rw [k1]
      simp only [f_X11_laysAll_L29]
      rw [q_gd (by omega) (by omega), q_ix (by omega), pB_o (by omega), c81, es, q_bd2, if_pos ((q_ltp (by omega) (by omega)).mpr hp), q_gd (by omega) (by omega), pB_o (by omega), c81, q_l1, if_pos k1']
      exact ej
    · rw [if_neg k1] at e1
      have ej := r_J63 (K := fun w4 m => f_X11_laysAll_L29 (nI r) (nI nd) (nI b) K j w4 m) hb (ToR_lw hI.2.2 hR) h.1 (by omega) e1
      have k1' : ¬ nI (tK T b) = nI 1 := fun e => k1 ((q_eq (by omega) (by omega)).mp e)
      simp only [f_X11_laysAll_L29]
      rw [q_gd (by omega) (by omega), q_ix (by omega), pB_o (by omega), c81, es, q_bd2, if_pos ((q_ltp (by omega) (by omega)).mpr hp), q_gd (by omega) (by omega), pB_o (by omega), c81, q_l1, if_neg k1', q_l0]
      exact ej
theorem r_L16 (hr : r < 2) (hR : ToR T m) (hL : LawR P m) (h : okT T P nd) (hi : isT T P nd Λ) (h1 : WL1 Λ) (hB : RBn Λ r 0 β) : ∃ γ m2, f_X11_laysAll_L16 FU (nI r) (nI nd) (nI 0) (pB 99 β m) = f_X11_laysAll_L102 FU (nI r) (nI nd) (nI 0) (pB 99 γ m2) ∧ RBn Λ r (yS Λ) γ ∧ rF r β γ ∧ lwR m m2 := by
  have h6 := h.1.2.2.1
  refine lpI (fun j b (s : Bv × Mm) => f_X11_laysAll_L16 j (nI r) (nI nd) (nI b) (pB 99 s.1 s.2)) (fun b s => RBn Λ r (cS T nd b) s.1 ∧ rF r β s.1 ∧ lwR m s.2) (tB T) (fun o => ∃ γ m2, o = f_X11_laysAll_L102 FU (nI r) (nI nd) (nI 0) (pB 99 γ m2) ∧ RBn Λ r (yS Λ) γ ∧ rF r β γ ∧ lwR m m2) (fun j s hI => ?_) (fun j b s hb hI => ?_) FU 0 (β, m) (by omega) (by show _ < 0 + 4096; omega) ⟨hB, rF_r, lwR_r⟩
  · have c80 := (ToR_lw hI.2.2 hR).2.1
    refine ⟨s.1, s.2, ?_, by rw [hi.2.1]; exact hI.1, hI.2.1, hI.2.2⟩
    simp only [f_X11_laysAll_L16]
    rw [show ix (1 : Int32) = 1 from rfl, pB_o (by omega), c80, if_neg (fun e => absurd ((q_ltp (by omega) (by omega)).mp e) (Nat.lt_irrefl _)), q_l0]
  · have c80 := (ToR_lw hI.2.2 hR).2.1
    have e2 := r_L29 (K := fun m17 => f_X11_laysAll_L16 j (nI r) (nI nd) (nI b + 1) m17) hr (ToR_lw hI.2.2 hR) (LawR_lw hI.2.2 hL) h hi h1 hb (fun o => ∃ s' : Bv × Mm, (RBn Λ r (cS T nd (b + 1)) s'.1 ∧ rF r β s'.1 ∧ lwR m s'.2) ∧ o = f_X11_laysAll_L16 j (nI r) (nI nd) (nI (b + 1)) (pB 99 s'.1 s'.2)) (fun γ m2 k1 k2 k3 => ⟨(γ, m2), ⟨k1, rF_t hI.2.1 k2, lwR_t hI.2.2 k3⟩, by rw [q_l1, nI_add]⟩) hI.1
    obtain ⟨s', e3, e4⟩ := e2
    refine ⟨s', e3, ?_⟩
    simp only [f_X11_laysAll_L16]
    rw [show ix (1 : Int32) = 1 from rfl, pB_o (by omega), c80, if_pos ((q_ltp (by omega) (by omega)).mpr hb), q_l0]
    exact e4
end Ref2
