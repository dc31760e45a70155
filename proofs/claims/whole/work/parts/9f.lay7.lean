/-! MATH HALF: the class builds a layout -/
def RelCa (A : Nat) (Λ : Lv) (m : Mm) : Prop := gI m A 0 = nI (yD Λ) ∧ gI m A 1 = nI (yS Λ) ∧ gI m A 2 = nI (yX Λ) ∧ (∀ k, k < yS Λ → gI m (A + 1) k = nI (yZ Λ k)) ∧ (∀ k, k < yS Λ → gI m (A + 2) k = nI (yP Λ k)) ∧ (∀ k, k < yS Λ → gI m (A + 3) k = nI (yB Λ k)) ∧ (∀ k, k < yS Λ → gI m (A + 4) k = oI (yQ Λ k)) ∧ (∀ k, k < yS Λ → gI m (A + 5) k = oI (yR Λ k)) ∧ (∀ k, k < yS Λ → gI m (A + 6) k = nI (yM Λ k)) ∧ (∀ x, vx Λ x → gI m (A + 7) x = nI (yK Λ x)) ∧ (∀ x, vx Λ x → gI m (A + 8) x = nI (yH Λ x)) ∧ (∀ x, vx Λ x → gI m (A + 9) x = oI (yT Λ x)) ∧ (∀ i, i < yX Λ → gI m (A + 10) i = nI (yU Λ i)) ∧ (∀ d, d < 13 → gI m (A + 11) d = nI (yA Λ d)) ∧ (∀ d, d < 13 → gI m (A + 12) d = nI (yC Λ d)) ∧ (∀ d, d < 13 → gI m (A + 13) d = nI (yE Λ d))
/-- spares laid for the first k -/
def SPi (Λ : Lv) (k : Nat) (β : Bv) : Prop := (β 0 0 = nI (yD Λ) ∧ β 0 1 = nI (yS Λ) ∧ NDi Λ (5 * yS Λ) β ∧ (∀ k, k < yS Λ → β 1 k = nI (yZ Λ k) ∧ β 2 k = nI (yP Λ k) ∧ β 3 k = nI (yB Λ k) ∧ β 6 k = nI (yM Λ k)) ∧ (∀ x, vx Λ x → x / 5 < yS Λ → β 7 x = nI (yK Λ x) ∧ β 8 x = nI (yH Λ x)) ∧ ∀ d, d < 13 → β 11 d = nI (ct (fun k => onK Λ k d) (yS Λ)) ∧ β 12 d = nI (ct (fun k => yK Λ (5 * k + yP Λ k) = d) (yS Λ))) ∧ (∀ d, d < 13 → β 13 d = nI (ct (fun j => yQ Λ j = d + 1) k)) ∧ ∀ j, j < k → β 4 j = oI (yQ Λ j) ∧ β 5 j = oI (yR Λ j)
section Lay7
variable {T Λ : Lv} {P : Pv} {nd a b k p u x n d i j A c c2 t : Nat} {q q2 : Nat → Nat} {β γ : Bv} {m m2 : Mm} {v : Int32}
theorem RelC_a : RelCa 26 Λ m ↔ RelC Λ m := Iff.rfl
theorem c_clear (hnd : yD Λ = nd) : ∃ γ, f_X4_clear A (nI nd) m = some (pB A γ m) ∧ BCn Λ 0 γ := by
  have es := pB_self (A := A) (m := m)
  conv in f_X4_clear A (nI nd) m => rw [← es]
  generalize (fun c i => m.1 (A + c) i) = β
  unfold f_X4_clear
  rw [q_stI, pB_s0, q_stI, pB_s0, q_stI, pB_s0, q_l0]
  refine lpI (fun j u γ => f_X4_clear_L17 A j (nI u) (pB A γ m)) (fun u γ => γ 0 0 = nI nd ∧ γ 0 1 = nI 0 ∧ γ 0 2 = nI 0 ∧ ∀ d, d < u → γ 11 d = nI 0 ∧ γ 12 d = nI 0 ∧ γ 13 d = nI 0) 13 (fun o => ∃ γ, o = some (pB A γ m) ∧ BCn Λ 0 γ) (fun j γ hI => ?_) (fun j u γ hu hI => ?_) FU 0 _ (by omega) (by show _ < 0 + 4096; omega) ⟨by rw [up_ne (by omega), up_ne (by omega), up_eq], by rw [up_ne (by omega), up_eq], by rw [up_eq], fun d hd => absurd hd (Nat.not_lt_zero _)⟩
  · obtain ⟨i1, i2, i3, i4⟩ := hI
    refine ⟨γ, ?_, by rw [hnd]; exact i1, i2, ⟨i3, fun x _ hx => absurd hx (Nat.not_lt_zero _), fun i hi => absurd hi (Nat.not_lt_zero _)⟩, fun k hk => absurd hk (Nat.not_lt_zero _), fun x _ hx => absurd hx (Nat.not_lt_zero _), fun d hd => i4 d hd⟩
    simp (maxSteps := 500000) (disch := first | assumption | omega) only [f_X4_clear_L17, q_l0, q_l1, q_l2, q_l3, q_l4, q_l5, q_l6, q_l7, q_l8, q_l9, q_l10, q_l11, q_l12, q_l13, q_l14, q_l15, q_l16, q_l20, q_l21, q_l22, q_l24, q_l25, q_l26, q_l27, q_l28, q_l29, q_l30, q_l31, q_l32, q_l40, q_l48, q_l57, q_l80, q_l97, q_l100, q_l120, q_l122, q_l126, q_l160, q_l200, q_l214, q_l255, q_l256, q_l374, q_l400, q_l999, q_l1000, q_l9999, q_l99, q_l99999, q_nm, q_gd, q_gd2, q_ix, q_lt, q_eq, q_m5a, q_m5b, q_m40b, q_m8a, q_m8b, q_m16b, q_m374b, q_m160b, q_m10a, q_div5, q_rem5, nI_add, q_moe, q_moe2, q_mol, q_mol2, q_mor, q_bd2, q_bd1, q_stI, q_oI0, if_true, if_false, ite_true, ite_false, ↓reduceIte, Nat.lt_irrefl, Nat.not_lt_zero, Nat.add_zero, Nat.zero_add, Nat.reduceEqDiff, Nat.reduceLeDiff, Nat.reduceLT, Nat.reduceAdd, Bool.false_eq_true, and_self, and_false, false_and, true_and, and_true, not_true_eq_false, not_false_eq_true]
  · obtain ⟨i1, i2, i3, i4⟩ := hI
    refine ⟨up2 (up2 (up2 γ 11 u (nI 0)) 12 u (nI 0)) 13 u (nI 0), ⟨?_, ?_, ?_, fun d hd => ?_⟩, ?_⟩
    · rw [up_ne (by omega), up_ne (by omega), up_ne (by omega)]; exact i1
    · rw [up_ne (by omega), up_ne (by omega), up_ne (by omega)]; exact i2
    · rw [up_ne (by omega), up_ne (by omega), up_ne (by omega)]; exact i3
    · rw [up_ne (c2 := 11) (by omega), up_ne (c2 := 11) (by omega), up_ne (c2 := 12) (c := 13) (by omega)]
      by_cases e : d = u
      · subst e
        rw [up_eq, up_eq, up_eq]
        exact ⟨rfl, rfl, rfl⟩
      · rw [up_ne (by omega), up_ne (by omega), up_ne (by omega), up_ne (by omega), up_ne (by omega), up_ne (by omega)]
        exact i4 d (by omega)
    · simp (maxSteps := 500000) (disch := first | assumption | omega) only [f_X4_clear_L17, q_l0, q_l1, q_l2, q_l3, q_l4, q_l5, q_l6, q_l7, q_l8, q_l9, q_l10, q_l11, q_l12, q_l13, q_l14, q_l15, q_l16, q_l20, q_l21, q_l22, q_l24, q_l25, q_l26, q_l27, q_l28, q_l29, q_l30, q_l31, q_l32, q_l40, q_l48, q_l57, q_l80, q_l97, q_l100, q_l120, q_l122, q_l126, q_l160, q_l200, q_l214, q_l255, q_l256, q_l374, q_l400, q_l999, q_l1000, q_l9999, q_l99, q_l99999, q_nm, q_gd, q_gd2, q_ix, q_lt, q_eq, q_m5a, q_m5b, q_m40b, q_m8a, q_m8b, q_m16b, q_m374b, q_m160b, q_m10a, q_div5, q_rem5, nI_add, q_moe, q_moe2, q_mol, q_mol2, q_mor, q_bd2, q_bd1, q_stI, q_oI0, if_true, if_false, ite_true, ite_false, ↓reduceIte, Nat.lt_irrefl, Nat.not_lt_zero, Nat.add_zero, Nat.zero_add, Nat.reduceEqDiff, Nat.reduceLeDiff, Nat.reduceLT, Nat.reduceAdd, Bool.false_eq_true, and_self, and_false, false_and, true_and, and_true, not_true_eq_false, not_false_eq_true, pB_s, hu]
theorem sN_le (h2 : 2 ≤ nd) (h : nd ≤ 13) : sN T nd b ≤ 13 := by
  unfold sN
  split
  · omega
  · split <;> omega
theorem cS_le (h2 : 2 ≤ nd) (h : nd ≤ 13) : ∀ n, cS T nd n ≤ 13 * n
  | 0 => Nat.le_refl _
  | n + 1 => by
    have h1 := cS_le h2 h n
    have h3 := sN_le (T := T) (b := n) h2 h
    show cS T nd n + sN T nd n ≤ _
    omega
theorem c_sOf (hC : ToC t T m) (hT : WTo T) (hb : b < tB T) (hnd : nd < 2147483648) : f_X8_stripesOf t (nI b) (nI nd) m = some (nI (sN T nd b), m) := by
  have h6 := hT.2.2.1
  have h5 := hT.2.2.2.2.2.2.1 b hb
  have c1 := hC.2.2.2.1 b hb
  unfold f_X8_stripesOf sN
  by_cases k0 : tK T b = 0
  · simp (maxSteps := 500000) (disch := first | assumption | omega) only [q_l0, q_l1, q_l2, q_l3, q_l4, q_l5, q_l6, q_l7, q_l8, q_l9, q_l10, q_l11, q_l12, q_l13, q_l14, q_l15, q_l16, q_l20, q_l21, q_l22, q_l24, q_l25, q_l26, q_l27, q_l28, q_l29, q_l30, q_l31, q_l32, q_l40, q_l48, q_l57, q_l80, q_l97, q_l100, q_l120, q_l122, q_l126, q_l160, q_l200, q_l214, q_l255, q_l256, q_l374, q_l400, q_l999, q_l1000, q_l9999, q_l99, q_l99999, q_nm, q_gd, q_gd2, q_ix, q_lt, q_eq, q_m5a, q_m5b, q_m40b, q_m8a, q_m8b, q_m16b, q_m374b, q_m160b, q_m10a, q_div5, q_rem5, nI_add, q_moe, q_moe2, q_mol, q_mol2, q_mor, q_bd2, q_bd1, q_stI, q_oI0, if_true, if_false, ite_true, ite_false, ↓reduceIte, Nat.lt_irrefl, Nat.not_lt_zero, Nat.add_zero, Nat.zero_add, Nat.reduceEqDiff, Nat.reduceLeDiff, Nat.reduceLT, Nat.reduceAdd, Bool.false_eq_true, and_self, and_false, false_and, true_and, and_true, not_true_eq_false, not_false_eq_true, c1, k0]
  · by_cases k1 : tK T b = 1
    · simp (maxSteps := 500000) (disch := first | assumption | omega) only [q_l0, q_l1, q_l2, q_l3, q_l4, q_l5, q_l6, q_l7, q_l8, q_l9, q_l10, q_l11, q_l12, q_l13, q_l14, q_l15, q_l16, q_l20, q_l21, q_l22, q_l24, q_l25, q_l26, q_l27, q_l28, q_l29, q_l30, q_l31, q_l32, q_l40, q_l48, q_l57, q_l80, q_l97, q_l100, q_l120, q_l122, q_l126, q_l160, q_l200, q_l214, q_l255, q_l256, q_l374, q_l400, q_l999, q_l1000, q_l9999, q_l99, q_l99999, q_nm, q_gd, q_gd2, q_ix, q_lt, q_eq, q_m5a, q_m5b, q_m40b, q_m8a, q_m8b, q_m16b, q_m374b, q_m160b, q_m10a, q_div5, q_rem5, nI_add, q_moe, q_moe2, q_mol, q_mol2, q_mor, q_bd2, q_bd1, q_stI, q_oI0, if_true, if_false, ite_true, ite_false, ↓reduceIte, Nat.lt_irrefl, Nat.not_lt_zero, Nat.add_zero, Nat.zero_add, Nat.reduceEqDiff, Nat.reduceLeDiff, Nat.reduceLT, Nat.reduceAdd, Bool.false_eq_true, and_self, and_false, false_and, true_and, and_true, not_true_eq_false, not_false_eq_true, c1, k1]
    · simp (maxSteps := 500000) (disch := first | assumption | omega) only [q_l0, q_l1, q_l2, q_l3, q_l4, q_l5, q_l6, q_l7, q_l8, q_l9, q_l10, q_l11, q_l12, q_l13, q_l14, q_l15, q_l16, q_l20, q_l21, q_l22, q_l24, q_l25, q_l26, q_l27, q_l28, q_l29, q_l30, q_l31, q_l32, q_l40, q_l48, q_l57, q_l80, q_l97, q_l100, q_l120, q_l122, q_l126, q_l160, q_l200, q_l214, q_l255, q_l256, q_l374, q_l400, q_l999, q_l1000, q_l9999, q_l99, q_l99999, q_nm, q_gd, q_gd2, q_ix, q_lt, q_eq, q_m5a, q_m5b, q_m40b, q_m8a, q_m8b, q_m16b, q_m374b, q_m160b, q_m10a, q_div5, q_rem5, nI_add, q_moe, q_moe2, q_mol, q_mol2, q_mor, q_bd2, q_bd1, q_stI, q_oI0, if_true, if_false, ite_true, ite_false, ↓reduceIte, Nat.lt_irrefl, Nat.not_lt_zero, Nat.add_zero, Nat.zero_add, Nat.reduceEqDiff, Nat.reduceLeDiff, Nat.reduceLT, Nat.reduceAdd, Bool.false_eq_true, and_self, and_false, false_and, true_and, and_true, not_true_eq_false, not_false_eq_true, c1, k0, k1]
theorem c_sAll (hC : ToC t T m) (hT : WTo T) (h2 : 0 < tB T → 2 ≤ nd) (h : nd ≤ 13) : f_X8_stripesOfAll t (nI (tB T)) (nI nd) m = some (nI (cS T nd (tB T)), m) := by
  have h6 := hT.2.2.1
  unfold f_X8_stripesOfAll
  rw [q_l0]
  refine lp0 (fun j b => f_X8_stripesOfAll_L5 t j (nI (tB T)) (nI nd) (nI (cS T nd b)) (nI b) m) (tB T) _ (fun j => ?_) (fun j b hb => ?_) (by omega)
  · simp (maxSteps := 500000) (disch := first | assumption | omega) only [f_X8_stripesOfAll_L5, q_l0, q_l1, q_l2, q_l3, q_l4, q_l5, q_l6, q_l7, q_l8, q_l9, q_l10, q_l11, q_l12, q_l13, q_l14, q_l15, q_l16, q_l20, q_l21, q_l22, q_l24, q_l25, q_l26, q_l27, q_l28, q_l29, q_l30, q_l31, q_l32, q_l40, q_l48, q_l57, q_l80, q_l97, q_l100, q_l120, q_l122, q_l126, q_l160, q_l200, q_l214, q_l255, q_l256, q_l374, q_l400, q_l999, q_l1000, q_l9999, q_l99, q_l99999, q_nm, q_gd, q_gd2, q_ix, q_lt, q_eq, q_m5a, q_m5b, q_m40b, q_m8a, q_m8b, q_m16b, q_m374b, q_m160b, q_m10a, q_div5, q_rem5, nI_add, q_moe, q_moe2, q_mol, q_mol2, q_mor, q_bd2, q_bd1, q_stI, q_oI0, if_true, if_false, ite_true, ite_false, ↓reduceIte, Nat.lt_irrefl, Nat.not_lt_zero, Nat.add_zero, Nat.zero_add, Nat.reduceEqDiff, Nat.reduceLeDiff, Nat.reduceLT, Nat.reduceAdd, Bool.false_eq_true, and_self, and_false, false_and, true_and, and_true, not_true_eq_false, not_false_eq_true]
  · have e := c_sOf hC hT hb (nd := nd) (by omega)
    simp (maxSteps := 500000) (disch := first | assumption | omega) only [f_X8_stripesOfAll_L5, q_l0, q_l1, q_l2, q_l3, q_l4, q_l5, q_l6, q_l7, q_l8, q_l9, q_l10, q_l11, q_l12, q_l13, q_l14, q_l15, q_l16, q_l20, q_l21, q_l22, q_l24, q_l25, q_l26, q_l27, q_l28, q_l29, q_l30, q_l31, q_l32, q_l40, q_l48, q_l57, q_l80, q_l97, q_l100, q_l120, q_l122, q_l126, q_l160, q_l200, q_l214, q_l255, q_l256, q_l374, q_l400, q_l999, q_l1000, q_l9999, q_l99, q_l99999, q_nm, q_gd, q_gd2, q_ix, q_lt, q_eq, q_m5a, q_m5b, q_m40b, q_m8a, q_m8b, q_m16b, q_m374b, q_m160b, q_m10a, q_div5, q_rem5, nI_add, q_moe, q_moe2, q_mol, q_mol2, q_mor, q_bd2, q_bd1, q_stI, q_oI0, if_true, if_false, ite_true, ite_false, ↓reduceIte, Nat.lt_irrefl, Nat.not_lt_zero, Nat.add_zero, Nat.zero_add, Nat.reduceEqDiff, Nat.reduceLeDiff, Nat.reduceLT, Nat.reduceAdd, Bool.false_eq_true, and_self, and_false, false_and, true_and, and_true, not_true_eq_false, not_false_eq_true, hb, e]
    rfl
theorem c_L42 (hA : A = 26 ∨ A = 40) (ht : t = 3 ∨ t = 10) (hC : ToC t T m) (hL : LawC t P m) (h : okT T P nd) (hi : isT T P nd Λ) (h1 : WL1 Λ) (h2 : WL2 Λ) (hy : WLy Λ) (hb : b < tB T) {K : Mm → Option (Int32 × Mm)} (R : Option (Int32 × Mm) → Prop) (hR : ∀ γ m2, BCn Λ (cS T nd (b + 1)) γ → lwS t m m2 → R (K (pB A γ m2))) (hB : BCn Λ (cS T nd b) β) : R (f_X4_build_L42 A t (nI nd) (nI b) (nI (sN T nd b)) K FU (nI 0) (pB A β m)) := by
  have hD : 2 ≤ nd := by
    have := h.1.2.2.2.1 (by omega)
    have := h.2.2.1
    omega
  have hs := sN_le (T := T) (b := b) hD h.2.1
  refine lpI (fun j p (s : Bv × Mm) => f_X4_build_L42 A t (nI nd) (nI b) (nI (sN T nd b)) K j (nI p) (pB A s.1 s.2)) (fun p s => BCn Λ (cS T nd b + p) s.1 ∧ lwS t m s.2) (sN T nd b) R (fun j s hI => ?_) (fun j p s hp hI => ?_) FU 0 (β, m) (by omega) (by show _ < 0 + 4096; omega) ⟨hB, lwS_r⟩
  · simp (maxSteps := 500000) (disch := first | assumption | omega) only [f_X4_build_L42, q_l0, q_l1, q_l2, q_l3, q_l4, q_l5, q_l6, q_l7, q_l8, q_l9, q_l10, q_l11, q_l12, q_l13, q_l14, q_l15, q_l16, q_l20, q_l21, q_l22, q_l24, q_l25, q_l26, q_l27, q_l28, q_l29, q_l30, q_l31, q_l32, q_l40, q_l48, q_l57, q_l80, q_l97, q_l100, q_l120, q_l122, q_l126, q_l160, q_l200, q_l214, q_l255, q_l256, q_l374, q_l400, q_l999, q_l1000, q_l9999, q_l99, q_l99999, q_nm, q_gd, q_gd2, q_ix, q_lt, q_eq, q_m5a, q_m5b, q_m40b, q_m8a, q_m8b, q_m16b, q_m374b, q_m160b, q_m10a, q_div5, q_rem5, nI_add, q_moe, q_moe2, q_mol, q_mol2, q_mor, q_bd2, q_bd1, q_stI, q_oI0, if_true, if_false, ite_true, ite_false, ↓reduceIte, Nat.lt_irrefl, Nat.not_lt_zero, Nat.add_zero, Nat.zero_add, Nat.reduceEqDiff, Nat.reduceLeDiff, Nat.reduceLT, Nat.reduceAdd, Bool.false_eq_true, and_self, and_false, false_and, true_and, and_true, not_true_eq_false, not_false_eq_true]
    exact hR s.1 s.2 hI.1 hI.2
  · obtain ⟨γ, m3, e1, e2, e3⟩ := c_add hA ht (ToC_lw hI.2 hC) (LawC_lw hI.2 hL) h hi h1 h2 hy hb hp hI.1
    refine ⟨(γ, m3), ⟨e2, lwS_t hI.2 e3⟩, ?_⟩
    simp (maxSteps := 500000) (disch := first | assumption | omega) only [f_X4_build_L42, q_l0, q_l1, q_l2, q_l3, q_l4, q_l5, q_l6, q_l7, q_l8, q_l9, q_l10, q_l11, q_l12, q_l13, q_l14, q_l15, q_l16, q_l20, q_l21, q_l22, q_l24, q_l25, q_l26, q_l27, q_l28, q_l29, q_l30, q_l31, q_l32, q_l40, q_l48, q_l57, q_l80, q_l97, q_l100, q_l120, q_l122, q_l126, q_l160, q_l200, q_l214, q_l255, q_l256, q_l374, q_l400, q_l999, q_l1000, q_l9999, q_l99, q_l99999, q_nm, q_gd, q_gd2, q_ix, q_lt, q_eq, q_m5a, q_m5b, q_m40b, q_m8a, q_m8b, q_m16b, q_m374b, q_m160b, q_m10a, q_div5, q_rem5, nI_add, q_moe, q_moe2, q_mol, q_mol2, q_mor, q_bd2, q_bd1, q_stI, q_oI0, if_true, if_false, ite_true, ite_false, ↓reduceIte, Nat.lt_irrefl, Nat.not_lt_zero, Nat.add_zero, Nat.zero_add, Nat.reduceEqDiff, Nat.reduceLeDiff, Nat.reduceLT, Nat.reduceAdd, Bool.false_eq_true, and_self, and_false, false_and, true_and, and_true, not_true_eq_false, not_false_eq_true, hp, e1]
theorem c_L23 (hA : A = 26 ∨ A = 40) (ht : t = 3 ∨ t = 10) (hC : ToC t T m) (hL : LawC t P m) (h : okT T P nd) (hi : isT T P nd Λ) (h1 : WL1 Λ) (h2 : WL2 Λ) (hy : WLy Λ) (hB : BCn Λ 0 β) : ∃ γ m2, f_X4_build_L23 A t FU (nI nd) (nI 0) (pB A β m) = f_X4_build_L71 A t FU (nI 0) (pB A γ m2) ∧ BCn Λ (yS Λ) γ ∧ lwS t m m2 := by
  have h6 := h.1.2.2.1
  have h13 := h.2.1
  have hg : ∀ (s : Bv × Mm), lwS t m s.2 → ToC t T (pB A s.1 s.2) := fun s hs => by
    have hg : ∀ b i, b ≤ t + 3 → gI (pB A s.1 s.2) b i = gI s.2 b i := fun b i hb => pB_o (by omega)
    unfold ToC
    simp (disch := omega) only [hg]
    exact ToC_lw hs hC
  refine lpI (fun j b (s : Bv × Mm) => f_X4_build_L23 A t j (nI nd) (nI b) (pB A s.1 s.2)) (fun b s => BCn Λ (cS T nd b) s.1 ∧ lwS t m s.2) (tB T) (fun o => ∃ γ m2, o = f_X4_build_L71 A t FU (nI 0) (pB A γ m2) ∧ BCn Λ (yS Λ) γ ∧ lwS t m m2) (fun j s hI => ?_) (fun j b s hb hI => ?_) FU 0 (β, m) (by omega) (by show _ < 0 + 4096; omega) ⟨hB, lwS_r⟩
  · have c2 := (hg s hI.2).2.1
    refine ⟨s.1, s.2, ?_, by rw [hi.2.1]; exact hI.1, hI.2⟩
    simp only [f_X4_build_L23]
    rw [c2, if_neg (fun e => absurd ((q_ltp (by omega) (by omega)).mp e) (Nat.lt_irrefl _)), q_l0]
  · have c2 := (hg s hI.2).2.1
    have e1 := c_sOf (hg s hI.2) h.1 hb (nd := nd) (by omega)
    have e2 := c_L42 (K := fun m8 => f_X4_build_L23 A t j (nI nd) (nI b + 1) m8) hA ht (ToC_lw hI.2 hC) (LawC_lw hI.2 hL) h hi h1 h2 hy hb (fun o => ∃ s' : Bv × Mm, (BCn Λ (cS T nd (b + 1)) s'.1 ∧ lwS t m s'.2) ∧ o = f_X4_build_L23 A t j (nI nd) (nI (b + 1)) (pB A s'.1 s'.2)) (fun γ m2 k1 k2 => ⟨(γ, m2), ⟨k1, lwS_t hI.2 k2⟩, by rw [q_l1, nI_add]⟩) hI.1
    obtain ⟨s', e3, e4⟩ := e2
    refine ⟨s', e3, ?_⟩
    simp only [f_X4_build_L23]
    rw [c2, if_pos ((q_ltp (by omega) (by omega)).mpr hb), e1, q_bd2, q_l0]
    exact e4
end Lay7
