/-! MATH HALF: lose, replace -/
abbrev onD (Λ : Lv) (S : Sv) (d x : Nat) : Prop := vx Λ x ∧ dnow Λ S x = nI d
/-- where, when the units below N that are on d are lost -/
def lsW (Λ : Lv) (S : Sv) (d N : Nat) : Nat → Int32 := fun x => if x < N ∧ onD Λ S d x then nI 2 else S.2.1 x
def lsC (Λ : Lv) (S : Sv) (d N : Nat) : Nat := ct (fun x => onD Λ S d x) N
def lsS (Λ : Lv) (S : Sv) (d : Nat) : Sv := (S.1 &&& (nI (2 ^ d) ^^^ mo), lsW Λ S d (5 * yS Λ), S.2.2)
section Lose
variable {Λ : Lv} {a x k d n i N : Nat} {S : Sv} {m : Mm} {t v : Int32}
theorem lsW_0 : lsW Λ S d 0 = S.2.1 := by
  funext x
  unfold lsW
  rw [if_neg (by omega)]
theorem lsW_s (h : onD Λ S d N) : upd (lsW Λ S d N) N (nI 2) = lsW Λ S d (N + 1) := by
  funext x
  unfold lsW upd
  dsimp only
  by_cases h1 : x = N
  · subst h1; rw [if_pos rfl, if_pos ⟨by omega, h⟩]
  · rw [if_neg h1]
    by_cases h2 : x < N ∧ onD Λ S d x
    · rw [if_pos h2, if_pos ⟨by omega, h2.2⟩]
    · rw [if_neg h2, if_neg (fun h3 => h2 ⟨by omega, h3.2⟩)]
theorem lsW_n (h : ¬ onD Λ S d N) : lsW Λ S d (N + 1) = lsW Λ S d N := by
  funext x
  unfold lsW
  by_cases h2 : x < N ∧ onD Λ S d x
  · rw [if_pos h2, if_pos ⟨by omega, h2.2⟩]
  · rw [if_neg h2]
    refine if_neg (fun h3 => h2 ⟨?_, h3.2⟩)
    have : x ≠ N := fun e => h (e ▸ h3.2)
    omega
theorem lsW_gap (hW : WL1 Λ) (hk : k < yS Λ) : lsW Λ S d (5 * k + yZ Λ k) = lsW Λ S d (5 * (k + 1)) := by
  have h5 := (hW.2.2.2.1 k hk).2.1
  funext x
  unfold lsW
  by_cases h2 : x < 5 * k + yZ Λ k ∧ onD Λ S d x
  · rw [if_pos h2, if_pos ⟨by omega, h2.2⟩]
  · rw [if_neg h2]
    refine (if_neg (fun h3 => h2 ⟨?_, h3.2⟩)).symm
    have h4 := h3.2.1.2
    rcases Nat.lt_or_ge x (5 * k) with h6 | h6
    · omega
    · have h7 : x / 5 = k := by omega
      rw [h7] at h4
      omega
theorem ct_gap {p : Nat → Prop} [DecidablePred p] {n k : Nat} (h : n ≤ k) (h2 : ∀ i, n ≤ i → i < k → ¬ p i) : ct p n = ct p k := (ct_ext h h2).symm
theorem vx_gap (hk : k < yS Λ) {y : Nat} (h1 : 5 * k + yZ Λ k ≤ y) (h2 : y < 5 * (k + 1)) : ¬ vx Λ y := by
  intro h3
  have h4 := h3.2
  have h7 : y / 5 = k := by omega
  rw [h7] at h4
  omega
theorem lsC_gap (hW : WL1 Λ) (hk : k < yS Λ) : lsC Λ S d (5 * k + yZ Λ k) = lsC Λ S d (5 * (k + 1)) := by
  have h5 := (hW.2.2.2.1 k hk).2.1
  exact ct_gap (by omega) (fun y h1 h2 h3 => vx_gap hk h1 h2 h3.1)
theorem lsC_le : lsC Λ S d N ≤ N := ct_le _ _
theorem dn_ls (h : N ≤ x) : dnow Λ (S.1, lsW Λ S d N, S.2.2) x = dnow Λ S x := by
  have e : lsW Λ S d N x = S.2.1 x := by unfold lsW; rw [if_neg (by omega)]
  unfold dnow
  simp only [e]
theorem lsC_s (h : onD Λ S d N) : lsC Λ S d (N + 1) = lsC Λ S d N + 1 := by
  unfold lsC
  conv => lhs; unfold ct
  rw [if_pos h]
theorem lsC_n (h : ¬ onD Λ S d N) : lsC Λ S d (N + 1) = lsC Λ S d N := by
  unfold lsC
  conv => lhs; unfold ct
  rw [if_neg h, Nat.add_zero]
theorem WS_ls (hS : WS Λ S) : WS Λ (S.1, lsW Λ S d N, S.2.2) := by
  intro x hx
  dsimp only
  unfold lsW
  split
  · exact Or.inr (Or.inr rfl)
  · exact hS x hx
theorem c_loseL (ha : 54 ≤ a) (hC : RelC Λ m) (hW : WL1 Λ) (hS : WS Λ S) (hd : d < yD Λ) : f_X6_loseDisk_L14 a FU (nI d) (nI 0) (nI 0) (pS a S m) = some (nI (lsC Λ S d (5 * yS Λ)), pS a (lsS Λ S d) m) := by
  have hC2 := hC
  obtain ⟨c0, c1, c2, c27, c28, c29, c30, c31, c32, c33, c34, c35, c36, c37, c38, c39⟩ := hC2
  have h3 := hW.2.1
  have h4 := hW.1
  have h0 : pS a S m = pS a (S.1, lsW Λ S d (5 * 0), S.2.2) m := by rw [lsW_0]
  rw [h0]
  refine lp0 (fun j k => f_X6_loseDisk_L14 a j (nI d) (nI (lsC Λ S d (5 * k))) (nI k) (pS a (S.1, lsW Λ S d (5 * k), S.2.2) m)) (yS Λ) _ (fun j => ?_) (fun j k hk => ?_) (by omega)
  · simp (maxSteps := 500000) (disch := first | assumption | omega) only [f_X6_loseDisk_L14, q_l0, q_l1, q_l2, q_l3, q_l4, q_l5, q_l6, q_l7, q_l8, q_l9, q_l10, q_l11, q_l12, q_l13, q_l14, q_l15, q_l16, q_l20, q_l21, q_l22, q_l24, q_l25, q_l26, q_l27, q_l28, q_l29, q_l30, q_l31, q_l32, q_l40, q_l48, q_l57, q_l80, q_l97, q_l100, q_l120, q_l122, q_l126, q_l160, q_l200, q_l214, q_l255, q_l256, q_l374, q_l400, q_l999, q_l1000, q_l9999, q_l99, q_l99999, q_nm, q_gd, q_gd2, q_ix, q_lt, q_eq, q_m5a, q_m5b, q_m40b, q_m8a, q_m8b, q_m16b, q_m374b, q_m160b, q_m10a, q_div5, q_rem5, nI_add, q_moe, q_moe2, q_mol, q_mol2, q_mor, q_bd2, q_bd1, q_stI, q_oI0, if_true, if_false, ite_true, ite_false, ↓reduceIte, Nat.lt_irrefl, Nat.not_lt_zero, Nat.add_zero, Nat.zero_add, Nat.reduceEqDiff, Nat.reduceLeDiff, Nat.reduceLT, Nat.reduceAdd, Bool.false_eq_true, and_self, and_false, false_and, true_and, and_true, not_true_eq_false, not_false_eq_true, pS_low, c1, pS_up, pS_sup, q_shl, lsS]
  · have h5 := (hW.2.2.2.1 k hk).2.1
    simp (maxSteps := 500000) (disch := first | assumption | omega) only [f_X6_loseDisk_L14, q_l0, q_l1, q_l2, q_l3, q_l4, q_l5, q_l6, q_l7, q_l8, q_l9, q_l10, q_l11, q_l12, q_l13, q_l14, q_l15, q_l16, q_l20, q_l21, q_l22, q_l24, q_l25, q_l26, q_l27, q_l28, q_l29, q_l30, q_l31, q_l32, q_l40, q_l48, q_l57, q_l80, q_l97, q_l100, q_l120, q_l122, q_l126, q_l160, q_l200, q_l214, q_l255, q_l256, q_l374, q_l400, q_l999, q_l1000, q_l9999, q_l99, q_l99999, q_nm, q_gd, q_gd2, q_ix, q_lt, q_eq, q_m5a, q_m5b, q_m40b, q_m8a, q_m8b, q_m16b, q_m374b, q_m160b, q_m10a, q_div5, q_rem5, nI_add, q_moe, q_moe2, q_mol, q_mol2, q_mor, q_bd2, q_bd1, q_stI, q_oI0, if_true, if_false, ite_true, ite_false, ↓reduceIte, Nat.lt_irrefl, Nat.not_lt_zero, Nat.add_zero, Nat.zero_add, Nat.reduceEqDiff, Nat.reduceLeDiff, Nat.reduceLT, Nat.reduceAdd, Bool.false_eq_true, and_self, and_false, false_and, true_and, and_true, not_true_eq_false, not_false_eq_true, pS_low, c1, hk]
    have hin := lp0 (fun j2 u => f_X6_loseDisk_L28 a (nI d) (nI k) (fun w7 m8 => f_X6_loseDisk_L14 a j (nI d) w7 (nI (k + 1)) m8) j2 (nI (lsC Λ S d (5 * k + u))) (nI u) (pS a (S.1, lsW Λ S d (5 * k + u), S.2.2) m)) (yZ Λ k) (f_X6_loseDisk_L14 a j (nI d) (nI (lsC Λ S d (5 * (k + 1)))) (nI (k + 1)) (pS a (S.1, lsW Λ S d (5 * (k + 1)), S.2.2) m)) (fun j2 => by
        simp (maxSteps := 500000) (disch := first | assumption | omega) only [f_X6_loseDisk_L28, q_l0, q_l1, q_l2, q_l3, q_l4, q_l5, q_l6, q_l7, q_l8, q_l9, q_l10, q_l11, q_l12, q_l13, q_l14, q_l15, q_l16, q_l20, q_l21, q_l22, q_l24, q_l25, q_l26, q_l27, q_l28, q_l29, q_l30, q_l31, q_l32, q_l40, q_l48, q_l57, q_l80, q_l97, q_l100, q_l120, q_l122, q_l126, q_l160, q_l200, q_l214, q_l255, q_l256, q_l374, q_l400, q_l999, q_l1000, q_l9999, q_l99, q_l99999, q_nm, q_gd, q_gd2, q_ix, q_lt, q_eq, q_m5a, q_m5b, q_m40b, q_m8a, q_m8b, q_m16b, q_m374b, q_m160b, q_m10a, q_div5, q_rem5, nI_add, q_moe, q_moe2, q_mol, q_mol2, q_mor, q_bd2, q_bd1, q_stI, q_oI0, if_true, if_false, ite_true, ite_false, ↓reduceIte, Nat.lt_irrefl, Nat.not_lt_zero, Nat.add_zero, Nat.zero_add, Nat.reduceEqDiff, Nat.reduceLeDiff, Nat.reduceLT, Nat.reduceAdd, Bool.false_eq_true, and_self, and_false, false_and, true_and, and_true, not_true_eq_false, not_false_eq_true, pS_low, c27, lsC_gap hW hk, lsW_gap hW hk]) (fun j2 u hu => by
        have hv := vx_mk hW hk hu
        have hl := lsC_le (Λ := Λ) (S := S) (d := d) (N := 5 * k + u)
        simp (maxSteps := 500000) (disch := first | assumption | omega) only [f_X6_loseDisk_L28, q_l0, q_l1, q_l2, q_l3, q_l4, q_l5, q_l6, q_l7, q_l8, q_l9, q_l10, q_l11, q_l12, q_l13, q_l14, q_l15, q_l16, q_l20, q_l21, q_l22, q_l24, q_l25, q_l26, q_l27, q_l28, q_l29, q_l30, q_l31, q_l32, q_l40, q_l48, q_l57, q_l80, q_l97, q_l100, q_l120, q_l122, q_l126, q_l160, q_l200, q_l214, q_l255, q_l256, q_l374, q_l400, q_l999, q_l1000, q_l9999, q_l99, q_l99999, q_nm, q_gd, q_gd2, q_ix, q_lt, q_eq, q_m5a, q_m5b, q_m40b, q_m8a, q_m8b, q_m16b, q_m374b, q_m160b, q_m10a, q_div5, q_rem5, nI_add, q_moe, q_moe2, q_mol, q_mol2, q_mor, q_bd2, q_bd1, q_stI, q_oI0, if_true, if_false, ite_true, ite_false, ↓reduceIte, Nat.lt_irrefl, Nat.not_lt_zero, Nat.add_zero, Nat.zero_add, Nat.reduceEqDiff, Nat.reduceLeDiff, Nat.reduceLT, Nat.reduceAdd, Bool.false_eq_true, and_self, and_false, false_and, true_and, and_true, not_true_eq_false, not_false_eq_true, pS_low, c27, hu, c_dnow ha hC hW hv, dn_ls (Nat.le_refl _), pS_swh]
        by_cases h6 : dnow Λ S (5 * k + u) = nI d
        · have h7 : onD Λ S d (5 * k + u) := ⟨hv, h6⟩
          have h8 : lsC Λ S d (5 * k + u + 1) = lsC Λ S d (5 * k + u) + 1 := lsC_s h7
          simp only [h6, if_true, reduceIte, lsW_s h7, ← Nat.add_assoc, h8]
        · have h7 : ¬ onD Λ S d (5 * k + u) := fun h => h6 h.2
          have h8 : lsC Λ S d (5 * k + u + 1) = lsC Λ S d (5 * k + u) := lsC_n h7
          simp only [h6, if_false, reduceIte, lsW_n h7, ← Nat.add_assoc, h8]) (by omega)
    exact hin
theorem c_loseDisk (ha : 54 ≤ a) (hC : RelC Λ m) (hW : WL1 Λ) (hS : WS Λ S) (hd : d < yD Λ) : f_X6_loseDisk a (nI d) (pS a S m) = some (if upP S d then (nI (lsC Λ S d (5 * yS Λ)), pS a (lsS Λ S d) m) else (mo, pS a S m)) := by
  have h4 := hW.1
  unfold f_X6_loseDisk
  rw [c_isUp (by omega), q_bd2]
  by_cases h : upP S d
  · simp (maxSteps := 500000) (disch := first | assumption | omega) only [h, upP, q_l0, q_l1, q_l2, q_l3, q_l4, q_l5, q_l6, q_l7, q_l8, q_l9, q_l10, q_l11, q_l12, q_l13, q_l14, q_l15, q_l16, q_l20, q_l21, q_l22, q_l24, q_l25, q_l26, q_l27, q_l28, q_l29, q_l30, q_l31, q_l32, q_l40, q_l48, q_l57, q_l80, q_l97, q_l100, q_l120, q_l122, q_l126, q_l160, q_l200, q_l214, q_l255, q_l256, q_l374, q_l400, q_l999, q_l1000, q_l9999, q_l99, q_l99999, q_nm, q_gd, q_gd2, q_ix, q_lt, q_eq, q_m5a, q_m5b, q_m40b, q_m8a, q_m8b, q_m16b, q_m374b, q_m160b, q_m10a, q_div5, q_rem5, nI_add, q_moe, q_moe2, q_mol, q_mol2, q_mor, q_bd2, q_bd1, q_stI, q_oI0, if_true, if_false, ite_true, ite_false, ↓reduceIte, Nat.lt_irrefl, Nat.not_lt_zero, Nat.add_zero, Nat.zero_add, Nat.reduceEqDiff, Nat.reduceLeDiff, Nat.reduceLT, Nat.reduceAdd, Bool.false_eq_true, and_self, and_false, false_and, true_and, and_true, not_true_eq_false, not_false_eq_true]
    exact c_loseL ha hC hW hS hd
  · simp (maxSteps := 500000) (disch := first | assumption | omega) only [h, q_l0, q_l1, q_l2, q_l3, q_l4, q_l5, q_l6, q_l7, q_l8, q_l9, q_l10, q_l11, q_l12, q_l13, q_l14, q_l15, q_l16, q_l20, q_l21, q_l22, q_l24, q_l25, q_l26, q_l27, q_l28, q_l29, q_l30, q_l31, q_l32, q_l40, q_l48, q_l57, q_l80, q_l97, q_l100, q_l120, q_l122, q_l126, q_l160, q_l200, q_l214, q_l255, q_l256, q_l374, q_l400, q_l999, q_l1000, q_l9999, q_l99, q_l99999, q_nm, q_gd, q_gd2, q_ix, q_lt, q_eq, q_m5a, q_m5b, q_m40b, q_m8a, q_m8b, q_m16b, q_m374b, q_m160b, q_m10a, q_div5, q_rem5, nI_add, q_moe, q_moe2, q_mol, q_mol2, q_mor, q_bd2, q_bd1, q_stI, q_oI0, if_true, if_false, ite_true, ite_false, ↓reduceIte, Nat.lt_irrefl, Nat.not_lt_zero, Nat.add_zero, Nat.zero_add, Nat.reduceEqDiff, Nat.reduceLeDiff, Nat.reduceLT, Nat.reduceAdd, Bool.false_eq_true, and_self, and_false, false_and, true_and, and_true, not_true_eq_false, not_false_eq_true]
theorem r_losesDisk (hR : RelR Λ m) (hW : WL1 Λ) (hS : WS Λ S) (hd : d < yD Λ) : f_X11_losesDisk (nI d) (pR Λ S m) = some (nI (lsC Λ S d (5 * yS Λ)), pR Λ (lsS Λ S d) m) := by
  have hR2 := hR
  obtain ⟨r80, r99, r108, r100, r102, r101, r103, r104, r105, r106, r109, r107⟩ := hR2
  have h3 := hW.2.1
  have h4 := hW.1
  have h0 : pR Λ S m = pR Λ (S.1, lsW Λ S d (5 * 0), S.2.2) m := by rw [lsW_0]
  rw [h0]
  refine lp0 (fun j k => f_X11_losesDisk_L4 j (nI d) (nI (lsC Λ S d (5 * k))) (nI k) (pR Λ (S.1, lsW Λ S d (5 * k), S.2.2) m)) (yS Λ) _ (fun j => ?_) (fun j k hk => ?_) (by omega)
  · simp (maxSteps := 500000) (disch := first | assumption | omega) only [f_X11_losesDisk_L4, q_l0, q_l1, q_l2, q_l3, q_l4, q_l5, q_l6, q_l7, q_l8, q_l9, q_l10, q_l11, q_l12, q_l13, q_l14, q_l15, q_l16, q_l20, q_l21, q_l22, q_l24, q_l25, q_l26, q_l27, q_l28, q_l29, q_l30, q_l31, q_l32, q_l40, q_l48, q_l57, q_l80, q_l97, q_l100, q_l120, q_l122, q_l126, q_l160, q_l200, q_l214, q_l255, q_l256, q_l374, q_l400, q_l999, q_l1000, q_l9999, q_l99, q_l99999, q_nm, q_gd, q_gd2, q_ix, q_lt, q_eq, q_m5a, q_m5b, q_m40b, q_m8a, q_m8b, q_m16b, q_m374b, q_m160b, q_m10a, q_div5, q_rem5, nI_add, q_moe, q_moe2, q_mol, q_mol2, q_mor, q_bd2, q_bd1, q_stI, q_oI0, if_true, if_false, ite_true, ite_false, ↓reduceIte, Nat.lt_irrefl, Nat.not_lt_zero, Nat.add_zero, Nat.zero_add, Nat.reduceEqDiff, Nat.reduceLeDiff, Nat.reduceLT, Nat.reduceAdd, Bool.false_eq_true, and_self, and_false, false_and, true_and, and_true, not_true_eq_false, not_false_eq_true, pR_oth, r99, pR_up, pR_sup, q_shl, lsS]
  · have h5 := (hW.2.2.2.1 k hk).2.1
    simp (maxSteps := 500000) (disch := first | assumption | omega) only [f_X11_losesDisk_L4, q_l0, q_l1, q_l2, q_l3, q_l4, q_l5, q_l6, q_l7, q_l8, q_l9, q_l10, q_l11, q_l12, q_l13, q_l14, q_l15, q_l16, q_l20, q_l21, q_l22, q_l24, q_l25, q_l26, q_l27, q_l28, q_l29, q_l30, q_l31, q_l32, q_l40, q_l48, q_l57, q_l80, q_l97, q_l100, q_l120, q_l122, q_l126, q_l160, q_l200, q_l214, q_l255, q_l256, q_l374, q_l400, q_l999, q_l1000, q_l9999, q_l99, q_l99999, q_nm, q_gd, q_gd2, q_ix, q_lt, q_eq, q_m5a, q_m5b, q_m40b, q_m8a, q_m8b, q_m16b, q_m374b, q_m160b, q_m10a, q_div5, q_rem5, nI_add, q_moe, q_moe2, q_mol, q_mol2, q_mor, q_bd2, q_bd1, q_stI, q_oI0, if_true, if_false, ite_true, ite_false, ↓reduceIte, Nat.lt_irrefl, Nat.not_lt_zero, Nat.add_zero, Nat.zero_add, Nat.reduceEqDiff, Nat.reduceLeDiff, Nat.reduceLT, Nat.reduceAdd, Bool.false_eq_true, and_self, and_false, false_and, true_and, and_true, not_true_eq_false, not_false_eq_true, pR_oth, r99, hk]
    have hin := lp0 (fun j2 u => f_X11_losesDisk_L17 (nI d) (nI k) (fun w7 m8 => f_X11_losesDisk_L4 j (nI d) w7 (nI (k + 1)) m8) j2 (nI (lsC Λ S d (5 * k + u))) (nI u) (pR Λ (S.1, lsW Λ S d (5 * k + u), S.2.2) m)) (yZ Λ k) (f_X11_losesDisk_L4 j (nI d) (nI (lsC Λ S d (5 * (k + 1)))) (nI (k + 1)) (pR Λ (S.1, lsW Λ S d (5 * (k + 1)), S.2.2) m)) (fun j2 => by
        simp (maxSteps := 500000) (disch := first | assumption | omega) only [f_X11_losesDisk_L17, q_l0, q_l1, q_l2, q_l3, q_l4, q_l5, q_l6, q_l7, q_l8, q_l9, q_l10, q_l11, q_l12, q_l13, q_l14, q_l15, q_l16, q_l20, q_l21, q_l22, q_l24, q_l25, q_l26, q_l27, q_l28, q_l29, q_l30, q_l31, q_l32, q_l40, q_l48, q_l57, q_l80, q_l97, q_l100, q_l120, q_l122, q_l126, q_l160, q_l200, q_l214, q_l255, q_l256, q_l374, q_l400, q_l999, q_l1000, q_l9999, q_l99, q_l99999, q_nm, q_gd, q_gd2, q_ix, q_lt, q_eq, q_m5a, q_m5b, q_m40b, q_m8a, q_m8b, q_m16b, q_m374b, q_m160b, q_m10a, q_div5, q_rem5, nI_add, q_moe, q_moe2, q_mol, q_mol2, q_mor, q_bd2, q_bd1, q_stI, q_oI0, if_true, if_false, ite_true, ite_false, ↓reduceIte, Nat.lt_irrefl, Nat.not_lt_zero, Nat.add_zero, Nat.zero_add, Nat.reduceEqDiff, Nat.reduceLeDiff, Nat.reduceLT, Nat.reduceAdd, Bool.false_eq_true, and_self, and_false, false_and, true_and, and_true, not_true_eq_false, not_false_eq_true, pR_oth, r100, lsC_gap hW hk, lsW_gap hW hk]) (fun j2 u hu => by
        have hv := vx_mk hW hk hu
        have hl := lsC_le (Λ := Λ) (S := S) (d := d) (N := 5 * k + u)
        simp (maxSteps := 500000) (disch := first | assumption | omega) only [f_X11_losesDisk_L17, q_l0, q_l1, q_l2, q_l3, q_l4, q_l5, q_l6, q_l7, q_l8, q_l9, q_l10, q_l11, q_l12, q_l13, q_l14, q_l15, q_l16, q_l20, q_l21, q_l22, q_l24, q_l25, q_l26, q_l27, q_l28, q_l29, q_l30, q_l31, q_l32, q_l40, q_l48, q_l57, q_l80, q_l97, q_l100, q_l120, q_l122, q_l126, q_l160, q_l200, q_l214, q_l255, q_l256, q_l374, q_l400, q_l999, q_l1000, q_l9999, q_l99, q_l99999, q_nm, q_gd, q_gd2, q_ix, q_lt, q_eq, q_m5a, q_m5b, q_m40b, q_m8a, q_m8b, q_m16b, q_m374b, q_m160b, q_m10a, q_div5, q_rem5, nI_add, q_moe, q_moe2, q_mol, q_mol2, q_mor, q_bd2, q_bd1, q_stI, q_oI0, if_true, if_false, ite_true, ite_false, ↓reduceIte, Nat.lt_irrefl, Nat.not_lt_zero, Nat.add_zero, Nat.zero_add, Nat.reduceEqDiff, Nat.reduceLeDiff, Nat.reduceLT, Nat.reduceAdd, Bool.false_eq_true, and_self, and_false, false_and, true_and, and_true, not_true_eq_false, not_false_eq_true, pR_oth, r100, hu, r_dnow hR hW (WS_ls hS) hv, dn_ls (Nat.le_refl _), pR_swh2]
        by_cases h6 : dnow Λ S (5 * k + u) = nI d
        · have h7 : onD Λ S d (5 * k + u) := ⟨hv, h6⟩
          have h8 : lsC Λ S d (5 * k + u + 1) = lsC Λ S d (5 * k + u) + 1 := lsC_s h7
          simp only [h6, if_true, reduceIte, lsW_s h7, ← Nat.add_assoc, h8]
        · have h7 : ¬ onD Λ S d (5 * k + u) := fun h => h6 h.2
          have h8 : lsC Λ S d (5 * k + u + 1) = lsC Λ S d (5 * k + u) := lsC_n h7
          simp only [h6, if_false, reduceIte, lsW_n h7, ← Nat.add_assoc, h8]) (by omega)
    exact hin
def rpS (S : Sv) (d : Nat) : Sv := (S.1 ||| nI (2 ^ d), S.2)
theorem c_replaceDisk (hd : d < 13) : f_X6_replaceDisk a (nI d) (pS a S m) = some (if upP S d then (nI 0, pS a S m) else (nI 1, pS a (rpS S d) m)) := by
  unfold f_X6_replaceDisk
  rw [c_isUp (by omega), q_bd2]
  by_cases h : upP S d
  · simp (maxSteps := 500000) (disch := first | assumption | omega) only [h, upP, q_l0, q_l1, q_l2, q_l3, q_l4, q_l5, q_l6, q_l7, q_l8, q_l9, q_l10, q_l11, q_l12, q_l13, q_l14, q_l15, q_l16, q_l20, q_l21, q_l22, q_l24, q_l25, q_l26, q_l27, q_l28, q_l29, q_l30, q_l31, q_l32, q_l40, q_l48, q_l57, q_l80, q_l97, q_l100, q_l120, q_l122, q_l126, q_l160, q_l200, q_l214, q_l255, q_l256, q_l374, q_l400, q_l999, q_l1000, q_l9999, q_l99, q_l99999, q_nm, q_gd, q_gd2, q_ix, q_lt, q_eq, q_m5a, q_m5b, q_m40b, q_m8a, q_m8b, q_m16b, q_m374b, q_m160b, q_m10a, q_div5, q_rem5, nI_add, q_moe, q_moe2, q_mol, q_mol2, q_mor, q_bd2, q_bd1, q_stI, q_oI0, if_true, if_false, ite_true, ite_false, ↓reduceIte, Nat.lt_irrefl, Nat.not_lt_zero, Nat.add_zero, Nat.zero_add, Nat.reduceEqDiff, Nat.reduceLeDiff, Nat.reduceLT, Nat.reduceAdd, Bool.false_eq_true, and_self, and_false, false_and, true_and, and_true, not_true_eq_false, not_false_eq_true]
  · simp (maxSteps := 500000) (disch := first | assumption | omega) only [h, q_l0, q_l1, q_l2, q_l3, q_l4, q_l5, q_l6, q_l7, q_l8, q_l9, q_l10, q_l11, q_l12, q_l13, q_l14, q_l15, q_l16, q_l20, q_l21, q_l22, q_l24, q_l25, q_l26, q_l27, q_l28, q_l29, q_l30, q_l31, q_l32, q_l40, q_l48, q_l57, q_l80, q_l97, q_l100, q_l120, q_l122, q_l126, q_l160, q_l200, q_l214, q_l255, q_l256, q_l374, q_l400, q_l999, q_l1000, q_l9999, q_l99, q_l99999, q_nm, q_gd, q_gd2, q_ix, q_lt, q_eq, q_m5a, q_m5b, q_m40b, q_m8a, q_m8b, q_m16b, q_m374b, q_m160b, q_m10a, q_div5, q_rem5, nI_add, q_moe, q_moe2, q_mol, q_mol2, q_mor, q_bd2, q_bd1, q_stI, q_oI0, if_true, if_false, ite_true, ite_false, ↓reduceIte, Nat.lt_irrefl, Nat.not_lt_zero, Nat.add_zero, Nat.zero_add, Nat.reduceEqDiff, Nat.reduceLeDiff, Nat.reduceLT, Nat.reduceAdd, Bool.false_eq_true, and_self, and_false, false_and, true_and, and_true, not_true_eq_false, not_false_eq_true, pS_up, pS_sup, q_shl, rpS]
end Lose
