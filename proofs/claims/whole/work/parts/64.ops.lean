/-! MATH HALF: what changes a state: loads, read, write -/
def ld (Λ : Lv) (S : Sv) (x : Nat) (t : Int32) : Sv := if dnow Λ S x = mo then S else (S.1, S.2.1, S.2.2.1, upd S.2.2.2 (ix (dnow Λ S x)) (S.2.2.2 (ix (dnow Λ S x)) + t))
/-- one load for each unit of a stripe that is there, of the first n -/
def ldA (Λ : Lv) (S : Sv) (k : Nat) : Nat → Sv
  | 0 => S
  | n + 1 => ld Λ (ldA Λ S k n) (5 * k + n) (nI 1)
section Ld
variable {Λ : Lv} {a x k d n i : Nat} {S : Sv} {m : Mm} {t : Int32}
theorem ld_1 : (ld Λ S x t).1 = S.1 := by unfold ld; split <;> rfl
theorem ld_2 : (ld Λ S x t).2.1 = S.2.1 := by unfold ld; split <;> rfl
theorem ld_3 : (ld Λ S x t).2.2.1 = S.2.2.1 := by unfold ld; split <;> rfl
theorem dn_c {T : Sv} (h : T.2.1 = S.2.1) (y : Nat) : dnow Λ T y = dnow Λ S y := by unfold dnow; rw [h]
theorem WS_c {T : Sv} (h : T.2.1 = S.2.1) (hS : WS Λ S) : WS Λ T := by unfold WS; rw [h]; exact hS
theorem WA_c {T : Sv} (h : T.2.1 = S.2.1) (hS : WA Λ S) : WA Λ T := by unfold WA; rw [h]; exact hS
theorem lostC_c {T : Sv} (h : T.2.1 = S.2.1) (k : Nat) : lostC Λ T k = lostC Λ S k := by unfold lostC; rw [h]
theorem awU_c {T : Sv} (h : T.2.1 = S.2.1) (k : Nat) : awU Λ T k = awU Λ S k := by unfold awU; rw [h]
theorem ldA_1 : (ldA Λ S k n).1 = S.1 := by
  induction n with
  | zero => rfl
  | succ n ih => unfold ldA; rw [ld_1, ih]
theorem ldA_2 : (ldA Λ S k n).2.1 = S.2.1 := by
  induction n with
  | zero => rfl
  | succ n ih => unfold ldA; rw [ld_2, ih]
theorem ldA_3 : (ldA Λ S k n).2.2.1 = S.2.2.1 := by
  induction n with
  | zero => rfl
  | succ n ih => unfold ldA; rw [ld_3, ih]
theorem c_load (ha : 54 ≤ a) (hC : RelC Λ m) (hW : WL1 Λ) (hS : WS Λ S) (hx : vx Λ x) : f_X6_load a (nI x) t (pS a S m) = some (pS a (ld Λ S x t) m) := by
  have h4 := hW.1
  unfold f_X6_load ld
  rw [c_dnow ha hC hW hx, q_bd2]
  rcases dnow_cases hW hS hx with ⟨h1, h2⟩ | ⟨h1, e, he, h2⟩
  · simp only [h2, q_l0, q_l1, q_l2, q_l3, q_l4, q_l5, q_l6, q_l7, q_l8, q_l9, q_l10, q_l11, q_l12, q_l13, q_l14, q_l15, q_l16, q_l20, q_l21, q_l22, q_l24, q_l25, q_l26, q_l27, q_l28, q_l29, q_l30, q_l31, q_l32, q_l40, q_l48, q_l57, q_l80, q_l97, q_l100, q_l120, q_l122, q_l126, q_l160, q_l200, q_l214, q_l255, q_l256, q_l374, q_l400, q_l999, q_l1000, q_l9999, q_l99, q_l99999, q_nm, q_gd, q_gd2, q_ix, q_lt, q_eq, q_m5a, q_m5b, q_m40b, q_m8a, q_m8b, q_m16b, q_m374b, q_m160b, q_m10a, q_div5, q_rem5, nI_add, q_moe, q_moe2, q_mol, q_mol2, q_mor, q_bd2, q_bd1, q_stI, q_oI0, if_true, if_false, ite_true, ite_false, ↓reduceIte, Nat.lt_irrefl, Nat.not_lt_zero, Nat.add_zero, Nat.zero_add, Nat.reduceEqDiff, Nat.reduceLeDiff, Nat.reduceLT]
  · simp (maxSteps := 500000) (disch := first | assumption | omega) only [h2, q_l0, q_l1, q_l2, q_l3, q_l4, q_l5, q_l6, q_l7, q_l8, q_l9, q_l10, q_l11, q_l12, q_l13, q_l14, q_l15, q_l16, q_l20, q_l21, q_l22, q_l24, q_l25, q_l26, q_l27, q_l28, q_l29, q_l30, q_l31, q_l32, q_l40, q_l48, q_l57, q_l80, q_l97, q_l100, q_l120, q_l122, q_l126, q_l160, q_l200, q_l214, q_l255, q_l256, q_l374, q_l400, q_l999, q_l1000, q_l9999, q_l99, q_l99999, q_nm, q_gd, q_gd2, q_ix, q_lt, q_eq, q_m5a, q_m5b, q_m40b, q_m8a, q_m8b, q_m16b, q_m374b, q_m160b, q_m10a, q_div5, q_rem5, nI_add, q_moe, q_moe2, q_mol, q_mol2, q_mor, q_bd2, q_bd1, q_stI, q_oI0, if_true, if_false, ite_true, ite_false, ↓reduceIte, Nat.lt_irrefl, Nat.not_lt_zero, Nat.add_zero, Nat.zero_add, Nat.reduceEqDiff, Nat.reduceLeDiff, Nat.reduceLT, pS_lo, pS_slo]
theorem r_loads0 (hR : RelR Λ m) (hW : WL1 Λ) (hS : WS Λ S) (hx : vx Λ x) : f_X11_loads0 (nI x) t (pR Λ S m) = some (pR Λ (ld Λ S x t) m) := by
  have h4 := hW.1
  unfold f_X11_loads0 ld
  rw [r_dnow hR hW hS hx, q_bd2]
  rcases dnow_cases hW hS hx with ⟨h1, h2⟩ | ⟨h1, e, he, h2⟩
  · simp (maxSteps := 500000) (disch := first | assumption | omega) only [h2, q_l0, q_l1, q_l2, q_l3, q_l4, q_l5, q_l6, q_l7, q_l8, q_l9, q_l10, q_l11, q_l12, q_l13, q_l14, q_l15, q_l16, q_l20, q_l21, q_l22, q_l24, q_l25, q_l26, q_l27, q_l28, q_l29, q_l30, q_l31, q_l32, q_l40, q_l48, q_l57, q_l80, q_l97, q_l100, q_l120, q_l122, q_l126, q_l160, q_l200, q_l214, q_l255, q_l256, q_l374, q_l400, q_l999, q_l1000, q_l9999, q_l99, q_l99999, q_nm, q_gd, q_gd2, q_ix, q_lt, q_eq, q_m5a, q_m5b, q_m40b, q_m8a, q_m8b, q_m16b, q_m374b, q_m160b, q_m10a, q_div5, q_rem5, nI_add, q_moe, q_moe2, q_mol, q_mol2, q_mor, q_bd2, q_bd1, q_stI, q_oI0, if_true, if_false, ite_true, ite_false, ↓reduceIte, Nat.lt_irrefl, Nat.not_lt_zero, Nat.add_zero, Nat.zero_add, Nat.reduceEqDiff, Nat.reduceLeDiff, Nat.reduceLT]
  · simp (maxSteps := 500000) (disch := first | assumption | omega) only [h2, q_l0, q_l1, q_l2, q_l3, q_l4, q_l5, q_l6, q_l7, q_l8, q_l9, q_l10, q_l11, q_l12, q_l13, q_l14, q_l15, q_l16, q_l20, q_l21, q_l22, q_l24, q_l25, q_l26, q_l27, q_l28, q_l29, q_l30, q_l31, q_l32, q_l40, q_l48, q_l57, q_l80, q_l97, q_l100, q_l120, q_l122, q_l126, q_l160, q_l200, q_l214, q_l255, q_l256, q_l374, q_l400, q_l999, q_l1000, q_l9999, q_l99, q_l99999, q_nm, q_gd, q_gd2, q_ix, q_lt, q_eq, q_m5a, q_m5b, q_m40b, q_m8a, q_m8b, q_m16b, q_m374b, q_m160b, q_m10a, q_div5, q_rem5, nI_add, q_moe, q_moe2, q_mol, q_mol2, q_mor, q_bd2, q_bd1, q_stI, q_oI0, if_true, if_false, ite_true, ite_false, ↓reduceIte, Nat.lt_irrefl, Nat.not_lt_zero, Nat.add_zero, Nat.zero_add, Nat.reduceEqDiff, Nat.reduceLeDiff, Nat.reduceLT, pR_lo, pR_slo]
theorem c_loadThere (ha : 54 ≤ a) (hC : RelC Λ m) (hW : WL1 Λ) (hS : WS Λ S) (hk : k < yS Λ) : f_X6_loadThere a (nI k) (pS a S m) = some (pS a (ldA Λ S k (yZ Λ k)) m) := by
  have hC2 := hC
  obtain ⟨c0, c1, c2, c27, c28, c29, c30, c31, c32, c33, c34, c35, c36, c37, c38, c39⟩ := hC2
  have h3 := hW.2.1
  have h5 := (hW.2.2.2.1 k hk).2.1
  refine lp0 (fun j u => f_X6_loadThere_L2 a j (nI k) (nI u) (pS a (ldA Λ S k u) m)) (yZ Λ k) _ (fun j => ?_) (fun j u hu => ?_) (by omega)
  · simp (maxSteps := 500000) (disch := first | assumption | omega) only [f_X6_loadThere_L2, q_l0, q_l1, q_l2, q_l3, q_l4, q_l5, q_l6, q_l7, q_l8, q_l9, q_l10, q_l11, q_l12, q_l13, q_l14, q_l15, q_l16, q_l20, q_l21, q_l22, q_l24, q_l25, q_l26, q_l27, q_l28, q_l29, q_l30, q_l31, q_l32, q_l40, q_l48, q_l57, q_l80, q_l97, q_l100, q_l120, q_l122, q_l126, q_l160, q_l200, q_l214, q_l255, q_l256, q_l374, q_l400, q_l999, q_l1000, q_l9999, q_l99, q_l99999, q_nm, q_gd, q_gd2, q_ix, q_lt, q_eq, q_m5a, q_m5b, q_m40b, q_m8a, q_m8b, q_m16b, q_m374b, q_m160b, q_m10a, q_div5, q_rem5, nI_add, q_moe, q_moe2, q_mol, q_mol2, q_mor, q_bd2, q_bd1, q_stI, q_oI0, if_true, if_false, ite_true, ite_false, ↓reduceIte, Nat.lt_irrefl, Nat.not_lt_zero, Nat.add_zero, Nat.zero_add, Nat.reduceEqDiff, Nat.reduceLeDiff, Nat.reduceLT, pS_low, c27]
  · simp (maxSteps := 500000) (disch := first | assumption | omega) only [f_X6_loadThere_L2, q_l0, q_l1, q_l2, q_l3, q_l4, q_l5, q_l6, q_l7, q_l8, q_l9, q_l10, q_l11, q_l12, q_l13, q_l14, q_l15, q_l16, q_l20, q_l21, q_l22, q_l24, q_l25, q_l26, q_l27, q_l28, q_l29, q_l30, q_l31, q_l32, q_l40, q_l48, q_l57, q_l80, q_l97, q_l100, q_l120, q_l122, q_l126, q_l160, q_l200, q_l214, q_l255, q_l256, q_l374, q_l400, q_l999, q_l1000, q_l9999, q_l99, q_l99999, q_nm, q_gd, q_gd2, q_ix, q_lt, q_eq, q_m5a, q_m5b, q_m40b, q_m8a, q_m8b, q_m16b, q_m374b, q_m160b, q_m10a, q_div5, q_rem5, nI_add, q_moe, q_moe2, q_mol, q_mol2, q_mor, q_bd2, q_bd1, q_stI, q_oI0, if_true, if_false, ite_true, ite_false, ↓reduceIte, Nat.lt_irrefl, Nat.not_lt_zero, Nat.add_zero, Nat.zero_add, Nat.reduceEqDiff, Nat.reduceLeDiff, Nat.reduceLT, pS_low, c27, hu, c_load ha hC hW (WS_c ldA_2 hS) (vx_mk hW hk hu), ldA]
end Ld
abbrev canR (Λ : Lv) (S : Sv) (i : Nat) : Prop := ¬ (S.2.1 (yU Λ i) = nI 2 ∧ 1 < lostC Λ S (yU Λ i / 5))
def costN (Λ : Lv) (S : Sv) (i : Nat) : Nat := if S.2.1 (yU Λ i) = nI 2 then yZ Λ (yU Λ i / 5) - 1 else 1
def rdS (Λ : Lv) (S : Sv) (i : Nat) : Sv := if S.2.1 (yU Λ i) = nI 2 then ldA Λ S (yU Λ i / 5) (yZ Λ (yU Λ i / 5)) else ld Λ S (yU Λ i) (nI 1)
/-- the unit of the parity of a datum's stripe -/
def puX (Λ : Lv) (i : Nat) : Nat := 5 * (yU Λ i / 5) + yP Λ (yU Λ i / 5)
abbrev canW (Λ : Lv) (S : Sv) (i : Nat) : Prop := ¬ 1 < lostC Λ S (yU Λ i / 5)
def priceN (Λ : Lv) (S : Sv) (i : Nat) : Nat := if S.2.1 (yU Λ i) = nI 2 then yZ Λ (yU Λ i / 5) - 1 else if S.2.1 (puX Λ i) = nI 2 then 1 else 4
def wrL (Λ : Lv) (S : Sv) (i : Nat) : Sv := if S.2.1 (yU Λ i) = nI 2 then ldA Λ S (yU Λ i / 5) (yZ Λ (yU Λ i / 5)) else if S.2.1 (puX Λ i) = nI 2 then ld Λ S (yU Λ i) (nI 1) else ld Λ (ld Λ S (yU Λ i) (nI 2)) (puX Λ i) (nI 2)
def setV (S : Sv) (x : Nat) (v : Int32) : Sv := (S.1, S.2.1, upd S.2.2.1 x v, S.2.2.2)
def wrS (Λ : Lv) (S : Sv) (i : Nat) (v : Int32) : Sv := setV (wrL Λ S i) (yU Λ i) v
section Rw
variable {Λ : Lv} {a x k d n i : Nat} {S : Sv} {m : Mm} {t v : Int32}
theorem vx_pu (hW : WL1 Λ) (h3 : WL3 Λ) (hi : i < yX Λ) : vx Λ (puX Λ i) := by
  have h := (h3.1 i hi).1.1
  exact vx_mk hW h (hW.2.2.2.1 _ h).2.2.1
/-- two lost ones of a stripe -/
theorem two_lost (hW : WL1 Λ) (h3 : WL3 Λ) (hi : i < yX Λ) (h1 : S.2.1 (yU Λ i) = nI 2) (h2 : S.2.1 (puX Λ i) = nI 2) : 1 < lostC Λ S (yU Λ i / 5) := by
  have hx := h3.1 i hi
  refine ct_two (u := yU Λ i % 5) (v := yP Λ (yU Λ i / 5)) hx.1.2 (hW.2.2.2.1 _ hx.1.1).2.2.1 hx.2.1 ?_ h2
  have e : 5 * (yU Λ i / 5) + yU Λ i % 5 = yU Λ i := by omega
  show S.2.1 (5 * (yU Λ i / 5) + yU Λ i % 5) = nI 2
  rw [e]; exact h1
theorem c_costOf (ha : 54 ≤ a) (hC : RelC Λ m) (hW : WL1 Λ) (hx : vx Λ x) : f_X6_costOf a (nI x) (pS a S m) = some (if S.2.1 x = nI 2 then (if 1 < lostC Λ S (x / 5) then mo else nI (yZ Λ (x / 5) - 1)) else nI 1, pS a S m) := by
  have hC2 := hC
  obtain ⟨c0, c1, c2, c27, c28, c29, c30, c31, c32, c33, c34, c35, c36, c37, c38, c39⟩ := hC2
  have h1 := vx_lt hW hx
  have h2 := hx.1
  have h3 := hW.2.1
  have h5 := (hW.2.2.2.1 _ hx.1)
  simp (maxSteps := 500000) (disch := first | assumption | omega) only [f_X6_costOf, q_l0, q_l1, q_l2, q_l3, q_l4, q_l5, q_l6, q_l7, q_l8, q_l9, q_l10, q_l11, q_l12, q_l13, q_l14, q_l15, q_l16, q_l20, q_l21, q_l22, q_l24, q_l25, q_l26, q_l27, q_l28, q_l29, q_l30, q_l31, q_l32, q_l40, q_l48, q_l57, q_l80, q_l97, q_l100, q_l120, q_l122, q_l126, q_l160, q_l200, q_l214, q_l255, q_l256, q_l374, q_l400, q_l999, q_l1000, q_l9999, q_l99, q_l99999, q_nm, q_gd, q_gd2, q_ix, q_lt, q_eq, q_m5a, q_m5b, q_m40b, q_m8a, q_m8b, q_m16b, q_m374b, q_m160b, q_m10a, q_div5, q_rem5, nI_add, q_moe, q_moe2, q_mol, q_mol2, q_mor, q_bd2, q_bd1, q_stI, q_oI0, if_true, if_false, ite_true, ite_false, ↓reduceIte, Nat.lt_irrefl, Nat.not_lt_zero, Nat.add_zero, Nat.zero_add, Nat.reduceEqDiff, Nat.reduceLeDiff, Nat.reduceLT, pS_wh, c_isDead ha hC hW hx.1]
  by_cases h : S.2.1 x = nI 2
  · rw [if_pos h, if_pos h]
    by_cases h6 : 1 < lostC Λ S (x / 5)
    · simp (maxSteps := 500000) (disch := first | assumption | omega) only [h6, q_l0, q_l1, q_l2, q_l3, q_l4, q_l5, q_l6, q_l7, q_l8, q_l9, q_l10, q_l11, q_l12, q_l13, q_l14, q_l15, q_l16, q_l20, q_l21, q_l22, q_l24, q_l25, q_l26, q_l27, q_l28, q_l29, q_l30, q_l31, q_l32, q_l40, q_l48, q_l57, q_l80, q_l97, q_l100, q_l120, q_l122, q_l126, q_l160, q_l200, q_l214, q_l255, q_l256, q_l374, q_l400, q_l999, q_l1000, q_l9999, q_l99, q_l99999, q_nm, q_gd, q_gd2, q_ix, q_lt, q_eq, q_m5a, q_m5b, q_m40b, q_m8a, q_m8b, q_m16b, q_m374b, q_m160b, q_m10a, q_div5, q_rem5, nI_add, q_moe, q_moe2, q_mol, q_mol2, q_mor, q_bd2, q_bd1, q_stI, q_oI0, if_true, if_false, ite_true, ite_false, ↓reduceIte, Nat.lt_irrefl, Nat.not_lt_zero, Nat.add_zero, Nat.zero_add, Nat.reduceEqDiff, Nat.reduceLeDiff, Nat.reduceLT]
    · simp (maxSteps := 500000) (disch := first | assumption | omega) only [h6, q_l0, q_l1, q_l2, q_l3, q_l4, q_l5, q_l6, q_l7, q_l8, q_l9, q_l10, q_l11, q_l12, q_l13, q_l14, q_l15, q_l16, q_l20, q_l21, q_l22, q_l24, q_l25, q_l26, q_l27, q_l28, q_l29, q_l30, q_l31, q_l32, q_l40, q_l48, q_l57, q_l80, q_l97, q_l100, q_l120, q_l122, q_l126, q_l160, q_l200, q_l214, q_l255, q_l256, q_l374, q_l400, q_l999, q_l1000, q_l9999, q_l99, q_l99999, q_nm, q_gd, q_gd2, q_ix, q_lt, q_eq, q_m5a, q_m5b, q_m40b, q_m8a, q_m8b, q_m16b, q_m374b, q_m160b, q_m10a, q_div5, q_rem5, nI_add, q_moe, q_moe2, q_mol, q_mol2, q_mor, q_bd2, q_bd1, q_stI, q_oI0, if_true, if_false, ite_true, ite_false, ↓reduceIte, Nat.lt_irrefl, Nat.not_lt_zero, Nat.add_zero, Nat.zero_add, Nat.reduceEqDiff, Nat.reduceLeDiff, Nat.reduceLT, pS_low, c27, q_sub1]
  · rw [if_neg h, if_neg h]
theorem c_readDatum (ha : 54 ≤ a) (hC : RelC Λ m) (hW : WL1 Λ) (h3 : WL3 Λ) (hS : WS Λ S) (hi : i < yX Λ) : f_X6_readDatum a (nI i) (pS a S m) = some (if canR Λ S i then (nI 1, pS a (rdS Λ S i) m) else (nI 0, pS a S m)) := by
  have hC2 := hC
  obtain ⟨c0, c1, c2, c27, c28, c29, c30, c31, c32, c33, c34, c35, c36, c37, c38, c39⟩ := hC2
  have hx := (h3.1 i hi).1
  have h1 := vx_lt hW hx
  have h4 := hW.2.2.1
  have h5 := (hW.2.2.2.1 _ hx.1)
  simp (maxSteps := 500000) (disch := first | assumption | omega) only [f_X6_readDatum, q_l0, q_l1, q_l2, q_l3, q_l4, q_l5, q_l6, q_l7, q_l8, q_l9, q_l10, q_l11, q_l12, q_l13, q_l14, q_l15, q_l16, q_l20, q_l21, q_l22, q_l24, q_l25, q_l26, q_l27, q_l28, q_l29, q_l30, q_l31, q_l32, q_l40, q_l48, q_l57, q_l80, q_l97, q_l100, q_l120, q_l122, q_l126, q_l160, q_l200, q_l214, q_l255, q_l256, q_l374, q_l400, q_l999, q_l1000, q_l9999, q_l99, q_l99999, q_nm, q_gd, q_gd2, q_ix, q_lt, q_eq, q_m5a, q_m5b, q_m40b, q_m8a, q_m8b, q_m16b, q_m374b, q_m160b, q_m10a, q_div5, q_rem5, nI_add, q_moe, q_moe2, q_mol, q_mol2, q_mor, q_bd2, q_bd1, q_stI, q_oI0, if_true, if_false, ite_true, ite_false, ↓reduceIte, Nat.lt_irrefl, Nat.not_lt_zero, Nat.add_zero, Nat.zero_add, Nat.reduceEqDiff, Nat.reduceLeDiff, Nat.reduceLT, pS_low, pS_wh, c36, c_costOf ha hC hW hx, c_load ha hC hW hS hx, c_loadThere ha hC hW hS hx.1, rdS]
  by_cases h : S.2.1 (yU Λ i) = nI 2
  · by_cases h6 : 1 < lostC Λ S (yU Λ i / 5)
    · simp (maxSteps := 500000) (disch := first | assumption | omega) only [h, h6, q_l0, q_l1, q_l2, q_l3, q_l4, q_l5, q_l6, q_l7, q_l8, q_l9, q_l10, q_l11, q_l12, q_l13, q_l14, q_l15, q_l16, q_l20, q_l21, q_l22, q_l24, q_l25, q_l26, q_l27, q_l28, q_l29, q_l30, q_l31, q_l32, q_l40, q_l48, q_l57, q_l80, q_l97, q_l100, q_l120, q_l122, q_l126, q_l160, q_l200, q_l214, q_l255, q_l256, q_l374, q_l400, q_l999, q_l1000, q_l9999, q_l99, q_l99999, q_nm, q_gd, q_gd2, q_ix, q_lt, q_eq, q_m5a, q_m5b, q_m40b, q_m8a, q_m8b, q_m16b, q_m374b, q_m160b, q_m10a, q_div5, q_rem5, nI_add, q_moe, q_moe2, q_mol, q_mol2, q_mor, q_bd2, q_bd1, q_stI, q_oI0, if_true, if_false, ite_true, ite_false, ↓reduceIte, Nat.lt_irrefl, Nat.not_lt_zero, Nat.add_zero, Nat.zero_add, Nat.reduceEqDiff, Nat.reduceLeDiff, Nat.reduceLT, and_self, not_true_eq_false, canR]
    · simp (maxSteps := 500000) (disch := first | assumption | omega) only [h, h6, q_l0, q_l1, q_l2, q_l3, q_l4, q_l5, q_l6, q_l7, q_l8, q_l9, q_l10, q_l11, q_l12, q_l13, q_l14, q_l15, q_l16, q_l20, q_l21, q_l22, q_l24, q_l25, q_l26, q_l27, q_l28, q_l29, q_l30, q_l31, q_l32, q_l40, q_l48, q_l57, q_l80, q_l97, q_l100, q_l120, q_l122, q_l126, q_l160, q_l200, q_l214, q_l255, q_l256, q_l374, q_l400, q_l999, q_l1000, q_l9999, q_l99, q_l99999, q_nm, q_gd, q_gd2, q_ix, q_lt, q_eq, q_m5a, q_m5b, q_m40b, q_m8a, q_m8b, q_m16b, q_m374b, q_m160b, q_m10a, q_div5, q_rem5, nI_add, q_moe, q_moe2, q_mol, q_mol2, q_mor, q_bd2, q_bd1, q_stI, q_oI0, if_true, if_false, ite_true, ite_false, ↓reduceIte, Nat.lt_irrefl, Nat.not_lt_zero, Nat.add_zero, Nat.zero_add, Nat.reduceEqDiff, Nat.reduceLeDiff, Nat.reduceLT, and_false, not_false_eq_true, canR]
  · simp (maxSteps := 500000) (disch := first | assumption | omega) only [h, q_l0, q_l1, q_l2, q_l3, q_l4, q_l5, q_l6, q_l7, q_l8, q_l9, q_l10, q_l11, q_l12, q_l13, q_l14, q_l15, q_l16, q_l20, q_l21, q_l22, q_l24, q_l25, q_l26, q_l27, q_l28, q_l29, q_l30, q_l31, q_l32, q_l40, q_l48, q_l57, q_l80, q_l97, q_l100, q_l120, q_l122, q_l126, q_l160, q_l200, q_l214, q_l255, q_l256, q_l374, q_l400, q_l999, q_l1000, q_l9999, q_l99, q_l99999, q_nm, q_gd, q_gd2, q_ix, q_lt, q_eq, q_m5a, q_m5b, q_m40b, q_m8a, q_m8b, q_m16b, q_m374b, q_m160b, q_m10a, q_div5, q_rem5, nI_add, q_moe, q_moe2, q_mol, q_mol2, q_mor, q_bd2, q_bd1, q_stI, q_oI0, if_true, if_false, ite_true, ite_false, ↓reduceIte, Nat.lt_irrefl, Nat.not_lt_zero, Nat.add_zero, Nat.zero_add, Nat.reduceEqDiff, Nat.reduceLeDiff, Nat.reduceLT, false_and, not_false_eq_true, canR]
theorem c_priceOf (ha : 54 ≤ a) (hC : RelC Λ m) (hW : WL1 Λ) (h3 : WL3 Λ) (hi : i < yX Λ) : f_X6_priceOf a (nI (yU Λ i)) (pS a S m) = some (if canW Λ S i then nI (priceN Λ S i) else mo, pS a S m) := by
  have hC2 := hC
  obtain ⟨c0, c1, c2, c27, c28, c29, c30, c31, c32, c33, c34, c35, c36, c37, c38, c39⟩ := hC2
  have hx := (h3.1 i hi).1
  have hp := vx_lt hW (vx_pu hW h3 hi)
  unfold puX at hp
  have h1 := vx_lt hW hx
  have h6 := hx.1
  have h4 := hW.2.1
  have h5 := (hW.2.2.2.1 _ hx.1)
  simp (maxSteps := 500000) (disch := first | assumption | omega) only [f_X6_priceOf, q_l0, q_l1, q_l2, q_l3, q_l4, q_l5, q_l6, q_l7, q_l8, q_l9, q_l10, q_l11, q_l12, q_l13, q_l14, q_l15, q_l16, q_l20, q_l21, q_l22, q_l24, q_l25, q_l26, q_l27, q_l28, q_l29, q_l30, q_l31, q_l32, q_l40, q_l48, q_l57, q_l80, q_l97, q_l100, q_l120, q_l122, q_l126, q_l160, q_l200, q_l214, q_l255, q_l256, q_l374, q_l400, q_l999, q_l1000, q_l9999, q_l99, q_l99999, q_nm, q_gd, q_gd2, q_ix, q_lt, q_eq, q_m5a, q_m5b, q_m40b, q_m8a, q_m8b, q_m16b, q_m374b, q_m160b, q_m10a, q_div5, q_rem5, nI_add, q_moe, q_moe2, q_mol, q_mol2, q_mor, q_bd2, q_bd1, q_stI, q_oI0, if_true, if_false, ite_true, ite_false, ↓reduceIte, Nat.lt_irrefl, Nat.not_lt_zero, Nat.add_zero, Nat.zero_add, Nat.reduceEqDiff, Nat.reduceLeDiff, Nat.reduceLT, c_isDead ha hC hW hx.1, pS_low, pS_wh, c27, c28, q_sub1, priceN, puX]
  by_cases h6 : 1 < lostC Λ S (yU Λ i / 5)
  · simp (maxSteps := 500000) (disch := first | assumption | omega) only [h6, q_l0, q_l1, q_l2, q_l3, q_l4, q_l5, q_l6, q_l7, q_l8, q_l9, q_l10, q_l11, q_l12, q_l13, q_l14, q_l15, q_l16, q_l20, q_l21, q_l22, q_l24, q_l25, q_l26, q_l27, q_l28, q_l29, q_l30, q_l31, q_l32, q_l40, q_l48, q_l57, q_l80, q_l97, q_l100, q_l120, q_l122, q_l126, q_l160, q_l200, q_l214, q_l255, q_l256, q_l374, q_l400, q_l999, q_l1000, q_l9999, q_l99, q_l99999, q_nm, q_gd, q_gd2, q_ix, q_lt, q_eq, q_m5a, q_m5b, q_m40b, q_m8a, q_m8b, q_m16b, q_m374b, q_m160b, q_m10a, q_div5, q_rem5, nI_add, q_moe, q_moe2, q_mol, q_mol2, q_mor, q_bd2, q_bd1, q_stI, q_oI0, if_true, if_false, ite_true, ite_false, ↓reduceIte, Nat.lt_irrefl, Nat.not_lt_zero, Nat.add_zero, Nat.zero_add, Nat.reduceEqDiff, Nat.reduceLeDiff, Nat.reduceLT, not_true_eq_false, canW]
  · simp (maxSteps := 500000) (disch := first | assumption | omega) only [h6, q_l0, q_l1, q_l2, q_l3, q_l4, q_l5, q_l6, q_l7, q_l8, q_l9, q_l10, q_l11, q_l12, q_l13, q_l14, q_l15, q_l16, q_l20, q_l21, q_l22, q_l24, q_l25, q_l26, q_l27, q_l28, q_l29, q_l30, q_l31, q_l32, q_l40, q_l48, q_l57, q_l80, q_l97, q_l100, q_l120, q_l122, q_l126, q_l160, q_l200, q_l214, q_l255, q_l256, q_l374, q_l400, q_l999, q_l1000, q_l9999, q_l99, q_l99999, q_nm, q_gd, q_gd2, q_ix, q_lt, q_eq, q_m5a, q_m5b, q_m40b, q_m8a, q_m8b, q_m16b, q_m374b, q_m160b, q_m10a, q_div5, q_rem5, nI_add, q_moe, q_moe2, q_mol, q_mol2, q_mor, q_bd2, q_bd1, q_stI, q_oI0, if_true, if_false, ite_true, ite_false, ↓reduceIte, Nat.lt_irrefl, Nat.not_lt_zero, Nat.add_zero, Nat.zero_add, Nat.reduceEqDiff, Nat.reduceLeDiff, Nat.reduceLT, not_false_eq_true, canW]
    by_cases h : S.2.1 (yU Λ i) = nI 2
    · simp only [h, if_true, reduceIte]
    · by_cases h9 : S.2.1 (5 * (yU Λ i / 5) + yP Λ (yU Λ i / 5)) = nI 2
      · simp only [h, h9, if_true, if_false, reduceIte]
      · simp only [h, h9, if_false, reduceIte]
theorem c_writeDatum (ha : 54 ≤ a) (hC : RelC Λ m) (hW : WL1 Λ) (h3 : WL3 Λ) (hS : WS Λ S) (hi : i < yX Λ) : f_X6_writeDatum a (nI i) v (pS a S m) = some (if canW Λ S i then (nI (priceN Λ S i), pS a (wrS Λ S i v) m) else (mo, pS a S m)) := by
  have hC2 := hC
  obtain ⟨c0, c1, c2, c27, c28, c29, c30, c31, c32, c33, c34, c35, c36, c37, c38, c39⟩ := hC2
  have hx := (h3.1 i hi).1
  have hpv := vx_pu hW h3 hi
  have hp := vx_lt hW hpv
  unfold puX at hp hpv
  have h1 := vx_lt hW hx
  have h6 := hx.1
  have h4 := hW.2.1
  have h7 := hW.2.2.1
  have h5 := (hW.2.2.2.1 _ hx.1)
  have hpr : priceN Λ S i < 2147483648 := by
    unfold priceN
    split
    · omega
    · split <;> omega
  unfold f_X6_writeDatum
  simp (maxSteps := 500000) (disch := first | assumption | omega) only [q_l0, q_l1, q_l2, q_l3, q_l4, q_l5, q_l6, q_l7, q_l8, q_l9, q_l10, q_l11, q_l12, q_l13, q_l14, q_l15, q_l16, q_l20, q_l21, q_l22, q_l24, q_l25, q_l26, q_l27, q_l28, q_l29, q_l30, q_l31, q_l32, q_l40, q_l48, q_l57, q_l80, q_l97, q_l100, q_l120, q_l122, q_l126, q_l160, q_l200, q_l214, q_l255, q_l256, q_l374, q_l400, q_l999, q_l1000, q_l9999, q_l99, q_l99999, q_nm, q_gd, q_gd2, q_ix, q_lt, q_eq, q_m5a, q_m5b, q_m40b, q_m8a, q_m8b, q_m16b, q_m374b, q_m160b, q_m10a, q_div5, q_rem5, nI_add, q_moe, q_moe2, q_mol, q_mol2, q_mor, q_bd2, q_bd1, q_stI, q_oI0, if_true, if_false, ite_true, ite_false, ↓reduceIte, Nat.lt_irrefl, Nat.not_lt_zero, Nat.add_zero, Nat.zero_add, Nat.reduceEqDiff, Nat.reduceLeDiff, Nat.reduceLT, pS_low, c36, c_priceOf ha hC hW h3 hi]
  by_cases h8 : 1 < lostC Λ S (yU Λ i / 5)
  · simp (maxSteps := 500000) (disch := first | assumption | omega) only [h8, q_l0, q_l1, q_l2, q_l3, q_l4, q_l5, q_l6, q_l7, q_l8, q_l9, q_l10, q_l11, q_l12, q_l13, q_l14, q_l15, q_l16, q_l20, q_l21, q_l22, q_l24, q_l25, q_l26, q_l27, q_l28, q_l29, q_l30, q_l31, q_l32, q_l40, q_l48, q_l57, q_l80, q_l97, q_l100, q_l120, q_l122, q_l126, q_l160, q_l200, q_l214, q_l255, q_l256, q_l374, q_l400, q_l999, q_l1000, q_l9999, q_l99, q_l99999, q_nm, q_gd, q_gd2, q_ix, q_lt, q_eq, q_m5a, q_m5b, q_m40b, q_m8a, q_m8b, q_m16b, q_m374b, q_m160b, q_m10a, q_div5, q_rem5, nI_add, q_moe, q_moe2, q_mol, q_mol2, q_mor, q_bd2, q_bd1, q_stI, q_oI0, if_true, if_false, ite_true, ite_false, ↓reduceIte, Nat.lt_irrefl, Nat.not_lt_zero, Nat.add_zero, Nat.zero_add, Nat.reduceEqDiff, Nat.reduceLeDiff, Nat.reduceLT, not_true_eq_false, canW]
  · simp (maxSteps := 500000) (disch := first | assumption | omega) only [h8, q_l0, q_l1, q_l2, q_l3, q_l4, q_l5, q_l6, q_l7, q_l8, q_l9, q_l10, q_l11, q_l12, q_l13, q_l14, q_l15, q_l16, q_l20, q_l21, q_l22, q_l24, q_l25, q_l26, q_l27, q_l28, q_l29, q_l30, q_l31, q_l32, q_l40, q_l48, q_l57, q_l80, q_l97, q_l100, q_l120, q_l122, q_l126, q_l160, q_l200, q_l214, q_l255, q_l256, q_l374, q_l400, q_l999, q_l1000, q_l9999, q_l99, q_l99999, q_nm, q_gd, q_gd2, q_ix, q_lt, q_eq, q_m5a, q_m5b, q_m40b, q_m8a, q_m8b, q_m16b, q_m374b, q_m160b, q_m10a, q_div5, q_rem5, nI_add, q_moe, q_moe2, q_mol, q_mol2, q_mor, q_bd2, q_bd1, q_stI, q_oI0, if_true, if_false, ite_true, ite_false, ↓reduceIte, Nat.lt_irrefl, Nat.not_lt_zero, Nat.add_zero, Nat.zero_add, Nat.reduceEqDiff, Nat.reduceLeDiff, Nat.reduceLT, not_false_eq_true, canW, pS_wh, pS_low, c28, wrS, wrL, setV, puX, c_loadThere ha hC hW hS hx.1, c_load ha hC hW hS hx, c_load ha hC hW (WS_c ld_2 hS) hpv]
    by_cases h : S.2.1 (yU Λ i) = nI 2
    · simp (maxSteps := 500000) (disch := first | assumption | omega) only [h, q_l0, q_l1, q_l2, q_l3, q_l4, q_l5, q_l6, q_l7, q_l8, q_l9, q_l10, q_l11, q_l12, q_l13, q_l14, q_l15, q_l16, q_l20, q_l21, q_l22, q_l24, q_l25, q_l26, q_l27, q_l28, q_l29, q_l30, q_l31, q_l32, q_l40, q_l48, q_l57, q_l80, q_l97, q_l100, q_l120, q_l122, q_l126, q_l160, q_l200, q_l214, q_l255, q_l256, q_l374, q_l400, q_l999, q_l1000, q_l9999, q_l99, q_l99999, q_nm, q_gd, q_gd2, q_ix, q_lt, q_eq, q_m5a, q_m5b, q_m40b, q_m8a, q_m8b, q_m16b, q_m374b, q_m160b, q_m10a, q_div5, q_rem5, nI_add, q_moe, q_moe2, q_mol, q_mol2, q_mor, q_bd2, q_bd1, q_stI, q_oI0, if_true, if_false, ite_true, ite_false, ↓reduceIte, Nat.lt_irrefl, Nat.not_lt_zero, Nat.add_zero, Nat.zero_add, Nat.reduceEqDiff, Nat.reduceLeDiff, Nat.reduceLT, pS_sva]
    · by_cases h9 : S.2.1 (5 * (yU Λ i / 5) + yP Λ (yU Λ i / 5)) = nI 2
      · simp (maxSteps := 500000) (disch := first | assumption | omega) only [h, h9, q_l0, q_l1, q_l2, q_l3, q_l4, q_l5, q_l6, q_l7, q_l8, q_l9, q_l10, q_l11, q_l12, q_l13, q_l14, q_l15, q_l16, q_l20, q_l21, q_l22, q_l24, q_l25, q_l26, q_l27, q_l28, q_l29, q_l30, q_l31, q_l32, q_l40, q_l48, q_l57, q_l80, q_l97, q_l100, q_l120, q_l122, q_l126, q_l160, q_l200, q_l214, q_l255, q_l256, q_l374, q_l400, q_l999, q_l1000, q_l9999, q_l99, q_l99999, q_nm, q_gd, q_gd2, q_ix, q_lt, q_eq, q_m5a, q_m5b, q_m40b, q_m8a, q_m8b, q_m16b, q_m374b, q_m160b, q_m10a, q_div5, q_rem5, nI_add, q_moe, q_moe2, q_mol, q_mol2, q_mor, q_bd2, q_bd1, q_stI, q_oI0, if_true, if_false, ite_true, ite_false, ↓reduceIte, Nat.lt_irrefl, Nat.not_lt_zero, Nat.add_zero, Nat.zero_add, Nat.reduceEqDiff, Nat.reduceLeDiff, Nat.reduceLT, pS_sva]
      · simp (maxSteps := 500000) (disch := first | assumption | omega) only [h, h9, q_l0, q_l1, q_l2, q_l3, q_l4, q_l5, q_l6, q_l7, q_l8, q_l9, q_l10, q_l11, q_l12, q_l13, q_l14, q_l15, q_l16, q_l20, q_l21, q_l22, q_l24, q_l25, q_l26, q_l27, q_l28, q_l29, q_l30, q_l31, q_l32, q_l40, q_l48, q_l57, q_l80, q_l97, q_l100, q_l120, q_l122, q_l126, q_l160, q_l200, q_l214, q_l255, q_l256, q_l374, q_l400, q_l999, q_l1000, q_l9999, q_l99, q_l99999, q_nm, q_gd, q_gd2, q_ix, q_lt, q_eq, q_m5a, q_m5b, q_m40b, q_m8a, q_m8b, q_m16b, q_m374b, q_m160b, q_m10a, q_div5, q_rem5, nI_add, q_moe, q_moe2, q_mol, q_mol2, q_mor, q_bd2, q_bd1, q_stI, q_oI0, if_true, if_false, ite_true, ite_false, ↓reduceIte, Nat.lt_irrefl, Nat.not_lt_zero, Nat.add_zero, Nat.zero_add, Nat.reduceEqDiff, Nat.reduceLeDiff, Nat.reduceLT, pS_sva]
theorem r_loop (hR : RelR Λ m) (hW : WL1 Λ) (hS : WS Λ S) (hk : k < yS Λ) : f_X11_readsDatum_L36 FU (nI i) (nI k) (nI 0) (pR Λ S m) = gd (inb (nI 214 + nI i) 374) (some (gI (pR Λ (ldA Λ S k (yZ Λ k)) m) 117 (ix (nI 214 + nI i)), pR Λ (ldA Λ S k (yZ Λ k)) m)) := by
  have hR2 := hR
  obtain ⟨r80, r99, r108, r100, r102, r101, r103, r104, r105, r106, r109, r107⟩ := hR2
  have h3 := hW.2.1
  have h5 := (hW.2.2.2.1 k hk).2.1
  refine lp0 (fun j u => f_X11_readsDatum_L36 j (nI i) (nI k) (nI u) (pR Λ (ldA Λ S k u) m)) (yZ Λ k) _ (fun j => ?_) (fun j u hu => ?_) (by omega)
  · unfold f_X11_readsDatum_L36
    simp (maxSteps := 500000) (disch := first | assumption | omega) only [q_l214, q_gd, q_ix, pR_oth, r100, q_lt, Nat.lt_irrefl, if_false, reduceIte]
  · simp (maxSteps := 500000) (disch := first | assumption | omega) only [f_X11_readsDatum_L36, q_l0, q_l1, q_l2, q_l3, q_l4, q_l5, q_l6, q_l7, q_l8, q_l9, q_l10, q_l11, q_l12, q_l13, q_l14, q_l15, q_l16, q_l20, q_l21, q_l22, q_l24, q_l25, q_l26, q_l27, q_l28, q_l29, q_l30, q_l31, q_l32, q_l40, q_l48, q_l57, q_l80, q_l97, q_l100, q_l120, q_l122, q_l126, q_l160, q_l200, q_l214, q_l255, q_l256, q_l374, q_l400, q_l999, q_l1000, q_l9999, q_l99, q_l99999, q_nm, q_gd, q_gd2, q_ix, q_lt, q_eq, q_m5a, q_m5b, q_m40b, q_m8a, q_m8b, q_m16b, q_m374b, q_m160b, q_m10a, q_div5, q_rem5, nI_add, q_moe, q_moe2, q_mol, q_mol2, q_mor, q_bd2, q_bd1, q_stI, q_oI0, if_true, if_false, ite_true, ite_false, ↓reduceIte, Nat.lt_irrefl, Nat.not_lt_zero, Nat.add_zero, Nat.zero_add, Nat.reduceEqDiff, Nat.reduceLeDiff, Nat.reduceLT, pR_oth, r100, hu, r_loads0 hR hW (WS_c ldA_2 hS) (vx_mk hW hk hu), ldA]
theorem r_canRead (hR : RelR Λ m) (hW : WL1 Λ) (h3 : WL3 Λ) (hi : i < yX Λ) : f_X11_canRead (nI i) (pR Λ S m) = some (nI (if canR Λ S i then 1 else 0), pR Λ S m) := by
  have hR2 := hR
  obtain ⟨r80, r99, r108, r100, r102, r101, r103, r104, r105, r106, r109, r107⟩ := hR2
  have hx := (h3.1 i hi).1
  have h1 := vx_lt hW hx
  have h4 := hW.2.2.1
  simp (maxSteps := 500000) (disch := first | assumption | omega) only [f_X11_canRead, q_l0, q_l1, q_l2, q_l3, q_l4, q_l5, q_l6, q_l7, q_l8, q_l9, q_l10, q_l11, q_l12, q_l13, q_l14, q_l15, q_l16, q_l20, q_l21, q_l22, q_l24, q_l25, q_l26, q_l27, q_l28, q_l29, q_l30, q_l31, q_l32, q_l40, q_l48, q_l57, q_l80, q_l97, q_l100, q_l120, q_l122, q_l126, q_l160, q_l200, q_l214, q_l255, q_l256, q_l374, q_l400, q_l999, q_l1000, q_l9999, q_l99, q_l99999, q_nm, q_gd, q_gd2, q_ix, q_lt, q_eq, q_m5a, q_m5b, q_m40b, q_m8a, q_m8b, q_m16b, q_m374b, q_m160b, q_m10a, q_div5, q_rem5, nI_add, q_moe, q_moe2, q_mol, q_mol2, q_mor, q_bd2, q_bd1, q_stI, q_oI0, if_true, if_false, ite_true, ite_false, ↓reduceIte, Nat.lt_irrefl, Nat.not_lt_zero, Nat.add_zero, Nat.zero_add, Nat.reduceEqDiff, Nat.reduceLeDiff, Nat.reduceLT, pR_oth, r107, pR_wh, r_isDead hR hW hx.1]
  by_cases h : S.2.1 (yU Λ i) = nI 2
  · by_cases h6 : 1 < lostC Λ S (yU Λ i / 5)
    · simp (maxSteps := 500000) (disch := first | assumption | omega) only [h, h6, q_l0, q_l1, q_l2, q_l3, q_l4, q_l5, q_l6, q_l7, q_l8, q_l9, q_l10, q_l11, q_l12, q_l13, q_l14, q_l15, q_l16, q_l20, q_l21, q_l22, q_l24, q_l25, q_l26, q_l27, q_l28, q_l29, q_l30, q_l31, q_l32, q_l40, q_l48, q_l57, q_l80, q_l97, q_l100, q_l120, q_l122, q_l126, q_l160, q_l200, q_l214, q_l255, q_l256, q_l374, q_l400, q_l999, q_l1000, q_l9999, q_l99, q_l99999, q_nm, q_gd, q_gd2, q_ix, q_lt, q_eq, q_m5a, q_m5b, q_m40b, q_m8a, q_m8b, q_m16b, q_m374b, q_m160b, q_m10a, q_div5, q_rem5, nI_add, q_moe, q_moe2, q_mol, q_mol2, q_mor, q_bd2, q_bd1, q_stI, q_oI0, if_true, if_false, ite_true, ite_false, ↓reduceIte, Nat.lt_irrefl, Nat.not_lt_zero, Nat.add_zero, Nat.zero_add, Nat.reduceEqDiff, Nat.reduceLeDiff, Nat.reduceLT, and_self, not_true_eq_false, canR]
    · simp (maxSteps := 500000) (disch := first | assumption | omega) only [h, h6, q_l0, q_l1, q_l2, q_l3, q_l4, q_l5, q_l6, q_l7, q_l8, q_l9, q_l10, q_l11, q_l12, q_l13, q_l14, q_l15, q_l16, q_l20, q_l21, q_l22, q_l24, q_l25, q_l26, q_l27, q_l28, q_l29, q_l30, q_l31, q_l32, q_l40, q_l48, q_l57, q_l80, q_l97, q_l100, q_l120, q_l122, q_l126, q_l160, q_l200, q_l214, q_l255, q_l256, q_l374, q_l400, q_l999, q_l1000, q_l9999, q_l99, q_l99999, q_nm, q_gd, q_gd2, q_ix, q_lt, q_eq, q_m5a, q_m5b, q_m40b, q_m8a, q_m8b, q_m16b, q_m374b, q_m160b, q_m10a, q_div5, q_rem5, nI_add, q_moe, q_moe2, q_mol, q_mol2, q_mor, q_bd2, q_bd1, q_stI, q_oI0, if_true, if_false, ite_true, ite_false, ↓reduceIte, Nat.lt_irrefl, Nat.not_lt_zero, Nat.add_zero, Nat.zero_add, Nat.reduceEqDiff, Nat.reduceLeDiff, Nat.reduceLT, and_false, not_false_eq_true, canR]
  · simp (maxSteps := 500000) (disch := first | assumption | omega) only [h, q_l0, q_l1, q_l2, q_l3, q_l4, q_l5, q_l6, q_l7, q_l8, q_l9, q_l10, q_l11, q_l12, q_l13, q_l14, q_l15, q_l16, q_l20, q_l21, q_l22, q_l24, q_l25, q_l26, q_l27, q_l28, q_l29, q_l30, q_l31, q_l32, q_l40, q_l48, q_l57, q_l80, q_l97, q_l100, q_l120, q_l122, q_l126, q_l160, q_l200, q_l214, q_l255, q_l256, q_l374, q_l400, q_l999, q_l1000, q_l9999, q_l99, q_l99999, q_nm, q_gd, q_gd2, q_ix, q_lt, q_eq, q_m5a, q_m5b, q_m40b, q_m8a, q_m8b, q_m16b, q_m374b, q_m160b, q_m10a, q_div5, q_rem5, nI_add, q_moe, q_moe2, q_mol, q_mol2, q_mor, q_bd2, q_bd1, q_stI, q_oI0, if_true, if_false, ite_true, ite_false, ↓reduceIte, Nat.lt_irrefl, Nat.not_lt_zero, Nat.add_zero, Nat.zero_add, Nat.reduceEqDiff, Nat.reduceLeDiff, Nat.reduceLT, false_and, not_false_eq_true, canR]
theorem r_readsDatum (hR : RelR Λ m) (hW : WL1 Λ) (h3 : WL3 Λ) (hS : WS Λ S) (hi : i < yX Λ) : f_X11_readsDatum (nI i) (pR Λ S m) = some (S.2.2.1 (yU Λ i), pR Λ (rdS Λ S i) m) := by
  have hR2 := hR
  obtain ⟨r80, r99, r108, r100, r102, r101, r103, r104, r105, r106, r109, r107⟩ := hR2
  have hx := (h3.1 i hi).1
  have h1 := vx_lt hW hx
  have h4 := hW.2.2.1
  have hl := r_loop (i := i) hR hW hS hx.1
  unfold f_X11_readsDatum
  simp (maxSteps := 500000) (disch := first | assumption | omega) only [q_l0, q_l1, q_l2, q_l3, q_l4, q_l5, q_l6, q_l7, q_l8, q_l9, q_l10, q_l11, q_l12, q_l13, q_l14, q_l15, q_l16, q_l20, q_l21, q_l22, q_l24, q_l25, q_l26, q_l27, q_l28, q_l29, q_l30, q_l31, q_l32, q_l40, q_l48, q_l57, q_l80, q_l97, q_l100, q_l120, q_l122, q_l126, q_l160, q_l200, q_l214, q_l255, q_l256, q_l374, q_l400, q_l999, q_l1000, q_l9999, q_l99, q_l99999, q_nm, q_gd, q_gd2, q_ix, q_lt, q_eq, q_m5a, q_m5b, q_m40b, q_m8a, q_m8b, q_m16b, q_m374b, q_m160b, q_m10a, q_div5, q_rem5, nI_add, q_moe, q_moe2, q_mol, q_mol2, q_mor, q_bd2, q_bd1, q_stI, q_oI0, if_true, if_false, ite_true, ite_false, ↓reduceIte, Nat.lt_irrefl, Nat.not_lt_zero, Nat.add_zero, Nat.zero_add, Nat.reduceEqDiff, Nat.reduceLeDiff, Nat.reduceLT, pR_oth, r107, pR_wh, rdS]
  by_cases h : S.2.1 (yU Λ i) = nI 2
  · simp (maxSteps := 500000) (disch := first | assumption | omega) only [h, hl, q_l0, q_l1, q_l2, q_l3, q_l4, q_l5, q_l6, q_l7, q_l8, q_l9, q_l10, q_l11, q_l12, q_l13, q_l14, q_l15, q_l16, q_l20, q_l21, q_l22, q_l24, q_l25, q_l26, q_l27, q_l28, q_l29, q_l30, q_l31, q_l32, q_l40, q_l48, q_l57, q_l80, q_l97, q_l100, q_l120, q_l122, q_l126, q_l160, q_l200, q_l214, q_l255, q_l256, q_l374, q_l400, q_l999, q_l1000, q_l9999, q_l99, q_l99999, q_nm, q_gd, q_gd2, q_ix, q_lt, q_eq, q_m5a, q_m5b, q_m40b, q_m8a, q_m8b, q_m16b, q_m374b, q_m160b, q_m10a, q_div5, q_rem5, nI_add, q_moe, q_moe2, q_mol, q_mol2, q_mor, q_bd2, q_bd1, q_stI, q_oI0, if_true, if_false, ite_true, ite_false, ↓reduceIte, Nat.lt_irrefl, Nat.not_lt_zero, Nat.add_zero, Nat.zero_add, Nat.reduceEqDiff, Nat.reduceLeDiff, Nat.reduceLT, pR_va, ldA_3]
  · simp (maxSteps := 500000) (disch := first | assumption | omega) only [h, q_l0, q_l1, q_l2, q_l3, q_l4, q_l5, q_l6, q_l7, q_l8, q_l9, q_l10, q_l11, q_l12, q_l13, q_l14, q_l15, q_l16, q_l20, q_l21, q_l22, q_l24, q_l25, q_l26, q_l27, q_l28, q_l29, q_l30, q_l31, q_l32, q_l40, q_l48, q_l57, q_l80, q_l97, q_l100, q_l120, q_l122, q_l126, q_l160, q_l200, q_l214, q_l255, q_l256, q_l374, q_l400, q_l999, q_l1000, q_l9999, q_l99, q_l99999, q_nm, q_gd, q_gd2, q_ix, q_lt, q_eq, q_m5a, q_m5b, q_m40b, q_m8a, q_m8b, q_m16b, q_m374b, q_m160b, q_m10a, q_div5, q_rem5, nI_add, q_moe, q_moe2, q_mol, q_mol2, q_mor, q_bd2, q_bd1, q_stI, q_oI0, if_true, if_false, ite_true, ite_false, ↓reduceIte, Nat.lt_irrefl, Nat.not_lt_zero, Nat.add_zero, Nat.zero_add, Nat.reduceEqDiff, Nat.reduceLeDiff, Nat.reduceLT, r_loads0 hR hW hS hx, pR_va, ld_3]
theorem r_canWrite (hR : RelR Λ m) (hW : WL1 Λ) (h3 : WL3 Λ) (hi : i < yX Λ) : f_X11_canWrite (nI i) (pR Λ S m) = some (nI (if canW Λ S i then 1 else 0), pR Λ S m) := by
  have hR2 := hR
  obtain ⟨r80, r99, r108, r100, r102, r101, r103, r104, r105, r106, r109, r107⟩ := hR2
  have hx := (h3.1 i hi).1
  have h1 := vx_lt hW hx
  have h4 := hW.2.2.1
  simp (maxSteps := 500000) (disch := first | assumption | omega) only [f_X11_canWrite, q_l0, q_l1, q_l2, q_l3, q_l4, q_l5, q_l6, q_l7, q_l8, q_l9, q_l10, q_l11, q_l12, q_l13, q_l14, q_l15, q_l16, q_l20, q_l21, q_l22, q_l24, q_l25, q_l26, q_l27, q_l28, q_l29, q_l30, q_l31, q_l32, q_l40, q_l48, q_l57, q_l80, q_l97, q_l100, q_l120, q_l122, q_l126, q_l160, q_l200, q_l214, q_l255, q_l256, q_l374, q_l400, q_l999, q_l1000, q_l9999, q_l99, q_l99999, q_nm, q_gd, q_gd2, q_ix, q_lt, q_eq, q_m5a, q_m5b, q_m40b, q_m8a, q_m8b, q_m16b, q_m374b, q_m160b, q_m10a, q_div5, q_rem5, nI_add, q_moe, q_moe2, q_mol, q_mol2, q_mor, q_bd2, q_bd1, q_stI, q_oI0, if_true, if_false, ite_true, ite_false, ↓reduceIte, Nat.lt_irrefl, Nat.not_lt_zero, Nat.add_zero, Nat.zero_add, Nat.reduceEqDiff, Nat.reduceLeDiff, Nat.reduceLT, pR_oth, r107, r_isDead hR hW hx.1]
  by_cases h6 : 1 < lostC Λ S (yU Λ i / 5)
  · simp (maxSteps := 500000) (disch := first | assumption | omega) only [h6, q_l0, q_l1, q_l2, q_l3, q_l4, q_l5, q_l6, q_l7, q_l8, q_l9, q_l10, q_l11, q_l12, q_l13, q_l14, q_l15, q_l16, q_l20, q_l21, q_l22, q_l24, q_l25, q_l26, q_l27, q_l28, q_l29, q_l30, q_l31, q_l32, q_l40, q_l48, q_l57, q_l80, q_l97, q_l100, q_l120, q_l122, q_l126, q_l160, q_l200, q_l214, q_l255, q_l256, q_l374, q_l400, q_l999, q_l1000, q_l9999, q_l99, q_l99999, q_nm, q_gd, q_gd2, q_ix, q_lt, q_eq, q_m5a, q_m5b, q_m40b, q_m8a, q_m8b, q_m16b, q_m374b, q_m160b, q_m10a, q_div5, q_rem5, nI_add, q_moe, q_moe2, q_mol, q_mol2, q_mor, q_bd2, q_bd1, q_stI, q_oI0, if_true, if_false, ite_true, ite_false, ↓reduceIte, Nat.lt_irrefl, Nat.not_lt_zero, Nat.add_zero, Nat.zero_add, Nat.reduceEqDiff, Nat.reduceLeDiff, Nat.reduceLT, not_true_eq_false, canW]
  · simp (maxSteps := 500000) (disch := first | assumption | omega) only [h6, q_l0, q_l1, q_l2, q_l3, q_l4, q_l5, q_l6, q_l7, q_l8, q_l9, q_l10, q_l11, q_l12, q_l13, q_l14, q_l15, q_l16, q_l20, q_l21, q_l22, q_l24, q_l25, q_l26, q_l27, q_l28, q_l29, q_l30, q_l31, q_l32, q_l40, q_l48, q_l57, q_l80, q_l97, q_l100, q_l120, q_l122, q_l126, q_l160, q_l200, q_l214, q_l255, q_l256, q_l374, q_l400, q_l999, q_l1000, q_l9999, q_l99, q_l99999, q_nm, q_gd, q_gd2, q_ix, q_lt, q_eq, q_m5a, q_m5b, q_m40b, q_m8a, q_m8b, q_m16b, q_m374b, q_m160b, q_m10a, q_div5, q_rem5, nI_add, q_moe, q_moe2, q_mol, q_mol2, q_mor, q_bd2, q_bd1, q_stI, q_oI0, if_true, if_false, ite_true, ite_false, ↓reduceIte, Nat.lt_irrefl, Nat.not_lt_zero, Nat.add_zero, Nat.zero_add, Nat.reduceEqDiff, Nat.reduceLeDiff, Nat.reduceLT, not_false_eq_true, canW]
theorem r_priceOf (hR : RelR Λ m) (hW : WL1 Λ) (h3 : WL3 Λ) (hi : i < yX Λ) (hc : canW Λ S i) : f_X11_priceOf (nI i) (pR Λ S m) = some (nI (priceN Λ S i), pR Λ S m) := by
  have hR2 := hR
  obtain ⟨r80, r99, r108, r100, r102, r101, r103, r104, r105, r106, r109, r107⟩ := hR2
  have hx := (h3.1 i hi).1
  have hp := vx_lt hW (vx_pu hW h3 hi)
  have h2l := two_lost (S := S) hW h3 hi
  unfold puX at hp h2l
  have h1 := vx_lt hW hx
  have h6 := hx.1
  have h4 := hW.2.1
  have h7 := hW.2.2.1
  have h5 := (hW.2.2.2.1 _ hx.1)
  simp (maxSteps := 500000) (disch := first | assumption | omega) only [f_X11_priceOf, q_l0, q_l1, q_l2, q_l3, q_l4, q_l5, q_l6, q_l7, q_l8, q_l9, q_l10, q_l11, q_l12, q_l13, q_l14, q_l15, q_l16, q_l20, q_l21, q_l22, q_l24, q_l25, q_l26, q_l27, q_l28, q_l29, q_l30, q_l31, q_l32, q_l40, q_l48, q_l57, q_l80, q_l97, q_l100, q_l120, q_l122, q_l126, q_l160, q_l200, q_l214, q_l255, q_l256, q_l374, q_l400, q_l999, q_l1000, q_l9999, q_l99, q_l99999, q_nm, q_gd, q_gd2, q_ix, q_lt, q_eq, q_m5a, q_m5b, q_m40b, q_m8a, q_m8b, q_m16b, q_m374b, q_m160b, q_m10a, q_div5, q_rem5, nI_add, q_moe, q_moe2, q_mol, q_mol2, q_mor, q_bd2, q_bd1, q_stI, q_oI0, if_true, if_false, ite_true, ite_false, ↓reduceIte, Nat.lt_irrefl, Nat.not_lt_zero, Nat.add_zero, Nat.zero_add, Nat.reduceEqDiff, Nat.reduceLeDiff, Nat.reduceLT, pR_oth, r107, r102, r100, pR_wh, pR_wh2, q_sub1, priceN, puX]
  by_cases h : S.2.1 (yU Λ i) = nI 2
  · by_cases h9 : S.2.1 (5 * (yU Λ i / 5) + yP Λ (yU Λ i / 5)) = nI 2
    · exact absurd (h2l h h9) hc
    · simp (maxSteps := 500000) (disch := first | assumption | omega) only [h, h9, q_l0, q_l1, q_l2, q_l3, q_l4, q_l5, q_l6, q_l7, q_l8, q_l9, q_l10, q_l11, q_l12, q_l13, q_l14, q_l15, q_l16, q_l20, q_l21, q_l22, q_l24, q_l25, q_l26, q_l27, q_l28, q_l29, q_l30, q_l31, q_l32, q_l40, q_l48, q_l57, q_l80, q_l97, q_l100, q_l120, q_l122, q_l126, q_l160, q_l200, q_l214, q_l255, q_l256, q_l374, q_l400, q_l999, q_l1000, q_l9999, q_l99, q_l99999, q_nm, q_gd, q_gd2, q_ix, q_lt, q_eq, q_m5a, q_m5b, q_m40b, q_m8a, q_m8b, q_m16b, q_m374b, q_m160b, q_m10a, q_div5, q_rem5, nI_add, q_moe, q_moe2, q_mol, q_mol2, q_mor, q_bd2, q_bd1, q_stI, q_oI0, if_true, if_false, ite_true, ite_false, ↓reduceIte, Nat.lt_irrefl, Nat.not_lt_zero, Nat.add_zero, Nat.zero_add, Nat.reduceEqDiff, Nat.reduceLeDiff, Nat.reduceLT]
  · by_cases h9 : S.2.1 (5 * (yU Λ i / 5) + yP Λ (yU Λ i / 5)) = nI 2
    · simp (maxSteps := 500000) (disch := first | assumption | omega) only [h, h9, q_l0, q_l1, q_l2, q_l3, q_l4, q_l5, q_l6, q_l7, q_l8, q_l9, q_l10, q_l11, q_l12, q_l13, q_l14, q_l15, q_l16, q_l20, q_l21, q_l22, q_l24, q_l25, q_l26, q_l27, q_l28, q_l29, q_l30, q_l31, q_l32, q_l40, q_l48, q_l57, q_l80, q_l97, q_l100, q_l120, q_l122, q_l126, q_l160, q_l200, q_l214, q_l255, q_l256, q_l374, q_l400, q_l999, q_l1000, q_l9999, q_l99, q_l99999, q_nm, q_gd, q_gd2, q_ix, q_lt, q_eq, q_m5a, q_m5b, q_m40b, q_m8a, q_m8b, q_m16b, q_m374b, q_m160b, q_m10a, q_div5, q_rem5, nI_add, q_moe, q_moe2, q_mol, q_mol2, q_mor, q_bd2, q_bd1, q_stI, q_oI0, if_true, if_false, ite_true, ite_false, ↓reduceIte, Nat.lt_irrefl, Nat.not_lt_zero, Nat.add_zero, Nat.zero_add, Nat.reduceEqDiff, Nat.reduceLeDiff, Nat.reduceLT]
    · simp (maxSteps := 500000) (disch := first | assumption | omega) only [h, h9, q_l0, q_l1, q_l2, q_l3, q_l4, q_l5, q_l6, q_l7, q_l8, q_l9, q_l10, q_l11, q_l12, q_l13, q_l14, q_l15, q_l16, q_l20, q_l21, q_l22, q_l24, q_l25, q_l26, q_l27, q_l28, q_l29, q_l30, q_l31, q_l32, q_l40, q_l48, q_l57, q_l80, q_l97, q_l100, q_l120, q_l122, q_l126, q_l160, q_l200, q_l214, q_l255, q_l256, q_l374, q_l400, q_l999, q_l1000, q_l9999, q_l99, q_l99999, q_nm, q_gd, q_gd2, q_ix, q_lt, q_eq, q_m5a, q_m5b, q_m40b, q_m8a, q_m8b, q_m16b, q_m374b, q_m160b, q_m10a, q_div5, q_rem5, nI_add, q_moe, q_moe2, q_mol, q_mol2, q_mor, q_bd2, q_bd1, q_stI, q_oI0, if_true, if_false, ite_true, ite_false, ↓reduceIte, Nat.lt_irrefl, Nat.not_lt_zero, Nat.add_zero, Nat.zero_add, Nat.reduceEqDiff, Nat.reduceLeDiff, Nat.reduceLT]
theorem r_loopW (hR : RelR Λ m) (hW : WL1 Λ) (hS : WS Λ S) (hk : k < yS Λ) : f_X11_writesDatum_L35 FU (nI i) v (nI k) t (nI 0) (pR Λ S m) = f_X11_writesDatum_J124 (nI i) v t (pR Λ (ldA Λ S k (yZ Λ k)) m) := by
  have hR2 := hR
  obtain ⟨r80, r99, r108, r100, r102, r101, r103, r104, r105, r106, r109, r107⟩ := hR2
  have h3 := hW.2.1
  have h5 := (hW.2.2.2.1 k hk).2.1
  refine lp0 (fun j u => f_X11_writesDatum_L35 j (nI i) v (nI k) t (nI u) (pR Λ (ldA Λ S k u) m)) (yZ Λ k) _ (fun j => ?_) (fun j u hu => ?_) (by omega)
  · simp (maxSteps := 500000) (disch := first | assumption | omega) only [f_X11_writesDatum_L35, q_l0, q_l1, q_l2, q_l3, q_l4, q_l5, q_l6, q_l7, q_l8, q_l9, q_l10, q_l11, q_l12, q_l13, q_l14, q_l15, q_l16, q_l20, q_l21, q_l22, q_l24, q_l25, q_l26, q_l27, q_l28, q_l29, q_l30, q_l31, q_l32, q_l40, q_l48, q_l57, q_l80, q_l97, q_l100, q_l120, q_l122, q_l126, q_l160, q_l200, q_l214, q_l255, q_l256, q_l374, q_l400, q_l999, q_l1000, q_l9999, q_l99, q_l99999, q_nm, q_gd, q_gd2, q_ix, q_lt, q_eq, q_m5a, q_m5b, q_m40b, q_m8a, q_m8b, q_m16b, q_m374b, q_m160b, q_m10a, q_div5, q_rem5, nI_add, q_moe, q_moe2, q_mol, q_mol2, q_mor, q_bd2, q_bd1, q_stI, q_oI0, if_true, if_false, ite_true, ite_false, ↓reduceIte, Nat.lt_irrefl, Nat.not_lt_zero, Nat.add_zero, Nat.zero_add, Nat.reduceEqDiff, Nat.reduceLeDiff, Nat.reduceLT, pR_oth, r100]
  · simp (maxSteps := 500000) (disch := first | assumption | omega) only [f_X11_writesDatum_L35, q_l0, q_l1, q_l2, q_l3, q_l4, q_l5, q_l6, q_l7, q_l8, q_l9, q_l10, q_l11, q_l12, q_l13, q_l14, q_l15, q_l16, q_l20, q_l21, q_l22, q_l24, q_l25, q_l26, q_l27, q_l28, q_l29, q_l30, q_l31, q_l32, q_l40, q_l48, q_l57, q_l80, q_l97, q_l100, q_l120, q_l122, q_l126, q_l160, q_l200, q_l214, q_l255, q_l256, q_l374, q_l400, q_l999, q_l1000, q_l9999, q_l99, q_l99999, q_nm, q_gd, q_gd2, q_ix, q_lt, q_eq, q_m5a, q_m5b, q_m40b, q_m8a, q_m8b, q_m16b, q_m374b, q_m160b, q_m10a, q_div5, q_rem5, nI_add, q_moe, q_moe2, q_mol, q_mol2, q_mor, q_bd2, q_bd1, q_stI, q_oI0, if_true, if_false, ite_true, ite_false, ↓reduceIte, Nat.lt_irrefl, Nat.not_lt_zero, Nat.add_zero, Nat.zero_add, Nat.reduceEqDiff, Nat.reduceLeDiff, Nat.reduceLT, pR_oth, r100, hu, r_loads0 hR hW (WS_c ldA_2 hS) (vx_mk hW hk hu), ldA]
theorem r_writesDatum (hR : RelR Λ m) (hW : WL1 Λ) (h3 : WL3 Λ) (hS : WS Λ S) (hi : i < yX Λ) (hc : canW Λ S i) : f_X11_writesDatum (nI i) v (pR Λ S m) = some (nI (priceN Λ S i), pR Λ (wrS Λ S i v) m) := by
  have hR2 := hR
  obtain ⟨r80, r99, r108, r100, r102, r101, r103, r104, r105, r106, r109, r107⟩ := hR2
  have hx := (h3.1 i hi).1
  have hpv := vx_pu hW h3 hi
  have hp := vx_lt hW hpv
  unfold puX at hp hpv
  have h1 := vx_lt hW hx
  have h6 := hx.1
  have h4 := hW.2.1
  have h7 := hW.2.2.1
  have h5 := (hW.2.2.2.1 _ hx.1)
  unfold f_X11_writesDatum
  simp (maxSteps := 500000) (disch := first | assumption | omega) only [q_l0, q_l1, q_l2, q_l3, q_l4, q_l5, q_l6, q_l7, q_l8, q_l9, q_l10, q_l11, q_l12, q_l13, q_l14, q_l15, q_l16, q_l20, q_l21, q_l22, q_l24, q_l25, q_l26, q_l27, q_l28, q_l29, q_l30, q_l31, q_l32, q_l40, q_l48, q_l57, q_l80, q_l97, q_l100, q_l120, q_l122, q_l126, q_l160, q_l200, q_l214, q_l255, q_l256, q_l374, q_l400, q_l999, q_l1000, q_l9999, q_l99, q_l99999, q_nm, q_gd, q_gd2, q_ix, q_lt, q_eq, q_m5a, q_m5b, q_m40b, q_m8a, q_m8b, q_m16b, q_m374b, q_m160b, q_m10a, q_div5, q_rem5, nI_add, q_moe, q_moe2, q_mol, q_mol2, q_mor, q_bd2, q_bd1, q_stI, q_oI0, if_true, if_false, ite_true, ite_false, ↓reduceIte, Nat.lt_irrefl, Nat.not_lt_zero, Nat.add_zero, Nat.zero_add, Nat.reduceEqDiff, Nat.reduceLeDiff, Nat.reduceLT, pR_oth, r107, r102, r_priceOf hR hW h3 hi hc, pR_wh, pR_wh2, wrS, wrL, setV, puX]
  by_cases h : S.2.1 (yU Λ i) = nI 2
  · simp (maxSteps := 500000) (disch := first | assumption | omega) only [h, q_l0, q_l1, q_l2, q_l3, q_l4, q_l5, q_l6, q_l7, q_l8, q_l9, q_l10, q_l11, q_l12, q_l13, q_l14, q_l15, q_l16, q_l20, q_l21, q_l22, q_l24, q_l25, q_l26, q_l27, q_l28, q_l29, q_l30, q_l31, q_l32, q_l40, q_l48, q_l57, q_l80, q_l97, q_l100, q_l120, q_l122, q_l126, q_l160, q_l200, q_l214, q_l255, q_l256, q_l374, q_l400, q_l999, q_l1000, q_l9999, q_l99, q_l99999, q_nm, q_gd, q_gd2, q_ix, q_lt, q_eq, q_m5a, q_m5b, q_m40b, q_m8a, q_m8b, q_m16b, q_m374b, q_m160b, q_m10a, q_div5, q_rem5, nI_add, q_moe, q_moe2, q_mol, q_mol2, q_mor, q_bd2, q_bd1, q_stI, q_oI0, if_true, if_false, ite_true, ite_false, ↓reduceIte, Nat.lt_irrefl, Nat.not_lt_zero, Nat.add_zero, Nat.zero_add, Nat.reduceEqDiff, Nat.reduceLeDiff, Nat.reduceLT, r_loopW hR hW hS hx.1, f_X11_writesDatum_J124, pR_sva h3 hi]
  · by_cases h9 : S.2.1 (5 * (yU Λ i / 5) + yP Λ (yU Λ i / 5)) = nI 2
    · simp (maxSteps := 500000) (disch := first | assumption | omega) only [h, h9, q_l0, q_l1, q_l2, q_l3, q_l4, q_l5, q_l6, q_l7, q_l8, q_l9, q_l10, q_l11, q_l12, q_l13, q_l14, q_l15, q_l16, q_l20, q_l21, q_l22, q_l24, q_l25, q_l26, q_l27, q_l28, q_l29, q_l30, q_l31, q_l32, q_l40, q_l48, q_l57, q_l80, q_l97, q_l100, q_l120, q_l122, q_l126, q_l160, q_l200, q_l214, q_l255, q_l256, q_l374, q_l400, q_l999, q_l1000, q_l9999, q_l99, q_l99999, q_nm, q_gd, q_gd2, q_ix, q_lt, q_eq, q_m5a, q_m5b, q_m40b, q_m8a, q_m8b, q_m16b, q_m374b, q_m160b, q_m10a, q_div5, q_rem5, nI_add, q_moe, q_moe2, q_mol, q_mol2, q_mor, q_bd2, q_bd1, q_stI, q_oI0, if_true, if_false, ite_true, ite_false, ↓reduceIte, Nat.lt_irrefl, Nat.not_lt_zero, Nat.add_zero, Nat.zero_add, Nat.reduceEqDiff, Nat.reduceLeDiff, Nat.reduceLT, r_loads0 hR hW hS hx, f_X11_writesDatum_J124, pR_sva h3 hi]
    · simp (maxSteps := 500000) (disch := first | assumption | omega) only [h, h9, q_l0, q_l1, q_l2, q_l3, q_l4, q_l5, q_l6, q_l7, q_l8, q_l9, q_l10, q_l11, q_l12, q_l13, q_l14, q_l15, q_l16, q_l20, q_l21, q_l22, q_l24, q_l25, q_l26, q_l27, q_l28, q_l29, q_l30, q_l31, q_l32, q_l40, q_l48, q_l57, q_l80, q_l97, q_l100, q_l120, q_l122, q_l126, q_l160, q_l200, q_l214, q_l255, q_l256, q_l374, q_l400, q_l999, q_l1000, q_l9999, q_l99, q_l99999, q_nm, q_gd, q_gd2, q_ix, q_lt, q_eq, q_m5a, q_m5b, q_m40b, q_m8a, q_m8b, q_m16b, q_m374b, q_m160b, q_m10a, q_div5, q_rem5, nI_add, q_moe, q_moe2, q_mol, q_mol2, q_mor, q_bd2, q_bd1, q_stI, q_oI0, if_true, if_false, ite_true, ite_false, ↓reduceIte, Nat.lt_irrefl, Nat.not_lt_zero, Nat.add_zero, Nat.zero_add, Nat.reduceEqDiff, Nat.reduceLeDiff, Nat.reduceLT, r_loads0 hR hW hS hx, pR_oth, r102, r_loads0 hR hW (WS_c ld_2 hS) hpv, f_X11_writesDatum_J124, pR_sva h3 hi]
end Rw
