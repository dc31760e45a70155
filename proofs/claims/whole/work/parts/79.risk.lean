/-! MATH HALF: bears, risk, would -/
/-- the loss of these disks would kill a stripe -/
def killP (Λ : Lv) (S : Sv) (s : Nat) : Prop := ∃ k, k < yS Λ ∧ lostC Λ S k < 2 ∧ 2 ≤ lostC Λ S k + pc (dnB Λ S k (yZ Λ k) &&& s)
def sumN (f : Nat → Nat) : Nat → Nat
  | 0 => 0
  | n + 1 => sumN f n + f n
section Rsk
variable {Λ T : Lv} {a b x k d o n i N K z c B t u w v p s q : Nat} {S : Sv} {m m2 m3 : Mm} {x1 x2 x3 st : Int32} {g : Nat → Int32}
theorem c_kills (h : Hq Λ S m) (hW : WL1 Λ) (hS : WS Λ S) (hs : s < 8192) : (killP Λ S s → f_X5_kills (nI s) m = some (nI 1, m)) ∧ (¬ killP Λ S s → f_X5_kills (nI s) m = some (nI 0, m)) := by
  have c1 := h.1.2.1
  have h3 := hW.2.1
  have hstep := fun (k : Nat) (hk : k < yS Λ) (j : Nat) => by
    have e1 := c_lostMany (S := S) (a := 54) (by omega) h.1 hW hk
    have e2 := c_disksNow (S := S) (a := 54) (by omega) h.1 hW hS hk
    rw [h.2.2.1] at e1 e2
    have hb := dnB_lt hW hS hk (Nat.le_refl _)
    have hl := lostC_le (S := S) hW hk
    have hp : dnB Λ S k (yZ Λ k) &&& s < 8192 := Nat.lt_of_le_of_lt Nat.and_le_left hb
    have hpc : pc (dnB Λ S k (yZ Λ k) &&& s) ≤ 13 := ct_le _ _
    have e3 := bc_pc _ hp
    exact (show f_X5_kills_L2 (j + 1) (nI s) (nI k) m = if lostC Λ S k < 2 ∧ 2 ≤ lostC Λ S k + pc (dnB Λ S k (yZ Λ k) &&& s) then some (nI 1, m) else f_X5_kills_L2 j (nI s) (nI (k + 1)) m from by
      by_cases p1 : lostC Λ S k < 2
      · by_cases p2 : lostC Λ S k + pc (dnB Λ S k (yZ Λ k) &&& s) < 2
        · rw [if_neg (by omega)]
          simp (maxSteps := 500000) (disch := first | assumption | omega) only [f_X5_kills_L2, q_l0, q_l1, q_l2, q_l3, q_l4, q_l5, q_l6, q_l7, q_l8, q_l9, q_l10, q_l11, q_l12, q_l13, q_l14, q_l15, q_l16, q_l20, q_l21, q_l22, q_l24, q_l25, q_l26, q_l27, q_l28, q_l29, q_l30, q_l31, q_l32, q_l40, q_l48, q_l57, q_l80, q_l97, q_l100, q_l120, q_l122, q_l126, q_l160, q_l200, q_l214, q_l255, q_l256, q_l374, q_l400, q_l999, q_l1000, q_l9999, q_l99, q_l99999, q_nm, q_gd, q_gd2, q_ix, q_lt, q_eq, q_m5a, q_m5b, q_m40b, q_m8a, q_m8b, q_m16b, q_m374b, q_m160b, q_m10a, q_div5, q_rem5, nI_add, q_moe, q_moe2, q_mol, q_mol2, q_mor, q_bd2, q_bd1, q_stI, q_oI0, if_true, if_false, ite_true, ite_false, ↓reduceIte, Nat.lt_irrefl, Nat.not_lt_zero, Nat.add_zero, Nat.zero_add, Nat.reduceEqDiff, Nat.reduceLeDiff, Nat.reduceLT, Nat.reduceAdd, Bool.false_eq_true, and_self, and_false, false_and, true_and, and_true, not_true_eq_false, not_false_eq_true, c1, hk, e1, e2, p1, q_and, f_bc, e3, p2]
        · rw [if_pos (by omega)]
          simp (maxSteps := 500000) (disch := first | assumption | omega) only [f_X5_kills_L2, q_l0, q_l1, q_l2, q_l3, q_l4, q_l5, q_l6, q_l7, q_l8, q_l9, q_l10, q_l11, q_l12, q_l13, q_l14, q_l15, q_l16, q_l20, q_l21, q_l22, q_l24, q_l25, q_l26, q_l27, q_l28, q_l29, q_l30, q_l31, q_l32, q_l40, q_l48, q_l57, q_l80, q_l97, q_l100, q_l120, q_l122, q_l126, q_l160, q_l200, q_l214, q_l255, q_l256, q_l374, q_l400, q_l999, q_l1000, q_l9999, q_l99, q_l99999, q_nm, q_gd, q_gd2, q_ix, q_lt, q_eq, q_m5a, q_m5b, q_m40b, q_m8a, q_m8b, q_m16b, q_m374b, q_m160b, q_m10a, q_div5, q_rem5, nI_add, q_moe, q_moe2, q_mol, q_mol2, q_mor, q_bd2, q_bd1, q_stI, q_oI0, if_true, if_false, ite_true, ite_false, ↓reduceIte, Nat.lt_irrefl, Nat.not_lt_zero, Nat.add_zero, Nat.zero_add, Nat.reduceEqDiff, Nat.reduceLeDiff, Nat.reduceLT, Nat.reduceAdd, Bool.false_eq_true, and_self, and_false, false_and, true_and, and_true, not_true_eq_false, not_false_eq_true, c1, hk, e1, e2, p1, q_and, f_bc, e3, p2]
      · rw [if_neg (by omega)]
        simp (maxSteps := 500000) (disch := first | assumption | omega) only [f_X5_kills_L2, q_l0, q_l1, q_l2, q_l3, q_l4, q_l5, q_l6, q_l7, q_l8, q_l9, q_l10, q_l11, q_l12, q_l13, q_l14, q_l15, q_l16, q_l20, q_l21, q_l22, q_l24, q_l25, q_l26, q_l27, q_l28, q_l29, q_l30, q_l31, q_l32, q_l40, q_l48, q_l57, q_l80, q_l97, q_l100, q_l120, q_l122, q_l126, q_l160, q_l200, q_l214, q_l255, q_l256, q_l374, q_l400, q_l999, q_l1000, q_l9999, q_l99, q_l99999, q_nm, q_gd, q_gd2, q_ix, q_lt, q_eq, q_m5a, q_m5b, q_m40b, q_m8a, q_m8b, q_m16b, q_m374b, q_m160b, q_m10a, q_div5, q_rem5, nI_add, q_moe, q_moe2, q_mol, q_mol2, q_mor, q_bd2, q_bd1, q_stI, q_oI0, if_true, if_false, ite_true, ite_false, ↓reduceIte, Nat.lt_irrefl, Nat.not_lt_zero, Nat.add_zero, Nat.zero_add, Nat.reduceEqDiff, Nat.reduceLeDiff, Nat.reduceLT, Nat.reduceAdd, Bool.false_eq_true, and_self, and_false, false_and, true_and, and_true, not_true_eq_false, not_false_eq_true, c1, hk, e1, p1])
  have hx := lpx (fun j k => f_X5_kills_L2 j (nI s) (nI k) m) (fun k => lostC Λ S k < 2 ∧ 2 ≤ lostC Λ S k + pc (dnB Λ S k (yZ Λ k) &&& s)) 0 (yS Λ) (some (nI 1, m)) (some (nI 0, m)) (by omega) (by omega) (fun j => by
    simp (maxSteps := 500000) (disch := first | assumption | omega) only [f_X5_kills_L2, q_l0, q_l1, q_l2, q_l3, q_l4, q_l5, q_l6, q_l7, q_l8, q_l9, q_l10, q_l11, q_l12, q_l13, q_l14, q_l15, q_l16, q_l20, q_l21, q_l22, q_l24, q_l25, q_l26, q_l27, q_l28, q_l29, q_l30, q_l31, q_l32, q_l40, q_l48, q_l57, q_l80, q_l97, q_l100, q_l120, q_l122, q_l126, q_l160, q_l200, q_l214, q_l255, q_l256, q_l374, q_l400, q_l999, q_l1000, q_l9999, q_l99, q_l99999, q_nm, q_gd, q_gd2, q_ix, q_lt, q_eq, q_m5a, q_m5b, q_m40b, q_m8a, q_m8b, q_m16b, q_m374b, q_m160b, q_m10a, q_div5, q_rem5, nI_add, q_moe, q_moe2, q_mol, q_mol2, q_mor, q_bd2, q_bd1, q_stI, q_oI0, if_true, if_false, ite_true, ite_false, ↓reduceIte, Nat.lt_irrefl, Nat.not_lt_zero, Nat.add_zero, Nat.zero_add, Nat.reduceEqDiff, Nat.reduceLeDiff, Nat.reduceLT, Nat.reduceAdd, Bool.false_eq_true, and_self, and_false, false_and, true_and, and_true, not_true_eq_false, not_false_eq_true, c1]) (fun j k _ hk hp => by
    have e := hstep k hk j
    rw [if_pos hp] at e
    exact e) (fun j k _ hk hp => by
    have e := hstep k hk j
    rw [if_neg hp] at e
    exact e)
  constructor
  · rintro ⟨k, h1, h2⟩
    exact hx.1 ⟨k, by omega, h1, h2⟩
  · intro hn
    exact hx.2 (fun k _ h1 h2 => hn ⟨k, h1, h2⟩)
theorem WS_lsS (hS : WS Λ S) : WS Λ (lsS Λ S d) := WS_c (S := (S.1, lsW Λ S d (5 * yS Λ), S.2.2)) rfl (WS_ls hS)
theorem kill1 (hW : WL1 Λ) (hW2 : WL2 Λ) (hS : WS Λ S) (hA : WA Λ S) (hd : d < yD Λ) : (deC Λ (lsS Λ S d) = deC Λ S ↔ ¬ killP Λ S (2 ^ d)) := by
  have h13 := hW.1
  have hl : ∀ k, k < yS Λ → lostC Λ (lsS Λ S d) k = lostC Λ S k + pc (dnB Λ S k (yZ Λ k) &&& 2 ^ d) := fun k hk => by
    rw [ls_lost hW hS hk (by omega), bit_ct hW hW2 hS hA hk hd, pc_one _ _ (by omega)]
  have himp : ∀ k, k < yS Λ → 1 < lostC Λ S k → 1 < lostC Λ (lsS Λ S d) k := fun k hk h => by rw [hl k hk]; omega
  have hlt := ct_imp_lt himp
  have hle := ct_imp_le himp
  unfold deC
  constructor
  · rintro e ⟨k, h1, h2, h3⟩
    have := hlt.mpr ⟨k, h1, by rw [hl k h1]; omega, by omega⟩
    omega
  · intro hn
    refine Classical.byContradiction fun he => ?_
    obtain ⟨k, h1, h2, h3⟩ := hlt.mp (by omega)
    rw [hl k h1] at h2
    exact hn ⟨k, h1, by omega, by omega⟩
theorem kill2 (hW : WL1 Λ) (hW2 : WL2 Λ) (hS : WS Λ S) (hA : WA Λ S) (hd : d < yD Λ) (ho : o < yD Λ) (hne : d ≠ o) : (deC Λ S < deC Λ (lsS Λ (lsS Λ S d) o) ↔ killP Λ S (2 ^ d ||| 2 ^ o)) := by
  have h13 := hW.1
  have hl : ∀ k, k < yS Λ → lostC Λ (lsS Λ (lsS Λ S d) o) k = lostC Λ S k + pc (dnB Λ S k (yZ Λ k) &&& (2 ^ d ||| 2 ^ o)) := fun k hk => by
    rw [ls_lost hW (WS_lsS hS) hk (by omega), ls_lost hW hS hk (by omega), pc_two _ _ _ (by omega) (by omega) hne, pc_one _ _ (by omega), pc_one _ _ (by omega), ← bit_ct hW hW2 hS hA hk hd, ← bit_ct hW hW2 hS hA hk ho, Nat.add_assoc]
    congr 2
    refine ct_congr (fun u hu => ?_)
    rw [ls_dn (vx_mk hW hk hu)]
    by_cases h : dnow Λ S (5 * k + u) = nI d
    · rw [if_pos h, h, q_moe2 (by omega), q_eq (by omega) (by omega)]
      exact ⟨fun h => h.elim, fun h => absurd h hne⟩
    · rw [if_neg h]
  have himp : ∀ k, k < yS Λ → 1 < lostC Λ S k → 1 < lostC Λ (lsS Λ (lsS Λ S d) o) k := fun k hk h => by rw [hl k hk]; omega
  have hlt := ct_imp_lt himp
  unfold deC
  rw [hlt]
  constructor
  · rintro ⟨k, h1, h2, h3⟩
    rw [hl k h1] at h2
    exact ⟨k, h1, by omega, by omega⟩
  · rintro ⟨k, h1, h2, h3⟩
    exact ⟨k, h1, by rw [hl k h1]; omega, by omega⟩
theorem isUpD (h : Hq Λ S m) (hW : WL1 Λ) (hd : d < yD Λ) : f_X10_isUpDisk t u w v (nI d) m = some (nI (if upP S d then 1 else 0), m) := by
  have h13 := hW.1
  have e := c_isUp (S := S) (a := 54) (m := m) (d := d) (by omega)
  rw [h.2.2.1] at e
  unfold f_X10_isUpDisk
  rw [isDisk1 h.1 hW hd]
  by_cases hu : upP S d
  · rw [if_pos hu] at e ⊢
    simp (maxSteps := 500000) (disch := first | assumption | omega) only [q_l0, q_l1, q_l2, q_l3, q_l4, q_l5, q_l6, q_l7, q_l8, q_l9, q_l10, q_l11, q_l12, q_l13, q_l14, q_l15, q_l16, q_l20, q_l21, q_l22, q_l24, q_l25, q_l26, q_l27, q_l28, q_l29, q_l30, q_l31, q_l32, q_l40, q_l48, q_l57, q_l80, q_l97, q_l100, q_l120, q_l122, q_l126, q_l160, q_l200, q_l214, q_l255, q_l256, q_l374, q_l400, q_l999, q_l1000, q_l9999, q_l99, q_l99999, q_nm, q_gd, q_gd2, q_ix, q_lt, q_eq, q_m5a, q_m5b, q_m40b, q_m8a, q_m8b, q_m16b, q_m374b, q_m160b, q_m10a, q_div5, q_rem5, nI_add, q_moe, q_moe2, q_mol, q_mol2, q_mor, q_bd2, q_bd1, q_stI, q_oI0, if_true, if_false, ite_true, ite_false, ↓reduceIte, Nat.lt_irrefl, Nat.not_lt_zero, Nat.add_zero, Nat.zero_add, Nat.reduceEqDiff, Nat.reduceLeDiff, Nat.reduceLT, Nat.reduceAdd, Bool.false_eq_true, and_self, and_false, false_and, true_and, and_true, not_true_eq_false, not_false_eq_true, e]
  · rw [if_neg hu] at e ⊢
    simp (maxSteps := 500000) (disch := first | assumption | omega) only [q_l0, q_l1, q_l2, q_l3, q_l4, q_l5, q_l6, q_l7, q_l8, q_l9, q_l10, q_l11, q_l12, q_l13, q_l14, q_l15, q_l16, q_l20, q_l21, q_l22, q_l24, q_l25, q_l26, q_l27, q_l28, q_l29, q_l30, q_l31, q_l32, q_l40, q_l48, q_l57, q_l80, q_l97, q_l100, q_l120, q_l122, q_l126, q_l160, q_l200, q_l214, q_l255, q_l256, q_l374, q_l400, q_l999, q_l1000, q_l9999, q_l99, q_l99999, q_nm, q_gd, q_gd2, q_ix, q_lt, q_eq, q_m5a, q_m5b, q_m40b, q_m8a, q_m8b, q_m16b, q_m374b, q_m160b, q_m10a, q_div5, q_rem5, nI_add, q_moe, q_moe2, q_mol, q_mol2, q_mor, q_bd2, q_bd1, q_stI, q_oI0, if_true, if_false, ite_true, ite_false, ↓reduceIte, Nat.lt_irrefl, Nat.not_lt_zero, Nat.add_zero, Nat.zero_add, Nat.reduceEqDiff, Nat.reduceLeDiff, Nat.reduceLT, Nat.reduceAdd, Bool.false_eq_true, and_self, and_false, false_and, true_and, and_true, not_true_eq_false, not_false_eq_true, e]
theorem isUpD0 (h : Hq Λ S m) (hW : WL1 Λ) (hd : outN x1 (yD Λ)) : f_X10_isUpDisk t u w v x1 m = some (nI 0, m) := by
  unfold f_X10_isUpDisk
  rw [isDisk0 h.1 hW hd]
  simp (maxSteps := 500000) (disch := first | assumption | omega) only [q_l0, q_l1, q_l2, q_l3, q_l4, q_l5, q_l6, q_l7, q_l8, q_l9, q_l10, q_l11, q_l12, q_l13, q_l14, q_l15, q_l16, q_l20, q_l21, q_l22, q_l24, q_l25, q_l26, q_l27, q_l28, q_l29, q_l30, q_l31, q_l32, q_l40, q_l48, q_l57, q_l80, q_l97, q_l100, q_l120, q_l122, q_l126, q_l160, q_l200, q_l214, q_l255, q_l256, q_l374, q_l400, q_l999, q_l1000, q_l9999, q_l99, q_l99999, q_nm, q_gd, q_gd2, q_ix, q_lt, q_eq, q_m5a, q_m5b, q_m40b, q_m8a, q_m8b, q_m16b, q_m374b, q_m160b, q_m10a, q_div5, q_rem5, nI_add, q_moe, q_moe2, q_mol, q_mol2, q_mor, q_bd2, q_bd1, q_stI, q_oI0, if_true, if_false, ite_true, ite_false, ↓reduceIte, Nat.lt_irrefl, Nat.not_lt_zero, Nat.add_zero, Nat.zero_add, Nat.reduceEqDiff, Nat.reduceLeDiff, Nat.reduceLT, Nat.reduceAdd, Bool.false_eq_true, and_self, and_false, false_and, true_and, and_true, not_true_eq_false, not_false_eq_true]
theorem rUp (h : Hq Λ S m) (hd : d < 32) : f_X11_isUp (nI d) m = some (nI (if upP S d then 1 else 0), m) := by
  have e := r_isUp (Λ := Λ) (S := S) (m := m) hd
  rw [h.2.2.2] at e
  exact e
theorem deC_le : deC Λ S ≤ yS Λ := ct_le _ _
theorem a_bears (h : Hq Λ S m) (hW : WL1 Λ) (hW2 : WL2 Λ) (hS : WS Λ S) (hA : WA Λ S) : ∃ r m2, f_X10_bears t u w v x1 m = some (r, m) ∧ f_X11_bears x1 m = some (r, m2) ∧ Sc m m2 := by
  have h2 := Hq_th h
  have h13 := hW.1
  have h40 := hW.2.1
  unfold f_X10_bears f_X11_bears
  simp only [q_stI, q_th]
  rcases inN_or x1 (yD Λ) with ⟨d, hd, hd2, rfl⟩ | ho
  · have e1 := isUpD (t := t) (u := u) (w := w) (v := v) h hW hd
    have e2 := rUp h2 (d := d) (by omega)
    rw [e1, rDisk1 h2.2.1 hW hd]
    by_cases hu : upP S d
    · rw [if_pos hu] at e2 ⊢
      have e3 := r_deadBy1 h2 hW hS hd
      have h4 := Hq_wr (b := 119) (g := asd (th m)) (by omega) h2
      have e4 := r_deadOnes (S := S) h4.2.1 hW
      rw [h4.2.2.2] at e4
      have hk := c_kills h hW hS (s := 2 ^ d) (pow13 (by omega))
      have hk2 := kill1 hW hW2 hS hA hd
      have l1 := deC_le (Λ := Λ) (S := S)
      have l2 := deC_le (Λ := Λ) (S := lsS Λ S d)
      by_cases hkill : killP Λ S (2 ^ d)
      · have ne : (deC Λ (lsS Λ S d) = deC Λ S) = False := eq_false (fun e => hk2.mp e hkill)
        exact ⟨nI 0, _, by simp (maxSteps := 500000) (disch := first | assumption | omega) only [q_l0, q_l1, q_l2, q_l3, q_l4, q_l5, q_l6, q_l7, q_l8, q_l9, q_l10, q_l11, q_l12, q_l13, q_l14, q_l15, q_l16, q_l20, q_l21, q_l22, q_l24, q_l25, q_l26, q_l27, q_l28, q_l29, q_l30, q_l31, q_l32, q_l40, q_l48, q_l57, q_l80, q_l97, q_l100, q_l120, q_l122, q_l126, q_l160, q_l200, q_l214, q_l255, q_l256, q_l374, q_l400, q_l999, q_l1000, q_l9999, q_l99, q_l99999, q_nm, q_gd, q_gd2, q_ix, q_lt, q_eq, q_m5a, q_m5b, q_m40b, q_m8a, q_m8b, q_m16b, q_m374b, q_m160b, q_m10a, q_div5, q_rem5, nI_add, q_moe, q_moe2, q_mol, q_mol2, q_mor, q_bd2, q_bd1, q_stI, q_oI0, if_true, if_false, ite_true, ite_false, ↓reduceIte, Nat.lt_irrefl, Nat.not_lt_zero, Nat.add_zero, Nat.zero_add, Nat.reduceEqDiff, Nat.reduceLeDiff, Nat.reduceLT, Nat.reduceAdd, Bool.false_eq_true, and_self, and_false, false_and, true_and, and_true, not_true_eq_false, not_false_eq_true, q_shl, hk.1 hkill], by simp (maxSteps := 500000) (disch := first | assumption | omega) only [q_l0, q_l1, q_l2, q_l3, q_l4, q_l5, q_l6, q_l7, q_l8, q_l9, q_l10, q_l11, q_l12, q_l13, q_l14, q_l15, q_l16, q_l20, q_l21, q_l22, q_l24, q_l25, q_l26, q_l27, q_l28, q_l29, q_l30, q_l31, q_l32, q_l40, q_l48, q_l57, q_l80, q_l97, q_l100, q_l120, q_l122, q_l126, q_l160, q_l200, q_l214, q_l255, q_l256, q_l374, q_l400, q_l999, q_l1000, q_l9999, q_l99, q_l99999, q_nm, q_gd, q_gd2, q_ix, q_lt, q_eq, q_m5a, q_m5b, q_m40b, q_m8a, q_m8b, q_m16b, q_m374b, q_m160b, q_m10a, q_div5, q_rem5, nI_add, q_moe, q_moe2, q_mol, q_mol2, q_mor, q_bd2, q_bd1, q_stI, q_oI0, if_true, if_false, ite_true, ite_false, ↓reduceIte, Nat.lt_irrefl, Nat.not_lt_zero, Nat.add_zero, Nat.zero_add, Nat.reduceEqDiff, Nat.reduceLeDiff, Nat.reduceLT, Nat.reduceAdd, Bool.false_eq_true, and_self, and_false, false_and, true_and, and_true, not_true_eq_false, not_false_eq_true, e2, e3, e4, ne]; rfl, Sc_tr Sc_th (Sc_wr (by omega))⟩
      · have eq := hk2.mpr hkill
        exact ⟨nI 1, _, by simp (maxSteps := 500000) (disch := first | assumption | omega) only [q_l0, q_l1, q_l2, q_l3, q_l4, q_l5, q_l6, q_l7, q_l8, q_l9, q_l10, q_l11, q_l12, q_l13, q_l14, q_l15, q_l16, q_l20, q_l21, q_l22, q_l24, q_l25, q_l26, q_l27, q_l28, q_l29, q_l30, q_l31, q_l32, q_l40, q_l48, q_l57, q_l80, q_l97, q_l100, q_l120, q_l122, q_l126, q_l160, q_l200, q_l214, q_l255, q_l256, q_l374, q_l400, q_l999, q_l1000, q_l9999, q_l99, q_l99999, q_nm, q_gd, q_gd2, q_ix, q_lt, q_eq, q_m5a, q_m5b, q_m40b, q_m8a, q_m8b, q_m16b, q_m374b, q_m160b, q_m10a, q_div5, q_rem5, nI_add, q_moe, q_moe2, q_mol, q_mol2, q_mor, q_bd2, q_bd1, q_stI, q_oI0, if_true, if_false, ite_true, ite_false, ↓reduceIte, Nat.lt_irrefl, Nat.not_lt_zero, Nat.add_zero, Nat.zero_add, Nat.reduceEqDiff, Nat.reduceLeDiff, Nat.reduceLT, Nat.reduceAdd, Bool.false_eq_true, and_self, and_false, false_and, true_and, and_true, not_true_eq_false, not_false_eq_true, q_shl, hk.2 hkill], by simp (maxSteps := 500000) (disch := first | assumption | omega) only [q_l0, q_l1, q_l2, q_l3, q_l4, q_l5, q_l6, q_l7, q_l8, q_l9, q_l10, q_l11, q_l12, q_l13, q_l14, q_l15, q_l16, q_l20, q_l21, q_l22, q_l24, q_l25, q_l26, q_l27, q_l28, q_l29, q_l30, q_l31, q_l32, q_l40, q_l48, q_l57, q_l80, q_l97, q_l100, q_l120, q_l122, q_l126, q_l160, q_l200, q_l214, q_l255, q_l256, q_l374, q_l400, q_l999, q_l1000, q_l9999, q_l99, q_l99999, q_nm, q_gd, q_gd2, q_ix, q_lt, q_eq, q_m5a, q_m5b, q_m40b, q_m8a, q_m8b, q_m16b, q_m374b, q_m160b, q_m10a, q_div5, q_rem5, nI_add, q_moe, q_moe2, q_mol, q_mol2, q_mor, q_bd2, q_bd1, q_stI, q_oI0, if_true, if_false, ite_true, ite_false, ↓reduceIte, Nat.lt_irrefl, Nat.not_lt_zero, Nat.add_zero, Nat.zero_add, Nat.reduceEqDiff, Nat.reduceLeDiff, Nat.reduceLT, Nat.reduceAdd, Bool.false_eq_true, and_self, and_false, false_and, true_and, and_true, not_true_eq_false, not_false_eq_true, e2, e3, e4, eq]; rfl, Sc_tr Sc_th (Sc_wr (by omega))⟩
    · rw [if_neg hu] at e2 ⊢
      exact ⟨nI 0, th m, by simp (maxSteps := 500000) (disch := first | assumption | omega) only [q_l0, q_l1, q_l2, q_l3, q_l4, q_l5, q_l6, q_l7, q_l8, q_l9, q_l10, q_l11, q_l12, q_l13, q_l14, q_l15, q_l16, q_l20, q_l21, q_l22, q_l24, q_l25, q_l26, q_l27, q_l28, q_l29, q_l30, q_l31, q_l32, q_l40, q_l48, q_l57, q_l80, q_l97, q_l100, q_l120, q_l122, q_l126, q_l160, q_l200, q_l214, q_l255, q_l256, q_l374, q_l400, q_l999, q_l1000, q_l9999, q_l99, q_l99999, q_nm, q_gd, q_gd2, q_ix, q_lt, q_eq, q_m5a, q_m5b, q_m40b, q_m8a, q_m8b, q_m16b, q_m374b, q_m160b, q_m10a, q_div5, q_rem5, nI_add, q_moe, q_moe2, q_mol, q_mol2, q_mor, q_bd2, q_bd1, q_stI, q_oI0, if_true, if_false, ite_true, ite_false, ↓reduceIte, Nat.lt_irrefl, Nat.not_lt_zero, Nat.add_zero, Nat.zero_add, Nat.reduceEqDiff, Nat.reduceLeDiff, Nat.reduceLT, Nat.reduceAdd, Bool.false_eq_true, and_self, and_false, false_and, true_and, and_true, not_true_eq_false, not_false_eq_true], by simp (maxSteps := 500000) (disch := first | assumption | omega) only [q_l0, q_l1, q_l2, q_l3, q_l4, q_l5, q_l6, q_l7, q_l8, q_l9, q_l10, q_l11, q_l12, q_l13, q_l14, q_l15, q_l16, q_l20, q_l21, q_l22, q_l24, q_l25, q_l26, q_l27, q_l28, q_l29, q_l30, q_l31, q_l32, q_l40, q_l48, q_l57, q_l80, q_l97, q_l100, q_l120, q_l122, q_l126, q_l160, q_l200, q_l214, q_l255, q_l256, q_l374, q_l400, q_l999, q_l1000, q_l9999, q_l99, q_l99999, q_nm, q_gd, q_gd2, q_ix, q_lt, q_eq, q_m5a, q_m5b, q_m40b, q_m8a, q_m8b, q_m16b, q_m374b, q_m160b, q_m10a, q_div5, q_rem5, nI_add, q_moe, q_moe2, q_mol, q_mol2, q_mor, q_bd2, q_bd1, q_stI, q_oI0, if_true, if_false, ite_true, ite_false, ↓reduceIte, Nat.lt_irrefl, Nat.not_lt_zero, Nat.add_zero, Nat.zero_add, Nat.reduceEqDiff, Nat.reduceLeDiff, Nat.reduceLT, Nat.reduceAdd, Bool.false_eq_true, and_self, and_false, false_and, true_and, and_true, not_true_eq_false, not_false_eq_true, e2], Sc_th⟩
  · rw [isUpD0 h hW ho, rDisk0 h2.2.1 hW ho]
    exact ⟨nI 0, th m, by simp (maxSteps := 500000) (disch := first | assumption | omega) only [q_l0, q_l1, q_l2, q_l3, q_l4, q_l5, q_l6, q_l7, q_l8, q_l9, q_l10, q_l11, q_l12, q_l13, q_l14, q_l15, q_l16, q_l20, q_l21, q_l22, q_l24, q_l25, q_l26, q_l27, q_l28, q_l29, q_l30, q_l31, q_l32, q_l40, q_l48, q_l57, q_l80, q_l97, q_l100, q_l120, q_l122, q_l126, q_l160, q_l200, q_l214, q_l255, q_l256, q_l374, q_l400, q_l999, q_l1000, q_l9999, q_l99, q_l99999, q_nm, q_gd, q_gd2, q_ix, q_lt, q_eq, q_m5a, q_m5b, q_m40b, q_m8a, q_m8b, q_m16b, q_m374b, q_m160b, q_m10a, q_div5, q_rem5, nI_add, q_moe, q_moe2, q_mol, q_mol2, q_mor, q_bd2, q_bd1, q_stI, q_oI0, if_true, if_false, ite_true, ite_false, ↓reduceIte, Nat.lt_irrefl, Nat.not_lt_zero, Nat.add_zero, Nat.zero_add, Nat.reduceEqDiff, Nat.reduceLeDiff, Nat.reduceLT, Nat.reduceAdd, Bool.false_eq_true, and_self, and_false, false_and, true_and, and_true, not_true_eq_false, not_false_eq_true], by simp (maxSteps := 500000) (disch := first | assumption | omega) only [q_l0, q_l1, q_l2, q_l3, q_l4, q_l5, q_l6, q_l7, q_l8, q_l9, q_l10, q_l11, q_l12, q_l13, q_l14, q_l15, q_l16, q_l20, q_l21, q_l22, q_l24, q_l25, q_l26, q_l27, q_l28, q_l29, q_l30, q_l31, q_l32, q_l40, q_l48, q_l57, q_l80, q_l97, q_l100, q_l120, q_l122, q_l126, q_l160, q_l200, q_l214, q_l255, q_l256, q_l374, q_l400, q_l999, q_l1000, q_l9999, q_l99, q_l99999, q_nm, q_gd, q_gd2, q_ix, q_lt, q_eq, q_m5a, q_m5b, q_m40b, q_m8a, q_m8b, q_m16b, q_m374b, q_m160b, q_m10a, q_div5, q_rem5, nI_add, q_moe, q_moe2, q_mol, q_mol2, q_mor, q_bd2, q_bd1, q_stI, q_oI0, if_true, if_false, ite_true, ite_false, ↓reduceIte, Nat.lt_irrefl, Nat.not_lt_zero, Nat.add_zero, Nat.zero_add, Nat.reduceEqDiff, Nat.reduceLeDiff, Nat.reduceLT, Nat.reduceAdd, Bool.false_eq_true, and_self, and_false, false_and, true_and, and_true, not_true_eq_false, not_false_eq_true], Sc_th⟩
/-! risk -/
abbrev rkP (Λ : Lv) (S : Sv) (d o : Nat) : Prop := upP S d ∧ upP S o ∧ ∃ k, k < yS Λ ∧ lostC Λ S k < 2 ∧ 2 ≤ lostC Λ S k + pc (dnB Λ S k (yZ Λ k) &&& (2 ^ d ||| 2 ^ o))
theorem rk_comm : rkP Λ S d o ↔ rkP Λ S o d := by
  unfold rkP
  rw [Nat.or_comm]
  exact ⟨fun h => ⟨h.2.1, h.1, h.2.2⟩, fun h => ⟨h.2.1, h.1, h.2.2⟩⟩
theorem sum_eq {f f2 : Nat → Nat} : ∀ {n : Nat}, (∀ i, i < n → f i = f2 i) → sumN f n = sumN f2 n
  | 0, _ => rfl
  | n + 1, h => by
    unfold sumN
    rw [sum_eq (n := n) (fun i hi => h i (by omega)), h n (by omega)]
theorem sum_ct {f : Nat → Nat} {R : Nat → Prop} [DecidablePred R] : ∀ {n : Nat}, sumN (fun d => f d + (if R d then 1 else 0)) n = sumN f n + ct R n
  | 0 => rfl
  | n + 1 => by
    unfold sumN ct
    rw [sum_ct (n := n)]
    omega
theorem sum_le {f : Nat → Nat} : ∀ {n : Nat}, (∀ i, i < n → f i ≤ c) → sumN f n ≤ c * n
  | 0, _ => Nat.zero_le _
  | n + 1, h => by
    have ih := sum_le (n := n) (fun i hi => h i (by omega))
    have := h n (by omega)
    unfold sumN
    rw [Nat.mul_add]
    omega
/-- pairs counted by the less, or by the greater -/
theorem tri {R : Nat → Nat → Prop} [∀ d, DecidablePred (R d)] (hR : ∀ d o, R d o ↔ R o d) : ∀ n, sumN (fun d => ct (fun o => d < o ∧ R d o) n) n = sumN (fun d => ct (fun o => R d o) d) n
  | 0 => rfl
  | n + 1 => by
    have ih := tri hR n
    have e1 : sumN (fun d => ct (fun o => d < o ∧ R d o) (n + 1)) (n + 1) = sumN (fun d => ct (fun o => d < o ∧ R d o) n + (if R d n then 1 else 0)) n + ct (fun o => n < o ∧ R n o) (n + 1) := by
      show sumN (fun d => ct (fun o => d < o ∧ R d o) (n + 1)) n + _ = _
      congr 1
      refine sum_eq (fun d hd => ?_)
      show ct (fun o => d < o ∧ R d o) n + (if d < n ∧ R d n then 1 else 0) = _
      by_cases h : R d n
      · rw [if_pos ⟨hd, h⟩, if_pos h]
      · rw [if_neg (fun h2 => h h2.2), if_neg h]
    rw [e1, sum_ct, ct_none (p := fun o => n < o ∧ R n o) (fun i hi h => by omega), ih]
    show sumN (fun d => ct (fun o => R d o) d) n + ct (fun d => R d n) n + 0 = sumN (fun d => ct (fun o => R d o) d) n + ct (fun o => R n o) n
    rw [ct_congr (p := fun d => R d n) (q := fun o => R n o) (fun i _ => hR i n)]
    omega
theorem ct_from {p : Nat → Prop} [DecidablePred p] (hs : s ≤ n) : ct (fun o => s ≤ o ∧ p o) s = 0 := ct_none (fun i hi h => by omega)
theorem c_deadly (h : Hq Λ S m) (hW : WL1 Λ) (hS : WS Λ S) : f_X5_deadlyPairs m = some (nI (sumN (fun d => ct (fun o => d < o ∧ rkP Λ S d o) (yD Λ)) (yD Λ)), m) := by
  have c0 := h.1.1
  have h13 := hW.1
  have hup : ∀ d, d < 13 → f_X6_isUp 54 (nI d) m = some (nI (if upP S d then 1 else 0), m) := fun d hd => by
    have e := c_isUp (S := S) (a := 54) (m := m) (d := d) (by omega)
    rw [h.2.2.1] at e
    exact e
  have hsum : ∀ d, d ≤ yD Λ → sumN (fun d => ct (fun o => d < o ∧ rkP Λ S d o) (yD Λ)) d ≤ 13 * 13 := fun d hd => by
    have := sum_le (f := fun d => ct (fun o => d < o ∧ rkP Λ S d o) (yD Λ)) (n := d) (c := 13) (fun i _ => Nat.le_trans (ct_le _ _) h13)
    omega
  refine lp0 (fun j d => f_X5_deadlyPairs_L4 j (nI (sumN (fun d => ct (fun o => d < o ∧ rkP Λ S d o) (yD Λ)) d)) (nI d) m) (yD Λ) _ (fun j => ?_) (fun j d hd => ?_) (by omega)
  · simp (maxSteps := 500000) (disch := first | assumption | omega) only [f_X5_deadlyPairs_L4, q_l0, q_l1, q_l2, q_l3, q_l4, q_l5, q_l6, q_l7, q_l8, q_l9, q_l10, q_l11, q_l12, q_l13, q_l14, q_l15, q_l16, q_l20, q_l21, q_l22, q_l24, q_l25, q_l26, q_l27, q_l28, q_l29, q_l30, q_l31, q_l32, q_l40, q_l48, q_l57, q_l80, q_l97, q_l100, q_l120, q_l122, q_l126, q_l160, q_l200, q_l214, q_l255, q_l256, q_l374, q_l400, q_l999, q_l1000, q_l9999, q_l99, q_l99999, q_nm, q_gd, q_gd2, q_ix, q_lt, q_eq, q_m5a, q_m5b, q_m40b, q_m8a, q_m8b, q_m16b, q_m374b, q_m160b, q_m10a, q_div5, q_rem5, nI_add, q_moe, q_moe2, q_mol, q_mol2, q_mor, q_bd2, q_bd1, q_stI, q_oI0, if_true, if_false, ite_true, ite_false, ↓reduceIte, Nat.lt_irrefl, Nat.not_lt_zero, Nat.add_zero, Nat.zero_add, Nat.reduceEqDiff, Nat.reduceLeDiff, Nat.reduceLT, Nat.reduceAdd, Bool.false_eq_true, and_self, and_false, false_and, true_and, and_true, not_true_eq_false, not_false_eq_true, c0]
  · have hs := hsum d (by omega)
    simp (maxSteps := 500000) (disch := first | assumption | omega) only [f_X5_deadlyPairs_L4, q_l0, q_l1, q_l2, q_l3, q_l4, q_l5, q_l6, q_l7, q_l8, q_l9, q_l10, q_l11, q_l12, q_l13, q_l14, q_l15, q_l16, q_l20, q_l21, q_l22, q_l24, q_l25, q_l26, q_l27, q_l28, q_l29, q_l30, q_l31, q_l32, q_l40, q_l48, q_l57, q_l80, q_l97, q_l100, q_l120, q_l122, q_l126, q_l160, q_l200, q_l214, q_l255, q_l256, q_l374, q_l400, q_l999, q_l1000, q_l9999, q_l99, q_l99999, q_nm, q_gd, q_gd2, q_ix, q_lt, q_eq, q_m5a, q_m5b, q_m40b, q_m8a, q_m8b, q_m16b, q_m374b, q_m160b, q_m10a, q_div5, q_rem5, nI_add, q_moe, q_moe2, q_mol, q_mol2, q_mor, q_bd2, q_bd1, q_stI, q_oI0, if_true, if_false, ite_true, ite_false, ↓reduceIte, Nat.lt_irrefl, Nat.not_lt_zero, Nat.add_zero, Nat.zero_add, Nat.reduceEqDiff, Nat.reduceLeDiff, Nat.reduceLT, Nat.reduceAdd, Bool.false_eq_true, and_self, and_false, false_and, true_and, and_true, not_true_eq_false, not_false_eq_true, c0, hd]
    have hin := lps (fun j2 o => f_X5_deadlyPairs_L19 (nI d) (fun w7 m8 => f_X5_deadlyPairs_L4 j w7 (nI (d + 1)) m8) j2 (nI (sumN (fun d => ct (fun o => d < o ∧ rkP Λ S d o) (yD Λ)) d + ct (fun o => d < o ∧ rkP Λ S d o) o)) (nI o) m) (d + 1) (yD Λ) (f_X5_deadlyPairs_L4 j (nI (sumN (fun d => ct (fun o => d < o ∧ rkP Λ S d o) (yD Λ)) (d + 1))) (nI (d + 1)) m) (fun j2 => by
      simp (maxSteps := 500000) (disch := first | assumption | omega) only [f_X5_deadlyPairs_L19, q_l0, q_l1, q_l2, q_l3, q_l4, q_l5, q_l6, q_l7, q_l8, q_l9, q_l10, q_l11, q_l12, q_l13, q_l14, q_l15, q_l16, q_l20, q_l21, q_l22, q_l24, q_l25, q_l26, q_l27, q_l28, q_l29, q_l30, q_l31, q_l32, q_l40, q_l48, q_l57, q_l80, q_l97, q_l100, q_l120, q_l122, q_l126, q_l160, q_l200, q_l214, q_l255, q_l256, q_l374, q_l400, q_l999, q_l1000, q_l9999, q_l99, q_l99999, q_nm, q_gd, q_gd2, q_ix, q_lt, q_eq, q_m5a, q_m5b, q_m40b, q_m8a, q_m8b, q_m16b, q_m374b, q_m160b, q_m10a, q_div5, q_rem5, nI_add, q_moe, q_moe2, q_mol, q_mol2, q_mor, q_bd2, q_bd1, q_stI, q_oI0, if_true, if_false, ite_true, ite_false, ↓reduceIte, Nat.lt_irrefl, Nat.not_lt_zero, Nat.add_zero, Nat.zero_add, Nat.reduceEqDiff, Nat.reduceLeDiff, Nat.reduceLT, Nat.reduceAdd, Bool.false_eq_true, and_self, and_false, false_and, true_and, and_true, not_true_eq_false, not_false_eq_true, c0, sumN]) (fun j2 o o1 o2 => by
      have hk := c_kills h hW hS (s := 2 ^ d ||| 2 ^ o) (Nat.or_lt_two_pow (n := 13) (pow13 (by omega)) (pow13 (by omega)))
      have hc := ct_le (fun o => d < o ∧ rkP Λ S d o) o
      have hdo : d < o := by omega
      have e1 := hup d (by omega)
      have e2 := hup o (by omega)
      by_cases p1 : upP S d
      · rw [if_pos p1] at e1
        by_cases p2 : upP S o
        · rw [if_pos p2] at e2
          by_cases p3 : killP Λ S (2 ^ d ||| 2 ^ o)
          · have hr : d < o ∧ rkP Λ S d o := ⟨hdo, p1, p2, p3⟩
            simp (maxSteps := 500000) (disch := first | assumption | omega) only [f_X5_deadlyPairs_L19, q_l0, q_l1, q_l2, q_l3, q_l4, q_l5, q_l6, q_l7, q_l8, q_l9, q_l10, q_l11, q_l12, q_l13, q_l14, q_l15, q_l16, q_l20, q_l21, q_l22, q_l24, q_l25, q_l26, q_l27, q_l28, q_l29, q_l30, q_l31, q_l32, q_l40, q_l48, q_l57, q_l80, q_l97, q_l100, q_l120, q_l122, q_l126, q_l160, q_l200, q_l214, q_l255, q_l256, q_l374, q_l400, q_l999, q_l1000, q_l9999, q_l99, q_l99999, q_nm, q_gd, q_gd2, q_ix, q_lt, q_eq, q_m5a, q_m5b, q_m40b, q_m8a, q_m8b, q_m16b, q_m374b, q_m160b, q_m10a, q_div5, q_rem5, nI_add, q_moe, q_moe2, q_mol, q_mol2, q_mor, q_bd2, q_bd1, q_stI, q_oI0, if_true, if_false, ite_true, ite_false, ↓reduceIte, Nat.lt_irrefl, Nat.not_lt_zero, Nat.add_zero, Nat.zero_add, Nat.reduceEqDiff, Nat.reduceLeDiff, Nat.reduceLT, Nat.reduceAdd, Bool.false_eq_true, and_self, and_false, false_and, true_and, and_true, not_true_eq_false, not_false_eq_true, c0, o2, e1, e2, q_shl, q_or, hk.1 p3, ct]
            rw [if_pos hr, Nat.add_assoc]
          · have hr : ¬ (d < o ∧ rkP Λ S d o) := fun h => p3 h.2.2.2
            simp (maxSteps := 500000) (disch := first | assumption | omega) only [f_X5_deadlyPairs_L19, q_l0, q_l1, q_l2, q_l3, q_l4, q_l5, q_l6, q_l7, q_l8, q_l9, q_l10, q_l11, q_l12, q_l13, q_l14, q_l15, q_l16, q_l20, q_l21, q_l22, q_l24, q_l25, q_l26, q_l27, q_l28, q_l29, q_l30, q_l31, q_l32, q_l40, q_l48, q_l57, q_l80, q_l97, q_l100, q_l120, q_l122, q_l126, q_l160, q_l200, q_l214, q_l255, q_l256, q_l374, q_l400, q_l999, q_l1000, q_l9999, q_l99, q_l99999, q_nm, q_gd, q_gd2, q_ix, q_lt, q_eq, q_m5a, q_m5b, q_m40b, q_m8a, q_m8b, q_m16b, q_m374b, q_m160b, q_m10a, q_div5, q_rem5, nI_add, q_moe, q_moe2, q_mol, q_mol2, q_mor, q_bd2, q_bd1, q_stI, q_oI0, if_true, if_false, ite_true, ite_false, ↓reduceIte, Nat.lt_irrefl, Nat.not_lt_zero, Nat.add_zero, Nat.zero_add, Nat.reduceEqDiff, Nat.reduceLeDiff, Nat.reduceLT, Nat.reduceAdd, Bool.false_eq_true, and_self, and_false, false_and, true_and, and_true, not_true_eq_false, not_false_eq_true, c0, o2, e1, e2, q_shl, q_or, hk.2 p3, ct]
            rw [if_neg hr]; rfl
        · rw [if_neg p2] at e2
          have hr : ¬ (d < o ∧ rkP Λ S d o) := fun h => p2 h.2.2.1
          simp (maxSteps := 500000) (disch := first | assumption | omega) only [f_X5_deadlyPairs_L19, q_l0, q_l1, q_l2, q_l3, q_l4, q_l5, q_l6, q_l7, q_l8, q_l9, q_l10, q_l11, q_l12, q_l13, q_l14, q_l15, q_l16, q_l20, q_l21, q_l22, q_l24, q_l25, q_l26, q_l27, q_l28, q_l29, q_l30, q_l31, q_l32, q_l40, q_l48, q_l57, q_l80, q_l97, q_l100, q_l120, q_l122, q_l126, q_l160, q_l200, q_l214, q_l255, q_l256, q_l374, q_l400, q_l999, q_l1000, q_l9999, q_l99, q_l99999, q_nm, q_gd, q_gd2, q_ix, q_lt, q_eq, q_m5a, q_m5b, q_m40b, q_m8a, q_m8b, q_m16b, q_m374b, q_m160b, q_m10a, q_div5, q_rem5, nI_add, q_moe, q_moe2, q_mol, q_mol2, q_mor, q_bd2, q_bd1, q_stI, q_oI0, if_true, if_false, ite_true, ite_false, ↓reduceIte, Nat.lt_irrefl, Nat.not_lt_zero, Nat.add_zero, Nat.zero_add, Nat.reduceEqDiff, Nat.reduceLeDiff, Nat.reduceLT, Nat.reduceAdd, Bool.false_eq_true, and_self, and_false, false_and, true_and, and_true, not_true_eq_false, not_false_eq_true, c0, o2, e1, e2, ct]
          rw [if_neg hr]; rfl
      · rw [if_neg p1] at e1
        have hr : ¬ (d < o ∧ rkP Λ S d o) := fun h => p1 h.2.1
        simp (maxSteps := 500000) (disch := first | assumption | omega) only [f_X5_deadlyPairs_L19, q_l0, q_l1, q_l2, q_l3, q_l4, q_l5, q_l6, q_l7, q_l8, q_l9, q_l10, q_l11, q_l12, q_l13, q_l14, q_l15, q_l16, q_l20, q_l21, q_l22, q_l24, q_l25, q_l26, q_l27, q_l28, q_l29, q_l30, q_l31, q_l32, q_l40, q_l48, q_l57, q_l80, q_l97, q_l100, q_l120, q_l122, q_l126, q_l160, q_l200, q_l214, q_l255, q_l256, q_l374, q_l400, q_l999, q_l1000, q_l9999, q_l99, q_l99999, q_nm, q_gd, q_gd2, q_ix, q_lt, q_eq, q_m5a, q_m5b, q_m40b, q_m8a, q_m8b, q_m16b, q_m374b, q_m160b, q_m10a, q_div5, q_rem5, nI_add, q_moe, q_moe2, q_mol, q_mol2, q_mor, q_bd2, q_bd1, q_stI, q_oI0, if_true, if_false, ite_true, ite_false, ↓reduceIte, Nat.lt_irrefl, Nat.not_lt_zero, Nat.add_zero, Nat.zero_add, Nat.reduceEqDiff, Nat.reduceLeDiff, Nat.reduceLT, Nat.reduceAdd, Bool.false_eq_true, and_self, and_false, false_and, true_and, and_true, not_true_eq_false, not_false_eq_true, c0, o2, e1, ct]
        rw [if_neg hr]; rfl) (by omega) (by omega)
    have z : ct (fun o => d < o ∧ rkP Λ S d o) (d + 1) = 0 := ct_none (fun i hi h => by omega)
    rw [z, Nat.add_zero] at hin
    exact hin
theorem asd_fix (h : Hq Λ S m) : asd (wr 119 (asd m) m) = asd m := by
  funext i
  simp only [asd, wr]
  by_cases h2 : i < 374
  · simp [h2]
  · simp [h2]
theorem r_risk (h : Hq Λ S m) (hW : WL1 Λ) (hW2 : WL2 Λ) (hS : WS Λ S) (hA : WA Λ S) : ∃ m2, f_X11_risk_L9 FU (nI 0) (nI 0) m = some (nI (sumN (fun d => ct (fun o => rkP Λ S d o) d) (yD Λ)), m2) ∧ Sc m m2 := by
  have h13 := hW.1
  have h40 := hW.2.1
  have r80 := h.2.1.1
  -- the memory is m, or m with the row laid aside
  let M : Bool → Mm := fun f => if f then wr 119 (asd m) m else m
  have hM : ∀ f, Hq Λ S (M f) := fun f => by
    cases f
    · exact h
    · exact Hq_wr (by omega) h
  have hA2 : ∀ f, wr 119 (asd (M f)) (M f) = M true := fun f => by
    cases f
    · rfl
    · show wr 119 (asd (wr 119 (asd m) m)) (wr 119 (asd m) m) = wr 119 (asd m) m
      rw [asd_fix h, wr_wr]
  have hsum : ∀ d, d ≤ yD Λ → sumN (fun d => ct (fun o => rkP Λ S d o) d) d ≤ 13 * 13 := fun d hd => by
    have := sum_le (f := fun d => ct (fun o => rkP Λ S d o) d) (n := d) (c := 13) (fun i hi => Nat.le_trans (ct_le _ _) (by omega))
    omega
  -- one pair
  have step : ∀ d, d < yD Λ → ∀ o, o < d → ∀ f K j2 cc, cc < 1000 → ∃ f2, f_X11_risk_L21 (nI d) K (j2 + 1) (nI cc) (nI o) (M f) = f_X11_risk_L21 (nI d) K j2 (nI (cc + (if rkP Λ S d o then 1 else 0))) (nI (o + 1)) (M f2) := fun d hd o ho f K j2 cc hcc => by
    have hq := hM f
    have e1 := rUp hq (d := d) (by omega)
    have e2 := rUp hq (d := o) (by omega)
    by_cases p1 : upP S d
    · rw [if_pos p1] at e1
      by_cases p2 : upP S o
      · rw [if_pos p2] at e2
        have e3 := r_deadBy2 hq hW hS hd (show o < yD Λ by omega)
        rw [hA2 f] at e3
        have e4 := r_deadOnes (S := S) (hM true).2.1 hW
        rw [(hM true).2.2.2] at e4
        have hk := kill2 hW hW2 hS hA hd (show o < yD Λ by omega) (by omega)
        have l1 := deC_le (Λ := Λ) (S := S)
        have l2 := deC_le (Λ := Λ) (S := lsS Λ (lsS Λ S d) o)
        refine ⟨true, ?_⟩
        by_cases p3 : deC Λ S < deC Λ (lsS Λ (lsS Λ S d) o)
        · have hr : rkP Λ S d o := ⟨p1, p2, hk.mp p3⟩
          rw [if_pos hr]
          simp (maxSteps := 500000) (disch := first | assumption | omega) only [f_X11_risk_L21, q_l0, q_l1, q_l2, q_l3, q_l4, q_l5, q_l6, q_l7, q_l8, q_l9, q_l10, q_l11, q_l12, q_l13, q_l14, q_l15, q_l16, q_l20, q_l21, q_l22, q_l24, q_l25, q_l26, q_l27, q_l28, q_l29, q_l30, q_l31, q_l32, q_l40, q_l48, q_l57, q_l80, q_l97, q_l100, q_l120, q_l122, q_l126, q_l160, q_l200, q_l214, q_l255, q_l256, q_l374, q_l400, q_l999, q_l1000, q_l9999, q_l99, q_l99999, q_nm, q_gd, q_gd2, q_ix, q_lt, q_eq, q_m5a, q_m5b, q_m40b, q_m8a, q_m8b, q_m16b, q_m374b, q_m160b, q_m10a, q_div5, q_rem5, nI_add, q_moe, q_moe2, q_mol, q_mol2, q_mor, q_bd2, q_bd1, q_stI, q_oI0, if_true, if_false, ite_true, ite_false, ↓reduceIte, Nat.lt_irrefl, Nat.not_lt_zero, Nat.add_zero, Nat.zero_add, Nat.reduceEqDiff, Nat.reduceLeDiff, Nat.reduceLT, Nat.reduceAdd, Bool.false_eq_true, and_self, and_false, false_and, true_and, and_true, not_true_eq_false, not_false_eq_true, ho, e1, e2, e3, e4, p3]
        · have hr : ¬ rkP Λ S d o := fun h => p3 (hk.mpr h.2.2)
          rw [if_neg hr]
          simp (maxSteps := 500000) (disch := first | assumption | omega) only [f_X11_risk_L21, q_l0, q_l1, q_l2, q_l3, q_l4, q_l5, q_l6, q_l7, q_l8, q_l9, q_l10, q_l11, q_l12, q_l13, q_l14, q_l15, q_l16, q_l20, q_l21, q_l22, q_l24, q_l25, q_l26, q_l27, q_l28, q_l29, q_l30, q_l31, q_l32, q_l40, q_l48, q_l57, q_l80, q_l97, q_l100, q_l120, q_l122, q_l126, q_l160, q_l200, q_l214, q_l255, q_l256, q_l374, q_l400, q_l999, q_l1000, q_l9999, q_l99, q_l99999, q_nm, q_gd, q_gd2, q_ix, q_lt, q_eq, q_m5a, q_m5b, q_m40b, q_m8a, q_m8b, q_m16b, q_m374b, q_m160b, q_m10a, q_div5, q_rem5, nI_add, q_moe, q_moe2, q_mol, q_mol2, q_mor, q_bd2, q_bd1, q_stI, q_oI0, if_true, if_false, ite_true, ite_false, ↓reduceIte, Nat.lt_irrefl, Nat.not_lt_zero, Nat.add_zero, Nat.zero_add, Nat.reduceEqDiff, Nat.reduceLeDiff, Nat.reduceLT, Nat.reduceAdd, Bool.false_eq_true, and_self, and_false, false_and, true_and, and_true, not_true_eq_false, not_false_eq_true, ho, e1, e2, e3, e4, p3]
      · rw [if_neg p2] at e2
        have hr : ¬ rkP Λ S d o := fun h => p2 h.2.1
        refine ⟨f, ?_⟩
        rw [if_neg hr]
        simp (maxSteps := 500000) (disch := first | assumption | omega) only [f_X11_risk_L21, q_l0, q_l1, q_l2, q_l3, q_l4, q_l5, q_l6, q_l7, q_l8, q_l9, q_l10, q_l11, q_l12, q_l13, q_l14, q_l15, q_l16, q_l20, q_l21, q_l22, q_l24, q_l25, q_l26, q_l27, q_l28, q_l29, q_l30, q_l31, q_l32, q_l40, q_l48, q_l57, q_l80, q_l97, q_l100, q_l120, q_l122, q_l126, q_l160, q_l200, q_l214, q_l255, q_l256, q_l374, q_l400, q_l999, q_l1000, q_l9999, q_l99, q_l99999, q_nm, q_gd, q_gd2, q_ix, q_lt, q_eq, q_m5a, q_m5b, q_m40b, q_m8a, q_m8b, q_m16b, q_m374b, q_m160b, q_m10a, q_div5, q_rem5, nI_add, q_moe, q_moe2, q_mol, q_mol2, q_mor, q_bd2, q_bd1, q_stI, q_oI0, if_true, if_false, ite_true, ite_false, ↓reduceIte, Nat.lt_irrefl, Nat.not_lt_zero, Nat.add_zero, Nat.zero_add, Nat.reduceEqDiff, Nat.reduceLeDiff, Nat.reduceLT, Nat.reduceAdd, Bool.false_eq_true, and_self, and_false, false_and, true_and, and_true, not_true_eq_false, not_false_eq_true, ho, e1, e2]
    · rw [if_neg p1] at e1
      have hr : ¬ rkP Λ S d o := fun h => p1 h.1
      refine ⟨f, ?_⟩
      rw [if_neg hr]
      simp (maxSteps := 500000) (disch := first | assumption | omega) only [f_X11_risk_L21, q_l0, q_l1, q_l2, q_l3, q_l4, q_l5, q_l6, q_l7, q_l8, q_l9, q_l10, q_l11, q_l12, q_l13, q_l14, q_l15, q_l16, q_l20, q_l21, q_l22, q_l24, q_l25, q_l26, q_l27, q_l28, q_l29, q_l30, q_l31, q_l32, q_l40, q_l48, q_l57, q_l80, q_l97, q_l100, q_l120, q_l122, q_l126, q_l160, q_l200, q_l214, q_l255, q_l256, q_l374, q_l400, q_l999, q_l1000, q_l9999, q_l99, q_l99999, q_nm, q_gd, q_gd2, q_ix, q_lt, q_eq, q_m5a, q_m5b, q_m40b, q_m8a, q_m8b, q_m16b, q_m374b, q_m160b, q_m10a, q_div5, q_rem5, nI_add, q_moe, q_moe2, q_mol, q_mol2, q_mor, q_bd2, q_bd1, q_stI, q_oI0, if_true, if_false, ite_true, ite_false, ↓reduceIte, Nat.lt_irrefl, Nat.not_lt_zero, Nat.add_zero, Nat.zero_add, Nat.reduceEqDiff, Nat.reduceLeDiff, Nat.reduceLT, Nat.reduceAdd, Bool.false_eq_true, and_self, and_false, false_and, true_and, and_true, not_true_eq_false, not_false_eq_true, ho, e1]
  -- a row of pairs
  have inner : ∀ d, d < yD Λ → ∀ K cc, cc < 900 → ∀ n o f j2, n + o = d → n < j2 → ∃ f2, f_X11_risk_L21 (nI d) K j2 (nI (cc + ct (fun o => rkP Λ S d o) o)) (nI o) (M f) = K (nI (cc + ct (fun o => rkP Λ S d o) d)) (M f2) := fun d hd K cc hcc n => by
    induction n with
    | zero =>
      intro o f j2 h1 h2
      have : o = d := by omega
      subst this
      obtain ⟨j3, rfl⟩ : ∃ j3, j2 = j3 + 1 := ⟨j2 - 1, by omega⟩
      exact ⟨f, by simp (maxSteps := 500000) (disch := first | assumption | omega) only [f_X11_risk_L21, q_l0, q_l1, q_l2, q_l3, q_l4, q_l5, q_l6, q_l7, q_l8, q_l9, q_l10, q_l11, q_l12, q_l13, q_l14, q_l15, q_l16, q_l20, q_l21, q_l22, q_l24, q_l25, q_l26, q_l27, q_l28, q_l29, q_l30, q_l31, q_l32, q_l40, q_l48, q_l57, q_l80, q_l97, q_l100, q_l120, q_l122, q_l126, q_l160, q_l200, q_l214, q_l255, q_l256, q_l374, q_l400, q_l999, q_l1000, q_l9999, q_l99, q_l99999, q_nm, q_gd, q_gd2, q_ix, q_lt, q_eq, q_m5a, q_m5b, q_m40b, q_m8a, q_m8b, q_m16b, q_m374b, q_m160b, q_m10a, q_div5, q_rem5, nI_add, q_moe, q_moe2, q_mol, q_mol2, q_mor, q_bd2, q_bd1, q_stI, q_oI0, if_true, if_false, ite_true, ite_false, ↓reduceIte, Nat.lt_irrefl, Nat.not_lt_zero, Nat.add_zero, Nat.zero_add, Nat.reduceEqDiff, Nat.reduceLeDiff, Nat.reduceLT, Nat.reduceAdd, Bool.false_eq_true, and_self, and_false, false_and, true_and, and_true, not_true_eq_false, not_false_eq_true]⟩
    | succ n ih =>
      intro o f j2 h1 h2
      obtain ⟨j3, rfl⟩ : ∃ j3, j2 = j3 + 1 := ⟨j2 - 1, by omega⟩
      have hc := ct_le (fun o => rkP Λ S d o) o
      obtain ⟨f2, e⟩ := step d hd o (by omega) f K j3 (cc + ct (fun o => rkP Λ S d o) o) (by omega)
      obtain ⟨f3, e2⟩ := ih (o + 1) f2 j3 (by omega) (by omega)
      refine ⟨f3, ?_⟩
      rw [e, ← e2]
      show _ = f_X11_risk_L21 (nI d) K j3 (nI (cc + (ct (fun o => rkP Λ S d o) o + (if rkP Λ S d o then 1 else 0)))) (nI (o + 1)) (M f2)
      rw [Nat.add_assoc]
  have outer : ∀ n d f j, n + d = yD Λ → n < j → ∃ f2, f_X11_risk_L9 j (nI (sumN (fun d => ct (fun o => rkP Λ S d o) d) d)) (nI d) (M f) = some (nI (sumN (fun d => ct (fun o => rkP Λ S d o) d) (yD Λ)), M f2) := fun n => by
    induction n with
    | zero =>
      intro d f j h1 h2
      have : d = yD Λ := by omega
      subst this
      obtain ⟨j3, rfl⟩ : ∃ j3, j = j3 + 1 := ⟨j - 1, by omega⟩
      have r80' := (hM f).2.1.1
      exact ⟨f, by simp (maxSteps := 500000) (disch := first | assumption | omega) only [f_X11_risk_L9, q_l0, q_l1, q_l2, q_l3, q_l4, q_l5, q_l6, q_l7, q_l8, q_l9, q_l10, q_l11, q_l12, q_l13, q_l14, q_l15, q_l16, q_l20, q_l21, q_l22, q_l24, q_l25, q_l26, q_l27, q_l28, q_l29, q_l30, q_l31, q_l32, q_l40, q_l48, q_l57, q_l80, q_l97, q_l100, q_l120, q_l122, q_l126, q_l160, q_l200, q_l214, q_l255, q_l256, q_l374, q_l400, q_l999, q_l1000, q_l9999, q_l99, q_l99999, q_nm, q_gd, q_gd2, q_ix, q_lt, q_eq, q_m5a, q_m5b, q_m40b, q_m8a, q_m8b, q_m16b, q_m374b, q_m160b, q_m10a, q_div5, q_rem5, nI_add, q_moe, q_moe2, q_mol, q_mol2, q_mor, q_bd2, q_bd1, q_stI, q_oI0, if_true, if_false, ite_true, ite_false, ↓reduceIte, Nat.lt_irrefl, Nat.not_lt_zero, Nat.add_zero, Nat.zero_add, Nat.reduceEqDiff, Nat.reduceLeDiff, Nat.reduceLT, Nat.reduceAdd, Bool.false_eq_true, and_self, and_false, false_and, true_and, and_true, not_true_eq_false, not_false_eq_true, r80']⟩
    | succ n ih =>
      intro d f j h1 h2
      obtain ⟨j3, rfl⟩ : ∃ j3, j = j3 + 1 := ⟨j - 1, by omega⟩
      have hd : d < yD Λ := by omega
      have r80' := (hM f).2.1.1
      have hs := hsum d (by omega)
      obtain ⟨f2, e⟩ := inner d hd (fun w10 m11 => f_X11_risk_L9 j3 w10 (nI (d + 1)) m11) (sumN (fun d => ct (fun o => rkP Λ S d o) d) d) (by omega) d 0 f FU (by omega) (by show d < 4096; omega)
      obtain ⟨f3, e2⟩ := ih (d + 1) f2 j3 (by omega) (by omega)
      refine ⟨f3, ?_⟩
      rw [← e2]
      simp (maxSteps := 500000) (disch := first | assumption | omega) only [f_X11_risk_L9, q_l0, q_l1, q_l2, q_l3, q_l4, q_l5, q_l6, q_l7, q_l8, q_l9, q_l10, q_l11, q_l12, q_l13, q_l14, q_l15, q_l16, q_l20, q_l21, q_l22, q_l24, q_l25, q_l26, q_l27, q_l28, q_l29, q_l30, q_l31, q_l32, q_l40, q_l48, q_l57, q_l80, q_l97, q_l100, q_l120, q_l122, q_l126, q_l160, q_l200, q_l214, q_l255, q_l256, q_l374, q_l400, q_l999, q_l1000, q_l9999, q_l99, q_l99999, q_nm, q_gd, q_gd2, q_ix, q_lt, q_eq, q_m5a, q_m5b, q_m40b, q_m8a, q_m8b, q_m16b, q_m374b, q_m160b, q_m10a, q_div5, q_rem5, nI_add, q_moe, q_moe2, q_mol, q_mol2, q_mor, q_bd2, q_bd1, q_stI, q_oI0, if_true, if_false, ite_true, ite_false, ↓reduceIte, Nat.lt_irrefl, Nat.not_lt_zero, Nat.add_zero, Nat.zero_add, Nat.reduceEqDiff, Nat.reduceLeDiff, Nat.reduceLT, Nat.reduceAdd, Bool.false_eq_true, and_self, and_false, false_and, true_and, and_true, not_true_eq_false, not_false_eq_true, r80', hd]
      have z : ct (fun o => rkP Λ S d o) 0 = 0 := rfl
      rw [z, Nat.add_zero] at e
      exact e
  obtain ⟨f2, e⟩ := outer (yD Λ) 0 false FU (by omega) (by show _ < 4096; omega)
  refine ⟨M f2, e, ?_⟩
  cases f2
  · exact Sc_rf
  · exact Sc_wr (by omega)
theorem a_risk (h : Hq Λ S m) (hW : WL1 Λ) (hW2 : WL2 Λ) (hS : WS Λ S) (hA : WA Λ S) : ∃ r m2, f_X10_risk t u w v m = some (r, m) ∧ f_X11_risk m = some (r, m2) ∧ Sc m m2 := by
  obtain ⟨m2, e, hs⟩ := r_risk (Hq_th h) hW hW2 hS hA
  refine ⟨nI (sumN (fun d => ct (fun o => rkP Λ S d o) d) (yD Λ)), m2, ?_, ?_, Sc_tr Sc_th hs⟩
  · unfold f_X10_risk
    rw [c_deadly h hW hS, q_bd2, tri (fun d o => rk_comm)]
  · unfold f_X11_risk
    rw [q_stI, q_th, q_l0]
    exact e
end Rsk
