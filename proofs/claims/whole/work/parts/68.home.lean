/-! MATH HALF: home -/
def hmX (Λ : Lv) (S : Sv) (k : Nat) : Nat := 5 * k + fs (fun u => S.2.1 (5 * k + u) = nI 1) (yZ Λ k)
abbrev hmC (Λ : Lv) (S : Sv) (k : Nat) : Prop := awU Λ S k ≠ mo ∧ upP S (yK Λ (hmX Λ S k))
def hmS (Λ : Lv) (S : Sv) (k : Nat) : Sv := ld Λ (setW (ld Λ S (hmX Λ S k) (nI 1)) (hmX Λ S k) (nI 0)) (hmX Λ S k) (nI 1)
def hmL (Λ : Lv) (S : Sv) (many : Nat) : Nat → Nat × Sv
  | 0 => (0, S)
  | k + 1 => if (hmL Λ S many k).1 < many ∧ hmC Λ (hmL Λ S many k).2 k then ((hmL Λ S many k).1 + 1, hmS Λ (hmL Λ S many k).2 k) else hmL Λ S many k
section Hm
variable {Λ : Lv} {a x k d n i N many : Nat} {S T : Sv} {m : Mm} {t v : Int32}
theorem hmL_le : (hmL Λ S many k).1 ≤ k := by
  induction k with
  | zero => exact Nat.le_refl _
  | succ k ih =>
    unfold hmL
    split
    · dsimp only; omega
    · omega
theorem hmL_stop (h : ¬ (hmL Λ S many k).1 < many) : ∀ n, k ≤ n → hmL Λ S many n = hmL Λ S many k := by
  intro n
  induction n with
  | zero => intro h1; have : k = 0 := by omega
            subst this; rfl
  | succ n ih =>
    intro h1
    rcases Nat.lt_or_ge n k with h2 | h2
    · have : k = n + 1 := by omega
      subst this; rfl
    · have e := ih h2
      conv => lhs; unfold hmL
      rw [e, if_neg (fun h3 => h h3.1)]
theorem hmS_2 : (hmS Λ S k).2.1 = upd S.2.1 (hmX Λ S k) (nI 0) := by
  unfold hmS
  rw [ld_2]
  unfold setW
  dsimp only
  rw [ld_2]
theorem WS_set0 (hS : WS Λ S) : WS Λ (setW S x (nI 0)) := by
  intro y hy
  unfold setW upd
  dsimp only
  split
  · exact Or.inl rfl
  · exact hS y hy
theorem WA_set0 (hA : WA Λ S) : WA Λ (setW S x (nI 0)) := by
  intro k2 u v hk2 hu hv h1 h2
  unfold setW upd at h1 h2
  dsimp only at h1 h2
  split at h1
  · exact absurd h1 n01
  · split at h2
    · exact absurd h2 n01
    · exact hA k2 u v hk2 hu hv h1 h2
theorem WS_hmS (hS : WS Λ S) (hA : WA Λ S) : WS Λ (hmS Λ S k) ∧ WA Λ (hmS Λ S k) :=
  ⟨WS_c (S := setW S (hmX Λ S k) (nI 0)) hmS_2 (WS_set0 hS), WA_c (S := setW S (hmX Λ S k) (nI 0)) hmS_2 (WA_set0 hA)⟩
theorem WS_hmL (hS : WS Λ S) (hA : WA Λ S) : ∀ n, WS Λ (hmL Λ S many n).2 ∧ WA Λ (hmL Λ S many n).2
  | 0 => ⟨hS, hA⟩
  | n + 1 => by
    have ih := WS_hmL hS hA n
    unfold hmL
    split
    · exact WS_hmS ih.1 ih.2
    · exact ih
theorem aw_some (h : awU Λ S k ≠ mo) : fs (fun u => S.2.1 (5 * k + u) = nI 1) (yZ Λ k) < yZ Λ k ∧ awU Λ S k = nI (fs (fun u => S.2.1 (5 * k + u) = nI 1) (yZ Λ k)) := by
  unfold awU fo at h ⊢
  by_cases h1 : fs (fun u => S.2.1 (5 * k + u) = nI 1) (yZ Λ k) < yZ Λ k
  · exact ⟨h1, if_pos h1⟩
  · rw [if_neg h1] at h; exact absurd rfl h
theorem c_bringHome (ha : 54 ≤ a) (hC : RelC Λ m) (hW : WL1 Λ) (hS : WS Λ S) (hA : WA Λ S) (hm : many < 2147483648) : f_X6_bringHome a (nI many) (pS a S m) = some (nI (hmL Λ S many (yS Λ)).1, pS a (hmL Λ S many (yS Λ)).2 m) := by
  have hC2 := hC
  obtain ⟨c0, c1, c2, c27, c28, c29, c30, c31, c32, c33, c34, c35, c36, c37, c38, c39⟩ := hC2
  have h3 := hW.2.1
  have h4 := hW.1
  refine lpE0 (fun j k => f_X6_bringHome_L4 a j (nI many) (nI (hmL Λ S many k).1) (nI k) (pS a (hmL Λ S many k).2 m)) (yS Λ) _ (fun j => ?_) (fun j k hk => ?_) (by omega)
  · have hle := hmL_le (Λ := Λ) (S := S) (many := many) (k := yS Λ)
    simp (maxSteps := 500000) (disch := first | assumption | omega) only [f_X6_bringHome_L4, q_l0, q_l1, q_l2, q_l3, q_l4, q_l5, q_l6, q_l7, q_l8, q_l9, q_l10, q_l11, q_l12, q_l13, q_l14, q_l15, q_l16, q_l20, q_l21, q_l22, q_l24, q_l25, q_l26, q_l27, q_l28, q_l29, q_l30, q_l31, q_l32, q_l40, q_l48, q_l57, q_l80, q_l97, q_l100, q_l120, q_l122, q_l126, q_l160, q_l200, q_l214, q_l255, q_l256, q_l374, q_l400, q_l999, q_l1000, q_l9999, q_l99, q_l99999, q_nm, q_gd, q_gd2, q_ix, q_lt, q_eq, q_m5a, q_m5b, q_m40b, q_m8a, q_m8b, q_m16b, q_m374b, q_m160b, q_m10a, q_div5, q_rem5, nI_add, q_moe, q_moe2, q_mol, q_mol2, q_mor, q_bd2, q_bd1, q_stI, q_oI0, if_true, if_false, ite_true, ite_false, ↓reduceIte, Nat.lt_irrefl, Nat.not_lt_zero, Nat.add_zero, Nat.zero_add, Nat.reduceEqDiff, Nat.reduceLeDiff, Nat.reduceLT, Nat.reduceAdd, Bool.false_eq_true, and_self, and_false, false_and, true_and, and_true, not_true_eq_false, not_false_eq_true, pS_low, c1]
  · have hle := hmL_le (Λ := Λ) (S := S) (many := many) (k := k)
    have hWS := WS_hmL (Λ := Λ) (many := many) hS hA k
    by_cases hd : (hmL Λ S many k).1 < many
    · left
      have h5 := (hW.2.2.2.1 k hk)
      simp (maxSteps := 500000) (disch := first | assumption | omega) only [f_X6_bringHome_L4, q_l0, q_l1, q_l2, q_l3, q_l4, q_l5, q_l6, q_l7, q_l8, q_l9, q_l10, q_l11, q_l12, q_l13, q_l14, q_l15, q_l16, q_l20, q_l21, q_l22, q_l24, q_l25, q_l26, q_l27, q_l28, q_l29, q_l30, q_l31, q_l32, q_l40, q_l48, q_l57, q_l80, q_l97, q_l100, q_l120, q_l122, q_l126, q_l160, q_l200, q_l214, q_l255, q_l256, q_l374, q_l400, q_l999, q_l1000, q_l9999, q_l99, q_l99999, q_nm, q_gd, q_gd2, q_ix, q_lt, q_eq, q_m5a, q_m5b, q_m40b, q_m8a, q_m8b, q_m16b, q_m374b, q_m160b, q_m10a, q_div5, q_rem5, nI_add, q_moe, q_moe2, q_mol, q_mol2, q_mor, q_bd2, q_bd1, q_stI, q_oI0, if_true, if_false, ite_true, ite_false, ↓reduceIte, Nat.lt_irrefl, Nat.not_lt_zero, Nat.add_zero, Nat.zero_add, Nat.reduceEqDiff, Nat.reduceLeDiff, Nat.reduceLT, Nat.reduceAdd, Bool.false_eq_true, and_self, and_false, false_and, true_and, and_true, not_true_eq_false, not_false_eq_true, pS_low, c1, hk, hd, c_awayUnit ha hC hW hk]
      by_cases h1 : awU Λ (hmL Λ S many k).2 k = mo
      · have e : hmL Λ S many (k + 1) = hmL Λ S many k := by
          conv => lhs; unfold hmL
          rw [if_neg (fun h => h.2.1 h1)]
        rw [e]
        simp only [h1, if_true, reduceIte]
      · obtain ⟨h6, h7⟩ := aw_some h1
        have hv := vx_mk hW hk h6
        have h2 := vy_lt hW hv
        have hK := hW.2.2.2.2 _ hv
        rw [h7]
        simp (maxSteps := 500000) (disch := first | assumption | omega) only [q_l0, q_l1, q_l2, q_l3, q_l4, q_l5, q_l6, q_l7, q_l8, q_l9, q_l10, q_l11, q_l12, q_l13, q_l14, q_l15, q_l16, q_l20, q_l21, q_l22, q_l24, q_l25, q_l26, q_l27, q_l28, q_l29, q_l30, q_l31, q_l32, q_l40, q_l48, q_l57, q_l80, q_l97, q_l100, q_l120, q_l122, q_l126, q_l160, q_l200, q_l214, q_l255, q_l256, q_l374, q_l400, q_l999, q_l1000, q_l9999, q_l99, q_l99999, q_nm, q_gd, q_gd2, q_ix, q_lt, q_eq, q_m5a, q_m5b, q_m40b, q_m8a, q_m8b, q_m16b, q_m374b, q_m160b, q_m10a, q_div5, q_rem5, nI_add, q_moe, q_moe2, q_mol, q_mol2, q_mor, q_bd2, q_bd1, q_stI, q_oI0, if_true, if_false, ite_true, ite_false, ↓reduceIte, Nat.lt_irrefl, Nat.not_lt_zero, Nat.add_zero, Nat.zero_add, Nat.reduceEqDiff, Nat.reduceLeDiff, Nat.reduceLT, Nat.reduceAdd, Bool.false_eq_true, and_self, and_false, false_and, true_and, and_true, not_true_eq_false, not_false_eq_true, pS_low, c33]
        rw [c_isUp (by omega), q_bd2]
        by_cases hu : upP (hmL Λ S many k).2 (yK Λ (hmX Λ (hmL Λ S many k).2 k))
        · have e : hmL Λ S many (k + 1) = ((hmL Λ S many k).1 + 1, hmS Λ (hmL Λ S many k).2 k) := by
            conv => lhs; unfold hmL
            rw [if_pos ⟨hd, h1, hu⟩]
          rw [e]
          unfold hmX at hu
          have hl := c_load (t := nI 1) ha hC hW (WS_set0 (x := 5 * k + fs (fun u => (hmL Λ S many k).2.2.1 (5 * k + u) = nI 1) (yZ Λ k)) (WS_c (T := ld Λ (hmL Λ S many k).2 (5 * k + fs (fun u => (hmL Λ S many k).2.2.1 (5 * k + u) = nI 1) (yZ Λ k)) (nI 1)) ld_2 hWS.1)) hv
          unfold setW at hl
          rw [if_pos hu]
          simp (maxSteps := 500000) (disch := first | assumption | omega) only [q_l0, q_l1, q_l2, q_l3, q_l4, q_l5, q_l6, q_l7, q_l8, q_l9, q_l10, q_l11, q_l12, q_l13, q_l14, q_l15, q_l16, q_l20, q_l21, q_l22, q_l24, q_l25, q_l26, q_l27, q_l28, q_l29, q_l30, q_l31, q_l32, q_l40, q_l48, q_l57, q_l80, q_l97, q_l100, q_l120, q_l122, q_l126, q_l160, q_l200, q_l214, q_l255, q_l256, q_l374, q_l400, q_l999, q_l1000, q_l9999, q_l99, q_l99999, q_nm, q_gd, q_gd2, q_ix, q_lt, q_eq, q_m5a, q_m5b, q_m40b, q_m8a, q_m8b, q_m16b, q_m374b, q_m160b, q_m10a, q_div5, q_rem5, nI_add, q_moe, q_moe2, q_mol, q_mol2, q_mor, q_bd2, q_bd1, q_stI, q_oI0, if_true, if_false, ite_true, ite_false, ↓reduceIte, Nat.lt_irrefl, Nat.not_lt_zero, Nat.add_zero, Nat.zero_add, Nat.reduceEqDiff, Nat.reduceLeDiff, Nat.reduceLT, Nat.reduceAdd, Bool.false_eq_true, and_self, and_false, false_and, true_and, and_true, not_true_eq_false, not_false_eq_true, c_load ha hC hW hWS.1 hv, pS_swh, hl]
          unfold hmS setW hmX
          rfl
        · have e : hmL Λ S many (k + 1) = hmL Λ S many k := by
            conv => lhs; unfold hmL
            rw [if_neg (fun h => hu h.2.2)]
          rw [e]
          unfold hmX at hu
          rw [if_neg hu]
          simp (maxSteps := 500000) (disch := first | assumption | omega) only [q_l0, q_l1, q_l2, q_l3, q_l4, q_l5, q_l6, q_l7, q_l8, q_l9, q_l10, q_l11, q_l12, q_l13, q_l14, q_l15, q_l16, q_l20, q_l21, q_l22, q_l24, q_l25, q_l26, q_l27, q_l28, q_l29, q_l30, q_l31, q_l32, q_l40, q_l48, q_l57, q_l80, q_l97, q_l100, q_l120, q_l122, q_l126, q_l160, q_l200, q_l214, q_l255, q_l256, q_l374, q_l400, q_l999, q_l1000, q_l9999, q_l99, q_l99999, q_nm, q_gd, q_gd2, q_ix, q_lt, q_eq, q_m5a, q_m5b, q_m40b, q_m8a, q_m8b, q_m16b, q_m374b, q_m160b, q_m10a, q_div5, q_rem5, nI_add, q_moe, q_moe2, q_mol, q_mol2, q_mor, q_bd2, q_bd1, q_stI, q_oI0, if_true, if_false, ite_true, ite_false, ↓reduceIte, Nat.lt_irrefl, Nat.not_lt_zero, Nat.add_zero, Nat.zero_add, Nat.reduceEqDiff, Nat.reduceLeDiff, Nat.reduceLT, Nat.reduceAdd, Bool.false_eq_true, and_self, and_false, false_and, true_and, and_true, not_true_eq_false, not_false_eq_true]
    · right
      rw [hmL_stop hd (yS Λ) (by omega)]
      simp (maxSteps := 500000) (disch := first | assumption | omega) only [f_X6_bringHome_L4, q_l0, q_l1, q_l2, q_l3, q_l4, q_l5, q_l6, q_l7, q_l8, q_l9, q_l10, q_l11, q_l12, q_l13, q_l14, q_l15, q_l16, q_l20, q_l21, q_l22, q_l24, q_l25, q_l26, q_l27, q_l28, q_l29, q_l30, q_l31, q_l32, q_l40, q_l48, q_l57, q_l80, q_l97, q_l100, q_l120, q_l122, q_l126, q_l160, q_l200, q_l214, q_l255, q_l256, q_l374, q_l400, q_l999, q_l1000, q_l9999, q_l99, q_l99999, q_nm, q_gd, q_gd2, q_ix, q_lt, q_eq, q_m5a, q_m5b, q_m40b, q_m8a, q_m8b, q_m16b, q_m374b, q_m160b, q_m10a, q_div5, q_rem5, nI_add, q_moe, q_moe2, q_mol, q_mol2, q_mor, q_bd2, q_bd1, q_stI, q_oI0, if_true, if_false, ite_true, ite_false, ↓reduceIte, Nat.lt_irrefl, Nat.not_lt_zero, Nat.add_zero, Nat.zero_add, Nat.reduceEqDiff, Nat.reduceLeDiff, Nat.reduceLT, Nat.reduceAdd, Bool.false_eq_true, and_self, and_false, false_and, true_and, and_true, not_true_eq_false, not_false_eq_true, pS_low, c1, hk, hd]
theorem r_goesHome (hR : RelR Λ m) (hW : WL1 Λ) (hS : WS Λ S) (hA : WA Λ S) (hm : many < 2147483648) : f_X11_goesHome (nI many) (pR Λ S m) = some (nI (hmL Λ S many (yS Λ)).1, pR Λ (hmL Λ S many (yS Λ)).2 m) := by
  have hR2 := hR
  obtain ⟨r80, r99, r108, r100, r102, r101, r103, r104, r105, r106, r109, r107⟩ := hR2
  have h3 := hW.2.1
  have h4 := hW.1
  refine lpE0 (fun j k => f_X11_goesHome_L4 j (nI many) (nI (hmL Λ S many k).1) (nI k) (pR Λ (hmL Λ S many k).2 m)) (yS Λ) _ (fun j => ?_) (fun j k hk => ?_) (by omega)
  · have hle := hmL_le (Λ := Λ) (S := S) (many := many) (k := yS Λ)
    simp (maxSteps := 500000) (disch := first | assumption | omega) only [f_X11_goesHome_L4, q_l0, q_l1, q_l2, q_l3, q_l4, q_l5, q_l6, q_l7, q_l8, q_l9, q_l10, q_l11, q_l12, q_l13, q_l14, q_l15, q_l16, q_l20, q_l21, q_l22, q_l24, q_l25, q_l26, q_l27, q_l28, q_l29, q_l30, q_l31, q_l32, q_l40, q_l48, q_l57, q_l80, q_l97, q_l100, q_l120, q_l122, q_l126, q_l160, q_l200, q_l214, q_l255, q_l256, q_l374, q_l400, q_l999, q_l1000, q_l9999, q_l99, q_l99999, q_nm, q_gd, q_gd2, q_ix, q_lt, q_eq, q_m5a, q_m5b, q_m40b, q_m8a, q_m8b, q_m16b, q_m374b, q_m160b, q_m10a, q_div5, q_rem5, nI_add, q_moe, q_moe2, q_mol, q_mol2, q_mor, q_bd2, q_bd1, q_stI, q_oI0, if_true, if_false, ite_true, ite_false, ↓reduceIte, Nat.lt_irrefl, Nat.not_lt_zero, Nat.add_zero, Nat.zero_add, Nat.reduceEqDiff, Nat.reduceLeDiff, Nat.reduceLT, Nat.reduceAdd, Bool.false_eq_true, and_self, and_false, false_and, true_and, and_true, not_true_eq_false, not_false_eq_true, pR_oth, r99]
  · have hle := hmL_le (Λ := Λ) (S := S) (many := many) (k := k)
    have hWS := WS_hmL (Λ := Λ) (many := many) hS hA k
    by_cases hd : (hmL Λ S many k).1 < many
    · left
      have h5 := (hW.2.2.2.1 k hk)
      simp (maxSteps := 500000) (disch := first | assumption | omega) only [f_X11_goesHome_L4, q_l0, q_l1, q_l2, q_l3, q_l4, q_l5, q_l6, q_l7, q_l8, q_l9, q_l10, q_l11, q_l12, q_l13, q_l14, q_l15, q_l16, q_l20, q_l21, q_l22, q_l24, q_l25, q_l26, q_l27, q_l28, q_l29, q_l30, q_l31, q_l32, q_l40, q_l48, q_l57, q_l80, q_l97, q_l100, q_l120, q_l122, q_l126, q_l160, q_l200, q_l214, q_l255, q_l256, q_l374, q_l400, q_l999, q_l1000, q_l9999, q_l99, q_l99999, q_nm, q_gd, q_gd2, q_ix, q_lt, q_eq, q_m5a, q_m5b, q_m40b, q_m8a, q_m8b, q_m16b, q_m374b, q_m160b, q_m10a, q_div5, q_rem5, nI_add, q_moe, q_moe2, q_mol, q_mol2, q_mor, q_bd2, q_bd1, q_stI, q_oI0, if_true, if_false, ite_true, ite_false, ↓reduceIte, Nat.lt_irrefl, Nat.not_lt_zero, Nat.add_zero, Nat.zero_add, Nat.reduceEqDiff, Nat.reduceLeDiff, Nat.reduceLT, Nat.reduceAdd, Bool.false_eq_true, and_self, and_false, false_and, true_and, and_true, not_true_eq_false, not_false_eq_true, pR_oth, r99, hk, hd, r_awayIn hR hW hk]
      by_cases h1 : awU Λ (hmL Λ S many k).2 k = mo
      · have e : hmL Λ S many (k + 1) = hmL Λ S many k := by
          conv => lhs; unfold hmL
          rw [if_neg (fun h => h.2.1 h1)]
        rw [e]
        simp (maxSteps := 500000) (disch := first | assumption | omega) only [h1, q_l0, q_l1, q_l2, q_l3, q_l4, q_l5, q_l6, q_l7, q_l8, q_l9, q_l10, q_l11, q_l12, q_l13, q_l14, q_l15, q_l16, q_l20, q_l21, q_l22, q_l24, q_l25, q_l26, q_l27, q_l28, q_l29, q_l30, q_l31, q_l32, q_l40, q_l48, q_l57, q_l80, q_l97, q_l100, q_l120, q_l122, q_l126, q_l160, q_l200, q_l214, q_l255, q_l256, q_l374, q_l400, q_l999, q_l1000, q_l9999, q_l99, q_l99999, q_nm, q_gd, q_gd2, q_ix, q_lt, q_eq, q_m5a, q_m5b, q_m40b, q_m8a, q_m8b, q_m16b, q_m374b, q_m160b, q_m10a, q_div5, q_rem5, nI_add, q_moe, q_moe2, q_mol, q_mol2, q_mor, q_bd2, q_bd1, q_stI, q_oI0, if_true, if_false, ite_true, ite_false, ↓reduceIte, Nat.lt_irrefl, Nat.not_lt_zero, Nat.add_zero, Nat.zero_add, Nat.reduceEqDiff, Nat.reduceLeDiff, Nat.reduceLT, Nat.reduceAdd, Bool.false_eq_true, and_self, and_false, false_and, true_and, and_true, not_true_eq_false, not_false_eq_true]
      · obtain ⟨h6, h7⟩ := aw_some h1
        have hv := vx_mk hW hk h6
        have h2 := vy_lt hW hv
        have hK := hW.2.2.2.2 _ hv
        rw [h7]
        simp (maxSteps := 500000) (disch := first | assumption | omega) only [q_l0, q_l1, q_l2, q_l3, q_l4, q_l5, q_l6, q_l7, q_l8, q_l9, q_l10, q_l11, q_l12, q_l13, q_l14, q_l15, q_l16, q_l20, q_l21, q_l22, q_l24, q_l25, q_l26, q_l27, q_l28, q_l29, q_l30, q_l31, q_l32, q_l40, q_l48, q_l57, q_l80, q_l97, q_l100, q_l120, q_l122, q_l126, q_l160, q_l200, q_l214, q_l255, q_l256, q_l374, q_l400, q_l999, q_l1000, q_l9999, q_l99, q_l99999, q_nm, q_gd, q_gd2, q_ix, q_lt, q_eq, q_m5a, q_m5b, q_m40b, q_m8a, q_m8b, q_m16b, q_m374b, q_m160b, q_m10a, q_div5, q_rem5, nI_add, q_moe, q_moe2, q_mol, q_mol2, q_mor, q_bd2, q_bd1, q_stI, q_oI0, if_true, if_false, ite_true, ite_false, ↓reduceIte, Nat.lt_irrefl, Nat.not_lt_zero, Nat.add_zero, Nat.zero_add, Nat.reduceEqDiff, Nat.reduceLeDiff, Nat.reduceLT, Nat.reduceAdd, Bool.false_eq_true, and_self, and_false, false_and, true_and, and_true, not_true_eq_false, not_false_eq_true, pR_oth, r105]
        rw [r_isUp (by omega), q_bd2]
        by_cases hu : upP (hmL Λ S many k).2 (yK Λ (hmX Λ (hmL Λ S many k).2 k))
        · have e : hmL Λ S many (k + 1) = ((hmL Λ S many k).1 + 1, hmS Λ (hmL Λ S many k).2 k) := by
            conv => lhs; unfold hmL
            rw [if_pos ⟨hd, h1, hu⟩]
          rw [e]
          unfold hmX at hu
          have hl := r_loads0 (t := nI 1) hR hW (WS_set0 (x := 5 * k + fs (fun u => (hmL Λ S many k).2.2.1 (5 * k + u) = nI 1) (yZ Λ k)) (WS_c (T := ld Λ (hmL Λ S many k).2 (5 * k + fs (fun u => (hmL Λ S many k).2.2.1 (5 * k + u) = nI 1) (yZ Λ k)) (nI 1)) ld_2 hWS.1)) hv
          unfold setW at hl
          rw [if_pos hu]
          simp (maxSteps := 500000) (disch := first | assumption | omega) only [q_l0, q_l1, q_l2, q_l3, q_l4, q_l5, q_l6, q_l7, q_l8, q_l9, q_l10, q_l11, q_l12, q_l13, q_l14, q_l15, q_l16, q_l20, q_l21, q_l22, q_l24, q_l25, q_l26, q_l27, q_l28, q_l29, q_l30, q_l31, q_l32, q_l40, q_l48, q_l57, q_l80, q_l97, q_l100, q_l120, q_l122, q_l126, q_l160, q_l200, q_l214, q_l255, q_l256, q_l374, q_l400, q_l999, q_l1000, q_l9999, q_l99, q_l99999, q_nm, q_gd, q_gd2, q_ix, q_lt, q_eq, q_m5a, q_m5b, q_m40b, q_m8a, q_m8b, q_m16b, q_m374b, q_m160b, q_m10a, q_div5, q_rem5, nI_add, q_moe, q_moe2, q_mol, q_mol2, q_mor, q_bd2, q_bd1, q_stI, q_oI0, if_true, if_false, ite_true, ite_false, ↓reduceIte, Nat.lt_irrefl, Nat.not_lt_zero, Nat.add_zero, Nat.zero_add, Nat.reduceEqDiff, Nat.reduceLeDiff, Nat.reduceLT, Nat.reduceAdd, Bool.false_eq_true, and_self, and_false, false_and, true_and, and_true, not_true_eq_false, not_false_eq_true, r_loads0 hR hW hWS.1 hv, pR_swh2, hl]
          unfold hmS setW hmX
          rfl
        · have e : hmL Λ S many (k + 1) = hmL Λ S many k := by
            conv => lhs; unfold hmL
            rw [if_neg (fun h => hu h.2.2)]
          rw [e]
          unfold hmX at hu
          rw [if_neg hu]
          simp (maxSteps := 500000) (disch := first | assumption | omega) only [q_l0, q_l1, q_l2, q_l3, q_l4, q_l5, q_l6, q_l7, q_l8, q_l9, q_l10, q_l11, q_l12, q_l13, q_l14, q_l15, q_l16, q_l20, q_l21, q_l22, q_l24, q_l25, q_l26, q_l27, q_l28, q_l29, q_l30, q_l31, q_l32, q_l40, q_l48, q_l57, q_l80, q_l97, q_l100, q_l120, q_l122, q_l126, q_l160, q_l200, q_l214, q_l255, q_l256, q_l374, q_l400, q_l999, q_l1000, q_l9999, q_l99, q_l99999, q_nm, q_gd, q_gd2, q_ix, q_lt, q_eq, q_m5a, q_m5b, q_m40b, q_m8a, q_m8b, q_m16b, q_m374b, q_m160b, q_m10a, q_div5, q_rem5, nI_add, q_moe, q_moe2, q_mol, q_mol2, q_mor, q_bd2, q_bd1, q_stI, q_oI0, if_true, if_false, ite_true, ite_false, ↓reduceIte, Nat.lt_irrefl, Nat.not_lt_zero, Nat.add_zero, Nat.zero_add, Nat.reduceEqDiff, Nat.reduceLeDiff, Nat.reduceLT, Nat.reduceAdd, Bool.false_eq_true, and_self, and_false, false_and, true_and, and_true, not_true_eq_false, not_false_eq_true]
    · right
      rw [hmL_stop hd (yS Λ) (by omega)]
      simp (maxSteps := 500000) (disch := first | assumption | omega) only [f_X11_goesHome_L4, q_l0, q_l1, q_l2, q_l3, q_l4, q_l5, q_l6, q_l7, q_l8, q_l9, q_l10, q_l11, q_l12, q_l13, q_l14, q_l15, q_l16, q_l20, q_l21, q_l22, q_l24, q_l25, q_l26, q_l27, q_l28, q_l29, q_l30, q_l31, q_l32, q_l40, q_l48, q_l57, q_l80, q_l97, q_l100, q_l120, q_l122, q_l126, q_l160, q_l200, q_l214, q_l255, q_l256, q_l374, q_l400, q_l999, q_l1000, q_l9999, q_l99, q_l99999, q_nm, q_gd, q_gd2, q_ix, q_lt, q_eq, q_m5a, q_m5b, q_m40b, q_m8a, q_m8b, q_m16b, q_m374b, q_m160b, q_m10a, q_div5, q_rem5, nI_add, q_moe, q_moe2, q_mol, q_mol2, q_mor, q_bd2, q_bd1, q_stI, q_oI0, if_true, if_false, ite_true, ite_false, ↓reduceIte, Nat.lt_irrefl, Nat.not_lt_zero, Nat.add_zero, Nat.zero_add, Nat.reduceEqDiff, Nat.reduceLeDiff, Nat.reduceLT, Nat.reduceAdd, Bool.false_eq_true, and_self, and_false, false_and, true_and, and_true, not_true_eq_false, not_false_eq_true, pR_oth, r99, hk, hd]
end Hm
