/-! MATH HALF: rebuild in the reference; home -/
section Rr
variable {Λ : Lv} {a x k d n i N many u0 : Nat} {S T : Sv} {m : Mm} {t v : Int32}
abbrev onI (Λ : Lv) (S : Sv) (d x : Nat) : Prop := dnow Λ S x ≠ mo ∧ ix (dnow Λ S x) = d
theorem ldA_lo (d : Nat) : (ldA Λ S k n).2.2.2 d = S.2.2.2 d + nI (ct (fun u => onI Λ S d (5 * k + u)) n) := by
  induction n with
  | zero => show _ = _ + nI 0; rw [nI_0, Int32.add_zero]; rfl
  | succ n ih =>
    have hd : dnow Λ (ldA Λ S k n) (5 * k + n) = dnow Λ S (5 * k + n) := dn_c ldA_2 _
    unfold ldA ld
    rw [hd]
    conv => rhs; unfold ct
    by_cases h1 : dnow Λ S (5 * k + n) = mo
    · rw [if_pos h1, if_neg (fun h : onI Λ S d (5 * k + n) => h.1 h1), Nat.add_zero]
      exact ih
    · rw [if_neg h1]
      dsimp only
      unfold upd
      by_cases h2 : ix (dnow Λ S (5 * k + n)) = d
      · rw [if_pos h2.symm, if_pos ⟨h1, h2⟩, h2, ih, ← nI_add, Int32.add_assoc]
      · rw [if_neg (fun h => h2 h.symm), if_neg (fun h : onI Λ S d (5 * k + n) => h2 h.2), Nat.add_zero]
        exact ih
theorem ct_add1 {p q : Nat → Prop} [DecidablePred p] [DecidablePred q] : ∀ {n u0 : Nat}, u0 < n → (∀ i, i < n → i ≠ u0 → (p i ↔ q i)) → ¬ p u0 → ct q n = ct p n + (if q u0 then 1 else 0)
  | 0, u0, h, _, _ => by omega
  | n + 1, u0, h, h1, h2 => by
    by_cases h3 : u0 = n
    · subst h3
      unfold ct
      rw [if_neg h2, ct_congr (p := p) (q := q) (n := u0) (fun i hi => h1 i (by omega) (by omega)), Nat.add_zero]
    · have ih := ct_add1 (p := p) (q := q) (n := n) (u0 := u0) (by omega) (fun i hi hn => h1 i (by omega) hn) h2
      have h4 := h1 n (by omega) (fun e => h3 e.symm)
      conv => lhs; unfold ct
      conv => rhs; unfold ct
      rw [ih]
      by_cases h5 : p n
      · rw [if_pos h5, if_pos (h4.mp h5)]; omega
      · rw [if_neg h5, if_neg (fun h => h5 (h4.mpr h))]; omega
theorem sv_ext {S T : Sv} (h1 : S.1 = T.1) (h2 : S.2.1 = T.2.1) (h3 : S.2.2.1 = T.2.2.1) (h4 : ∀ d, S.2.2.2 d = T.2.2.2 d) : S = T := by
  obtain ⟨a1, a2, a3, a4⟩ := S
  obtain ⟨b1, b2, b3, b4⟩ := T
  dsimp only at h1 h2 h3 h4
  subst h1 h2 h3
  have : a4 = b4 := funext h4
  subst this; rfl
theorem dn_ne (h : n ≠ x) : dnow Λ (setW S x v) n = dnow Λ S n := by
  have e : (setW S x v).2.1 n = S.2.1 n := by unfold setW upd; dsimp only; rw [if_neg h]
  unfold dnow
  rw [e]
/-- all others are read, then it is there, then it is written -/
theorem rb_order (hu : u0 < yZ Λ k) (hl : S.2.1 (5 * k + u0) = nI 2) : ld Λ (setW (ldA Λ S k (yZ Λ k)) (5 * k + u0) v) (5 * k + u0) (nI 1) = ldA Λ (setW S (5 * k + u0) v) k (yZ Λ k) := by
  have hdn : dnow Λ (setW (ldA Λ S k (yZ Λ k)) (5 * k + u0) v) (5 * k + u0) = dnow Λ (setW S (5 * k + u0) v) (5 * k + u0) := dn_c (by unfold setW; dsimp only; rw [ldA_2]) _
  have hm0 : dnow Λ S (5 * k + u0) = mo := by unfold dnow; rw [if_pos hl]
  refine sv_ext ?_ ?_ ?_ (fun d => ?_)
  · rw [ld_1, ldA_1]; unfold setW; dsimp only; rw [ldA_1]
  · rw [ld_2, ldA_2]; unfold setW; dsimp only; rw [ldA_2]
  · rw [ld_3, ldA_3]; unfold setW; dsimp only; rw [ldA_3]
  · rw [ldA_lo]
    have hc := ct_add1 (p := fun u => onI Λ S d (5 * k + u)) (q := fun u => onI Λ (setW S (5 * k + u0) v) d (5 * k + u)) hu (fun i hi hn => by
      show onI Λ S d (5 * k + i) ↔ onI Λ (setW S (5 * k + u0) v) d (5 * k + i)
      unfold onI
      rw [dn_ne (by omega)]) (fun h => h.1 hm0)
    rw [hc]
    unfold ld
    rw [hdn]
    by_cases h1 : dnow Λ (setW S (5 * k + u0) v) (5 * k + u0) = mo
    · rw [if_pos h1, if_neg (fun h : onI Λ (setW S (5 * k + u0) v) d (5 * k + u0) => h.1 h1), Nat.add_zero]
      show (ldA Λ S k (yZ Λ k)).2.2.2 d = S.2.2.2 d + _
      rw [ldA_lo]
    · rw [if_neg h1]
      dsimp only
      unfold upd
      by_cases h2 : ix (dnow Λ (setW S (5 * k + u0) v) (5 * k + u0)) = d
      · rw [if_pos h2.symm, if_pos ⟨h1, h2⟩, h2]
        show (ldA Λ S k (yZ Λ k)).2.2.2 d + nI 1 = S.2.2.2 d + _
        rw [ldA_lo, ← nI_add, Int32.add_assoc]
      · rw [if_neg (fun h => h2 h.symm), if_neg (fun h : onI Λ (setW S (5 * k + u0) v) d (5 * k + u0) => h2 h.2), Nat.add_zero]
        show (ldA Λ S k (yZ Λ k)).2.2.2 d = S.2.2.2 d + _
        rw [ldA_lo]
theorem r_lostUnit (hW : WL1 Λ) (hk : k < yS Λ) (h1 : lostC Λ S k = 1) : f_X11_lostUnit (nI k) (pR Λ S m) = some (nI (loU Λ S k), pR Λ S m) := by
  have h3 := hW.2.1
  have h5 := (hW.2.2.2.1 k hk).2.1
  refine lpf (fun j u => f_X11_lostUnit_L2 j (nI k) (nI u) (pR Λ S m)) (fun u => S.2.1 (5 * k + u) = nI 2) (yZ Λ k) _ (fun j hn => ?_) (fun j u hu hp hf => ?_) (fun j u hu hp => ?_) (by omega)
  · exact absurd (loU_is h1) (hn _ (loU_lt h1))
  · simp (maxSteps := 500000) (disch := first | assumption | omega) only [f_X11_lostUnit_L2, q_l0, q_l1, q_l2, q_l3, q_l4, q_l5, q_l6, q_l7, q_l8, q_l9, q_l10, q_l11, q_l12, q_l13, q_l14, q_l15, q_l16, q_l20, q_l21, q_l22, q_l24, q_l25, q_l26, q_l27, q_l28, q_l29, q_l30, q_l31, q_l32, q_l40, q_l48, q_l57, q_l80, q_l97, q_l100, q_l120, q_l122, q_l126, q_l160, q_l200, q_l214, q_l255, q_l256, q_l374, q_l400, q_l999, q_l1000, q_l9999, q_l99, q_l99999, q_nm, q_gd, q_gd2, q_ix, q_lt, q_eq, q_m5a, q_m5b, q_m40b, q_m8a, q_m8b, q_m16b, q_m374b, q_m160b, q_m10a, q_div5, q_rem5, nI_add, q_moe, q_moe2, q_mol, q_mol2, q_mor, q_bd2, q_bd1, q_stI, q_oI0, if_true, if_false, ite_true, ite_false, ↓reduceIte, Nat.lt_irrefl, Nat.not_lt_zero, Nat.add_zero, Nat.zero_add, Nat.reduceEqDiff, Nat.reduceLeDiff, Nat.reduceLT, Nat.reduceAdd, Bool.false_eq_true, and_self, and_false, false_and, true_and, and_true, not_true_eq_false, not_false_eq_true, pR_wh2, hp]
    unfold loU
    rw [hf]
  · simp (maxSteps := 500000) (disch := first | assumption | omega) only [f_X11_lostUnit_L2, q_l0, q_l1, q_l2, q_l3, q_l4, q_l5, q_l6, q_l7, q_l8, q_l9, q_l10, q_l11, q_l12, q_l13, q_l14, q_l15, q_l16, q_l20, q_l21, q_l22, q_l24, q_l25, q_l26, q_l27, q_l28, q_l29, q_l30, q_l31, q_l32, q_l40, q_l48, q_l57, q_l80, q_l97, q_l100, q_l120, q_l122, q_l126, q_l160, q_l200, q_l214, q_l255, q_l256, q_l374, q_l400, q_l999, q_l1000, q_l9999, q_l99, q_l99999, q_nm, q_gd, q_gd2, q_ix, q_lt, q_eq, q_m5a, q_m5b, q_m40b, q_m8a, q_m8b, q_m16b, q_m374b, q_m160b, q_m10a, q_div5, q_rem5, nI_add, q_moe, q_moe2, q_mol, q_mol2, q_mor, q_bd2, q_bd1, q_stI, q_oI0, if_true, if_false, ite_true, ite_false, ↓reduceIte, Nat.lt_irrefl, Nat.not_lt_zero, Nat.add_zero, Nat.zero_add, Nat.reduceEqDiff, Nat.reduceLeDiff, Nat.reduceLT, Nat.reduceAdd, Bool.false_eq_true, and_self, and_false, false_and, true_and, and_true, not_true_eq_false, not_false_eq_true, pR_wh2, hp]
theorem r_loopB (hR : RelR Λ m) (hW : WL1 Λ) (hS : WS Λ S) (hk : k < yS Λ) {v1 v2 v4 v5 : Int32} {K : Mm → Option (Int32 × Mm)} : f_X11_rebuilds_L96 v1 v2 (nI k) v4 v5 K FU (nI 0) (pR Λ S m) = K (pR Λ (ldA Λ S k (yZ Λ k)) m) := by
  have hR2 := hR
  obtain ⟨r80, r99, r108, r100, r102, r101, r103, r104, r105, r106, r109, r107⟩ := hR2
  have h3 := hW.2.1
  have h5 := (hW.2.2.2.1 k hk).2.1
  refine lp0 (fun j u => f_X11_rebuilds_L96 v1 v2 (nI k) v4 v5 K j (nI u) (pR Λ (ldA Λ S k u) m)) (yZ Λ k) _ (fun j => ?_) (fun j u hu => ?_) (by omega)
  · simp (maxSteps := 500000) (disch := first | assumption | omega) only [f_X11_rebuilds_L96, q_l0, q_l1, q_l2, q_l3, q_l4, q_l5, q_l6, q_l7, q_l8, q_l9, q_l10, q_l11, q_l12, q_l13, q_l14, q_l15, q_l16, q_l20, q_l21, q_l22, q_l24, q_l25, q_l26, q_l27, q_l28, q_l29, q_l30, q_l31, q_l32, q_l40, q_l48, q_l57, q_l80, q_l97, q_l100, q_l120, q_l122, q_l126, q_l160, q_l200, q_l214, q_l255, q_l256, q_l374, q_l400, q_l999, q_l1000, q_l9999, q_l99, q_l99999, q_nm, q_gd, q_gd2, q_ix, q_lt, q_eq, q_m5a, q_m5b, q_m40b, q_m8a, q_m8b, q_m16b, q_m374b, q_m160b, q_m10a, q_div5, q_rem5, nI_add, q_moe, q_moe2, q_mol, q_mol2, q_mor, q_bd2, q_bd1, q_stI, q_oI0, if_true, if_false, ite_true, ite_false, ↓reduceIte, Nat.lt_irrefl, Nat.not_lt_zero, Nat.add_zero, Nat.zero_add, Nat.reduceEqDiff, Nat.reduceLeDiff, Nat.reduceLT, Nat.reduceAdd, Bool.false_eq_true, and_self, and_false, false_and, true_and, and_true, not_true_eq_false, not_false_eq_true, pR_oth, r100]
  · simp (maxSteps := 500000) (disch := first | assumption | omega) only [f_X11_rebuilds_L96, q_l0, q_l1, q_l2, q_l3, q_l4, q_l5, q_l6, q_l7, q_l8, q_l9, q_l10, q_l11, q_l12, q_l13, q_l14, q_l15, q_l16, q_l20, q_l21, q_l22, q_l24, q_l25, q_l26, q_l27, q_l28, q_l29, q_l30, q_l31, q_l32, q_l40, q_l48, q_l57, q_l80, q_l97, q_l100, q_l120, q_l122, q_l126, q_l160, q_l200, q_l214, q_l255, q_l256, q_l374, q_l400, q_l999, q_l1000, q_l9999, q_l99, q_l99999, q_nm, q_gd, q_gd2, q_ix, q_lt, q_eq, q_m5a, q_m5b, q_m40b, q_m8a, q_m8b, q_m16b, q_m374b, q_m160b, q_m10a, q_div5, q_rem5, nI_add, q_moe, q_moe2, q_mol, q_mol2, q_mor, q_bd2, q_bd1, q_stI, q_oI0, if_true, if_false, ite_true, ite_false, ↓reduceIte, Nat.lt_irrefl, Nat.not_lt_zero, Nat.add_zero, Nat.zero_add, Nat.reduceEqDiff, Nat.reduceLeDiff, Nat.reduceLT, Nat.reduceAdd, Bool.false_eq_true, and_self, and_false, false_and, true_and, and_true, not_true_eq_false, not_false_eq_true, pR_oth, r100, hu, r_loads0 hR hW (WS_c ldA_2 hS) (vx_mk hW hk hu), ldA]
theorem r_rbStep (hR : RelR Λ m) (hW : WL1 Λ) (hS : WS Λ S) (hA : WA Λ S) (hk : k < yS Λ) (hc : rbC Λ S k) {K4 : Int32 → Int32 → Int32 → Mm → Option (Int32 × Mm)} {v1 v2 : Int32} : f_X11_rebuilds_J93 K4 v1 v2 (nI k) (nI (loU Λ S k)) (nI (if upP S (yK Λ (rbX Λ S k)) then 1 else 0)) (pR Λ S m) = K4 v1 (v2 + nI 1) (nI (k + 1)) (pR Λ (rbS Λ S k) m) := by
  have hlt := loU_lt hc.1
  have hv := rbX_vx hW hk hc.1
  have h2 := vy_lt hW hv
  have h3 := hW.2.1
  have h5 := (hW.2.2.2.1 k hk).2.1
  have hws := (WS_rbS hW hk hS hA hc).1
  have hord := fun w => rb_order (v := w) (u0 := loU Λ S k) hlt (loU_is hc.1)
  unfold f_X11_rebuilds_J93
  unfold rbX at hv h2
  rw [show (0 : Int32) = nI 0 from rfl, r_loopB hR hW hS hk]
  unfold f_X11_rebuilds_J147
  by_cases hu : upP S (yK Λ (rbX Λ S k))
  · rw [if_pos hu]
    have hw2 : WS Λ (setW (ldA Λ S k (yZ Λ k)) (5 * k + loU Λ S k) (nI 0)) := by
      refine WS_c (S := rbS Λ S k) ?_ hws
      unfold rbS rbW
      rw [ldA_2, if_pos hu]
      unfold setW rbX
      dsimp only
      rw [ldA_2]
    simp (maxSteps := 500000) (disch := first | assumption | omega) only [q_l0, q_l1, q_l2, q_l3, q_l4, q_l5, q_l6, q_l7, q_l8, q_l9, q_l10, q_l11, q_l12, q_l13, q_l14, q_l15, q_l16, q_l20, q_l21, q_l22, q_l24, q_l25, q_l26, q_l27, q_l28, q_l29, q_l30, q_l31, q_l32, q_l40, q_l48, q_l57, q_l80, q_l97, q_l100, q_l120, q_l122, q_l126, q_l160, q_l200, q_l214, q_l255, q_l256, q_l374, q_l400, q_l999, q_l1000, q_l9999, q_l99, q_l99999, q_nm, q_gd, q_gd2, q_ix, q_lt, q_eq, q_m5a, q_m5b, q_m40b, q_m8a, q_m8b, q_m16b, q_m374b, q_m160b, q_m10a, q_div5, q_rem5, nI_add, q_moe, q_moe2, q_mol, q_mol2, q_mor, q_bd2, q_bd1, q_stI, q_oI0, if_true, if_false, ite_true, ite_false, ↓reduceIte, Nat.lt_irrefl, Nat.not_lt_zero, Nat.add_zero, Nat.zero_add, Nat.reduceEqDiff, Nat.reduceLeDiff, Nat.reduceLT, Nat.reduceAdd, Bool.false_eq_true, and_self, and_false, false_and, true_and, and_true, not_true_eq_false, not_false_eq_true, pR_swh2]
    have hl := r_loads0 (t := nI 1) hR hW hw2 hv
    unfold setW at hl
    rw [hl]
    have ho := hord (nI 0)
    unfold setW at ho
    simp only [q_l0, q_l1, q_l2, q_l3, q_l4, q_l5, q_l6, q_l7, q_l8, q_l9, q_l10, q_l11, q_l12, q_l13, q_l14, q_l15, q_l16, q_l20, q_l21, q_l22, q_l24, q_l25, q_l26, q_l27, q_l28, q_l29, q_l30, q_l31, q_l32, q_l40, q_l48, q_l57, q_l80, q_l97, q_l100, q_l120, q_l122, q_l126, q_l160, q_l200, q_l214, q_l255, q_l256, q_l374, q_l400, q_l999, q_l1000, q_l9999, q_l99, q_l99999, q_nm, q_gd, q_gd2, q_ix, q_lt, q_eq, q_m5a, q_m5b, q_m40b, q_m8a, q_m8b, q_m16b, q_m374b, q_m160b, q_m10a, q_div5, q_rem5, nI_add, q_moe, q_moe2, q_mol, q_mol2, q_mor, q_bd2, q_bd1, q_stI, q_oI0, if_true, if_false, ite_true, ite_false, ↓reduceIte, Nat.lt_irrefl, Nat.not_lt_zero, Nat.add_zero, Nat.zero_add, Nat.reduceEqDiff, Nat.reduceLeDiff, Nat.reduceLT, Nat.reduceAdd, Bool.false_eq_true, and_self, and_false, false_and, true_and, and_true, not_true_eq_false, not_false_eq_true, ho]
    unfold rbS rbW setW rbX
    unfold rbX at hu
    rw [if_pos hu]
  · rw [if_neg hu]
    have hw2 : WS Λ (setW (ldA Λ S k (yZ Λ k)) (5 * k + loU Λ S k) (nI 1)) := by
      refine WS_c (S := rbS Λ S k) ?_ hws
      unfold rbS rbW
      rw [ldA_2, if_neg hu]
      unfold setW rbX
      dsimp only
      rw [ldA_2]
    simp (maxSteps := 500000) (disch := first | assumption | omega) only [q_l0, q_l1, q_l2, q_l3, q_l4, q_l5, q_l6, q_l7, q_l8, q_l9, q_l10, q_l11, q_l12, q_l13, q_l14, q_l15, q_l16, q_l20, q_l21, q_l22, q_l24, q_l25, q_l26, q_l27, q_l28, q_l29, q_l30, q_l31, q_l32, q_l40, q_l48, q_l57, q_l80, q_l97, q_l100, q_l120, q_l122, q_l126, q_l160, q_l200, q_l214, q_l255, q_l256, q_l374, q_l400, q_l999, q_l1000, q_l9999, q_l99, q_l99999, q_nm, q_gd, q_gd2, q_ix, q_lt, q_eq, q_m5a, q_m5b, q_m40b, q_m8a, q_m8b, q_m16b, q_m374b, q_m160b, q_m10a, q_div5, q_rem5, nI_add, q_moe, q_moe2, q_mol, q_mol2, q_mor, q_bd2, q_bd1, q_stI, q_oI0, if_true, if_false, ite_true, ite_false, ↓reduceIte, Nat.lt_irrefl, Nat.not_lt_zero, Nat.add_zero, Nat.zero_add, Nat.reduceEqDiff, Nat.reduceLeDiff, Nat.reduceLT, Nat.reduceAdd, Bool.false_eq_true, and_self, and_false, false_and, true_and, and_true, not_true_eq_false, not_false_eq_true, pR_swh2]
    have hl := r_loads0 (t := nI 1) hR hW hw2 hv
    unfold setW at hl
    rw [hl]
    have ho := hord (nI 1)
    unfold setW at ho
    simp only [q_l0, q_l1, q_l2, q_l3, q_l4, q_l5, q_l6, q_l7, q_l8, q_l9, q_l10, q_l11, q_l12, q_l13, q_l14, q_l15, q_l16, q_l20, q_l21, q_l22, q_l24, q_l25, q_l26, q_l27, q_l28, q_l29, q_l30, q_l31, q_l32, q_l40, q_l48, q_l57, q_l80, q_l97, q_l100, q_l120, q_l122, q_l126, q_l160, q_l200, q_l214, q_l255, q_l256, q_l374, q_l400, q_l999, q_l1000, q_l9999, q_l99, q_l99999, q_nm, q_gd, q_gd2, q_ix, q_lt, q_eq, q_m5a, q_m5b, q_m40b, q_m8a, q_m8b, q_m16b, q_m374b, q_m160b, q_m10a, q_div5, q_rem5, nI_add, q_moe, q_moe2, q_mol, q_mol2, q_mor, q_bd2, q_bd1, q_stI, q_oI0, if_true, if_false, ite_true, ite_false, ↓reduceIte, Nat.lt_irrefl, Nat.not_lt_zero, Nat.add_zero, Nat.zero_add, Nat.reduceEqDiff, Nat.reduceLeDiff, Nat.reduceLT, Nat.reduceAdd, Bool.false_eq_true, and_self, and_false, false_and, true_and, and_true, not_true_eq_false, not_false_eq_true, ho]
    unfold rbS rbW setW rbX
    unfold rbX at hu
    rw [if_neg hu]
theorem r_rebuilds (hR : RelR Λ m) (hW : WL1 Λ) (hS : WS Λ S) (hA : WA Λ S) (hm : many < 2147483648) : f_X11_rebuilds (nI many) (pR Λ S m) = some (nI (rbL Λ S many (yS Λ)).1, pR Λ (rbL Λ S many (yS Λ)).2 m) := by
  have hR2 := hR
  obtain ⟨r80, r99, r108, r100, r102, r101, r103, r104, r105, r106, r109, r107⟩ := hR2
  have h3 := hW.2.1
  have h4 := hW.1
  refine lpE0 (fun j k => f_X11_rebuilds_L4 j (nI many) (nI (rbL Λ S many k).1) (nI k) (pR Λ (rbL Λ S many k).2 m)) (yS Λ) _ (fun j => ?_) (fun j k hk => ?_) (by omega)
  · have hle := rbL_le (Λ := Λ) (S := S) (many := many) (k := yS Λ)
    simp (maxSteps := 500000) (disch := first | assumption | omega) only [f_X11_rebuilds_L4, q_l0, q_l1, q_l2, q_l3, q_l4, q_l5, q_l6, q_l7, q_l8, q_l9, q_l10, q_l11, q_l12, q_l13, q_l14, q_l15, q_l16, q_l20, q_l21, q_l22, q_l24, q_l25, q_l26, q_l27, q_l28, q_l29, q_l30, q_l31, q_l32, q_l40, q_l48, q_l57, q_l80, q_l97, q_l100, q_l120, q_l122, q_l126, q_l160, q_l200, q_l214, q_l255, q_l256, q_l374, q_l400, q_l999, q_l1000, q_l9999, q_l99, q_l99999, q_nm, q_gd, q_gd2, q_ix, q_lt, q_eq, q_m5a, q_m5b, q_m40b, q_m8a, q_m8b, q_m16b, q_m374b, q_m160b, q_m10a, q_div5, q_rem5, nI_add, q_moe, q_moe2, q_mol, q_mol2, q_mor, q_bd2, q_bd1, q_stI, q_oI0, if_true, if_false, ite_true, ite_false, ↓reduceIte, Nat.lt_irrefl, Nat.not_lt_zero, Nat.add_zero, Nat.zero_add, Nat.reduceEqDiff, Nat.reduceLeDiff, Nat.reduceLT, Nat.reduceAdd, Bool.false_eq_true, and_self, and_false, false_and, true_and, and_true, not_true_eq_false, not_false_eq_true, pR_oth, r99]
  · have hle := rbL_le (Λ := Λ) (S := S) (many := many) (k := k)
    have hWS := WS_rbL (many := many) hW hS hA k (by omega)
    by_cases hd : (rbL Λ S many k).1 < many
    · left
      have h5 := (hW.2.2.2.1 k hk)
      have hlc := lostC_le (S := (rbL Λ S many k).2) hW hk
      simp (maxSteps := 500000) (disch := first | assumption | omega) only [f_X11_rebuilds_L4, q_l0, q_l1, q_l2, q_l3, q_l4, q_l5, q_l6, q_l7, q_l8, q_l9, q_l10, q_l11, q_l12, q_l13, q_l14, q_l15, q_l16, q_l20, q_l21, q_l22, q_l24, q_l25, q_l26, q_l27, q_l28, q_l29, q_l30, q_l31, q_l32, q_l40, q_l48, q_l57, q_l80, q_l97, q_l100, q_l120, q_l122, q_l126, q_l160, q_l200, q_l214, q_l255, q_l256, q_l374, q_l400, q_l999, q_l1000, q_l9999, q_l99, q_l99999, q_nm, q_gd, q_gd2, q_ix, q_lt, q_eq, q_m5a, q_m5b, q_m40b, q_m8a, q_m8b, q_m16b, q_m374b, q_m160b, q_m10a, q_div5, q_rem5, nI_add, q_moe, q_moe2, q_mol, q_mol2, q_mor, q_bd2, q_bd1, q_stI, q_oI0, if_true, if_false, ite_true, ite_false, ↓reduceIte, Nat.lt_irrefl, Nat.not_lt_zero, Nat.add_zero, Nat.zero_add, Nat.reduceEqDiff, Nat.reduceLeDiff, Nat.reduceLT, Nat.reduceAdd, Bool.false_eq_true, and_self, and_false, false_and, true_and, and_true, not_true_eq_false, not_false_eq_true, pR_oth, r99, hk, hd, r_lostIn hR hW hk]
      by_cases h1 : lostC Λ (rbL Λ S many k).2 k = 1
      · have hv := rbX_vx hW hk h1
        have h2 := vy_lt hW hv
        have hK := hW.2.2.2.2 _ hv
        have hst := fun hc => r_rbStep (K4 := fun w1 w2 w3 m => f_X11_rebuilds_L4 j w1 w2 w3 m) (v1 := nI many) (v2 := nI (rbL Λ S many k).1) hR hW hWS.1 hWS.2 hk hc
        unfold rbX at hv h2
        simp (maxSteps := 500000) (disch := first | assumption | omega) only [h1, q_l0, q_l1, q_l2, q_l3, q_l4, q_l5, q_l6, q_l7, q_l8, q_l9, q_l10, q_l11, q_l12, q_l13, q_l14, q_l15, q_l16, q_l20, q_l21, q_l22, q_l24, q_l25, q_l26, q_l27, q_l28, q_l29, q_l30, q_l31, q_l32, q_l40, q_l48, q_l57, q_l80, q_l97, q_l100, q_l120, q_l122, q_l126, q_l160, q_l200, q_l214, q_l255, q_l256, q_l374, q_l400, q_l999, q_l1000, q_l9999, q_l99, q_l99999, q_nm, q_gd, q_gd2, q_ix, q_lt, q_eq, q_m5a, q_m5b, q_m40b, q_m8a, q_m8b, q_m16b, q_m374b, q_m160b, q_m10a, q_div5, q_rem5, nI_add, q_moe, q_moe2, q_mol, q_mol2, q_mor, q_bd2, q_bd1, q_stI, q_oI0, if_true, if_false, ite_true, ite_false, ↓reduceIte, Nat.lt_irrefl, Nat.not_lt_zero, Nat.add_zero, Nat.zero_add, Nat.reduceEqDiff, Nat.reduceLeDiff, Nat.reduceLT, Nat.reduceAdd, Bool.false_eq_true, and_self, and_false, false_and, true_and, and_true, not_true_eq_false, not_false_eq_true, r_lostUnit hW hk h1, pR_oth, r105]
        rw [r_isUp (by unfold rbX at hK; omega), q_bd2]
        by_cases hc : rbC Λ (rbL Λ S many k).2 k
        · have e : rbL Λ S many (k + 1) = ((rbL Λ S many k).1 + 1, rbS Λ (rbL Λ S many k).2 k) := by
            conv => lhs; unfold rbL
            rw [if_pos ⟨hd, hc⟩]
          rw [e]
          dsimp only
          have hst2 := hst hc
          by_cases hu : upP (rbL Λ S many k).2 (yK Λ (rbX Λ (rbL Λ S many k).2 k))
          · rw [if_pos hu] at hst2
            unfold rbX at hu
            rw [if_pos hu]
            simp (maxSteps := 500000) (disch := first | assumption | omega) only [q_l0, q_l1, q_l2, q_l3, q_l4, q_l5, q_l6, q_l7, q_l8, q_l9, q_l10, q_l11, q_l12, q_l13, q_l14, q_l15, q_l16, q_l20, q_l21, q_l22, q_l24, q_l25, q_l26, q_l27, q_l28, q_l29, q_l30, q_l31, q_l32, q_l40, q_l48, q_l57, q_l80, q_l97, q_l100, q_l120, q_l122, q_l126, q_l160, q_l200, q_l214, q_l255, q_l256, q_l374, q_l400, q_l999, q_l1000, q_l9999, q_l99, q_l99999, q_nm, q_gd, q_gd2, q_ix, q_lt, q_eq, q_m5a, q_m5b, q_m40b, q_m8a, q_m8b, q_m16b, q_m374b, q_m160b, q_m10a, q_div5, q_rem5, nI_add, q_moe, q_moe2, q_mol, q_mol2, q_mor, q_bd2, q_bd1, q_stI, q_oI0, if_true, if_false, ite_true, ite_false, ↓reduceIte, Nat.lt_irrefl, Nat.not_lt_zero, Nat.add_zero, Nat.zero_add, Nat.reduceEqDiff, Nat.reduceLeDiff, Nat.reduceLT, Nat.reduceAdd, Bool.false_eq_true, and_self, and_false, false_and, true_and, and_true, not_true_eq_false, not_false_eq_true]
            rw [hst2]
            simp only [q_l0, q_l1, q_l2, q_l3, q_l4, q_l5, q_l6, q_l7, q_l8, q_l9, q_l10, q_l11, q_l12, q_l13, q_l14, q_l15, q_l16, q_l20, q_l21, q_l22, q_l24, q_l25, q_l26, q_l27, q_l28, q_l29, q_l30, q_l31, q_l32, q_l40, q_l48, q_l57, q_l80, q_l97, q_l100, q_l120, q_l122, q_l126, q_l160, q_l200, q_l214, q_l255, q_l256, q_l374, q_l400, q_l999, q_l1000, q_l9999, q_l99, q_l99999, q_nm, q_gd, q_gd2, q_ix, q_lt, q_eq, q_m5a, q_m5b, q_m40b, q_m8a, q_m8b, q_m16b, q_m374b, q_m160b, q_m10a, q_div5, q_rem5, nI_add, q_moe, q_moe2, q_mol, q_mol2, q_mor, q_bd2, q_bd1, q_stI, q_oI0, if_true, if_false, ite_true, ite_false, ↓reduceIte, Nat.lt_irrefl, Nat.not_lt_zero, Nat.add_zero, Nat.zero_add, Nat.reduceEqDiff, Nat.reduceLeDiff, Nat.reduceLT, Nat.reduceAdd, Bool.false_eq_true, and_self, and_false, false_and, true_and, and_true, not_true_eq_false, not_false_eq_true]
          · rw [if_neg hu] at hst2
            have hc3 := hc.2.resolve_left hu
            unfold rbX at hu
            rw [if_neg hu]
            simp (maxSteps := 500000) (disch := first | assumption | omega) only [q_l0, q_l1, q_l2, q_l3, q_l4, q_l5, q_l6, q_l7, q_l8, q_l9, q_l10, q_l11, q_l12, q_l13, q_l14, q_l15, q_l16, q_l20, q_l21, q_l22, q_l24, q_l25, q_l26, q_l27, q_l28, q_l29, q_l30, q_l31, q_l32, q_l40, q_l48, q_l57, q_l80, q_l97, q_l100, q_l120, q_l122, q_l126, q_l160, q_l200, q_l214, q_l255, q_l256, q_l374, q_l400, q_l999, q_l1000, q_l9999, q_l99, q_l99999, q_nm, q_gd, q_gd2, q_ix, q_lt, q_eq, q_m5a, q_m5b, q_m40b, q_m8a, q_m8b, q_m16b, q_m374b, q_m160b, q_m10a, q_div5, q_rem5, nI_add, q_moe, q_moe2, q_mol, q_mol2, q_mor, q_bd2, q_bd1, q_stI, q_oI0, if_true, if_false, ite_true, ite_false, ↓reduceIte, Nat.lt_irrefl, Nat.not_lt_zero, Nat.add_zero, Nat.zero_add, Nat.reduceEqDiff, Nat.reduceLeDiff, Nat.reduceLT, Nat.reduceAdd, Bool.false_eq_true, and_self, and_false, false_and, true_and, and_true, not_true_eq_false, not_false_eq_true, pR_oth, r103]
            rw [q_oIp hc3.1, r_isUp (by omega), q_bd2, if_pos hc3.2.1]
            simp (maxSteps := 500000) (disch := first | assumption | omega) only [q_l0, q_l1, q_l2, q_l3, q_l4, q_l5, q_l6, q_l7, q_l8, q_l9, q_l10, q_l11, q_l12, q_l13, q_l14, q_l15, q_l16, q_l20, q_l21, q_l22, q_l24, q_l25, q_l26, q_l27, q_l28, q_l29, q_l30, q_l31, q_l32, q_l40, q_l48, q_l57, q_l80, q_l97, q_l100, q_l120, q_l122, q_l126, q_l160, q_l200, q_l214, q_l255, q_l256, q_l374, q_l400, q_l999, q_l1000, q_l9999, q_l99, q_l99999, q_nm, q_gd, q_gd2, q_ix, q_lt, q_eq, q_m5a, q_m5b, q_m40b, q_m8a, q_m8b, q_m16b, q_m374b, q_m160b, q_m10a, q_div5, q_rem5, nI_add, q_moe, q_moe2, q_mol, q_mol2, q_mor, q_bd2, q_bd1, q_stI, q_oI0, if_true, if_false, ite_true, ite_false, ↓reduceIte, Nat.lt_irrefl, Nat.not_lt_zero, Nat.add_zero, Nat.zero_add, Nat.reduceEqDiff, Nat.reduceLeDiff, Nat.reduceLT, Nat.reduceAdd, Bool.false_eq_true, and_self, and_false, false_and, true_and, and_true, not_true_eq_false, not_false_eq_true, r_awayIn hR hW hk, hc3.2.2]
            rw [hst2]
            simp only [q_l0, q_l1, q_l2, q_l3, q_l4, q_l5, q_l6, q_l7, q_l8, q_l9, q_l10, q_l11, q_l12, q_l13, q_l14, q_l15, q_l16, q_l20, q_l21, q_l22, q_l24, q_l25, q_l26, q_l27, q_l28, q_l29, q_l30, q_l31, q_l32, q_l40, q_l48, q_l57, q_l80, q_l97, q_l100, q_l120, q_l122, q_l126, q_l160, q_l200, q_l214, q_l255, q_l256, q_l374, q_l400, q_l999, q_l1000, q_l9999, q_l99, q_l99999, q_nm, q_gd, q_gd2, q_ix, q_lt, q_eq, q_m5a, q_m5b, q_m40b, q_m8a, q_m8b, q_m16b, q_m374b, q_m160b, q_m10a, q_div5, q_rem5, nI_add, q_moe, q_moe2, q_mol, q_mol2, q_mor, q_bd2, q_bd1, q_stI, q_oI0, if_true, if_false, ite_true, ite_false, ↓reduceIte, Nat.lt_irrefl, Nat.not_lt_zero, Nat.add_zero, Nat.zero_add, Nat.reduceEqDiff, Nat.reduceLeDiff, Nat.reduceLT, Nat.reduceAdd, Bool.false_eq_true, and_self, and_false, false_and, true_and, and_true, not_true_eq_false, not_false_eq_true]
        · have e : rbL Λ S many (k + 1) = rbL Λ S many k := by
            conv => lhs; unfold rbL
            rw [if_neg (fun h => hc h.2)]
          have hu : ¬ upP (rbL Λ S many k).2 (yK Λ (rbX Λ (rbL Λ S many k).2 k)) := fun h => hc ⟨h1, Or.inl h⟩
          unfold rbX at hu
          rw [if_neg hu, e]
          simp (maxSteps := 500000) (disch := first | assumption | omega) only [q_l0, q_l1, q_l2, q_l3, q_l4, q_l5, q_l6, q_l7, q_l8, q_l9, q_l10, q_l11, q_l12, q_l13, q_l14, q_l15, q_l16, q_l20, q_l21, q_l22, q_l24, q_l25, q_l26, q_l27, q_l28, q_l29, q_l30, q_l31, q_l32, q_l40, q_l48, q_l57, q_l80, q_l97, q_l100, q_l120, q_l122, q_l126, q_l160, q_l200, q_l214, q_l255, q_l256, q_l374, q_l400, q_l999, q_l1000, q_l9999, q_l99, q_l99999, q_nm, q_gd, q_gd2, q_ix, q_lt, q_eq, q_m5a, q_m5b, q_m40b, q_m8a, q_m8b, q_m16b, q_m374b, q_m160b, q_m10a, q_div5, q_rem5, nI_add, q_moe, q_moe2, q_mol, q_mol2, q_mor, q_bd2, q_bd1, q_stI, q_oI0, if_true, if_false, ite_true, ite_false, ↓reduceIte, Nat.lt_irrefl, Nat.not_lt_zero, Nat.add_zero, Nat.zero_add, Nat.reduceEqDiff, Nat.reduceLeDiff, Nat.reduceLT, Nat.reduceAdd, Bool.false_eq_true, and_self, and_false, false_and, true_and, and_true, not_true_eq_false, not_false_eq_true, pR_oth, r103]
          by_cases hq : yQ Λ k = 0
          · rw [hq]
            simp (maxSteps := 500000) (disch := first | assumption | omega) only [q_l0, q_l1, q_l2, q_l3, q_l4, q_l5, q_l6, q_l7, q_l8, q_l9, q_l10, q_l11, q_l12, q_l13, q_l14, q_l15, q_l16, q_l20, q_l21, q_l22, q_l24, q_l25, q_l26, q_l27, q_l28, q_l29, q_l30, q_l31, q_l32, q_l40, q_l48, q_l57, q_l80, q_l97, q_l100, q_l120, q_l122, q_l126, q_l160, q_l200, q_l214, q_l255, q_l256, q_l374, q_l400, q_l999, q_l1000, q_l9999, q_l99, q_l99999, q_nm, q_gd, q_gd2, q_ix, q_lt, q_eq, q_m5a, q_m5b, q_m40b, q_m8a, q_m8b, q_m16b, q_m374b, q_m160b, q_m10a, q_div5, q_rem5, nI_add, q_moe, q_moe2, q_mol, q_mol2, q_mor, q_bd2, q_bd1, q_stI, q_oI0, if_true, if_false, ite_true, ite_false, ↓reduceIte, Nat.lt_irrefl, Nat.not_lt_zero, Nat.add_zero, Nat.zero_add, Nat.reduceEqDiff, Nat.reduceLeDiff, Nat.reduceLT, Nat.reduceAdd, Bool.false_eq_true, and_self, and_false, false_and, true_and, and_true, not_true_eq_false, not_false_eq_true]
          · rw [q_oIp (by omega), r_isUp (by omega), q_bd2]
            by_cases hu2 : upP (rbL Λ S many k).2 (yQ Λ k - 1)
            · rw [if_pos hu2]
              simp (maxSteps := 500000) (disch := first | assumption | omega) only [q_l0, q_l1, q_l2, q_l3, q_l4, q_l5, q_l6, q_l7, q_l8, q_l9, q_l10, q_l11, q_l12, q_l13, q_l14, q_l15, q_l16, q_l20, q_l21, q_l22, q_l24, q_l25, q_l26, q_l27, q_l28, q_l29, q_l30, q_l31, q_l32, q_l40, q_l48, q_l57, q_l80, q_l97, q_l100, q_l120, q_l122, q_l126, q_l160, q_l200, q_l214, q_l255, q_l256, q_l374, q_l400, q_l999, q_l1000, q_l9999, q_l99, q_l99999, q_nm, q_gd, q_gd2, q_ix, q_lt, q_eq, q_m5a, q_m5b, q_m40b, q_m8a, q_m8b, q_m16b, q_m374b, q_m160b, q_m10a, q_div5, q_rem5, nI_add, q_moe, q_moe2, q_mol, q_mol2, q_mor, q_bd2, q_bd1, q_stI, q_oI0, if_true, if_false, ite_true, ite_false, ↓reduceIte, Nat.lt_irrefl, Nat.not_lt_zero, Nat.add_zero, Nat.zero_add, Nat.reduceEqDiff, Nat.reduceLeDiff, Nat.reduceLT, Nat.reduceAdd, Bool.false_eq_true, and_self, and_false, false_and, true_and, and_true, not_true_eq_false, not_false_eq_true, r_awayIn hR hW hk]
              rcases awU_cases (Λ := Λ) (S := (rbL Λ S many k).2) k with ⟨h6, _⟩ | ⟨w, hw, h6, _⟩
              · exact absurd ⟨h1, Or.inr ⟨by omega, hu2, h6⟩⟩ hc
              · rw [h6]
                simp (maxSteps := 500000) (disch := first | assumption | omega) only [q_l0, q_l1, q_l2, q_l3, q_l4, q_l5, q_l6, q_l7, q_l8, q_l9, q_l10, q_l11, q_l12, q_l13, q_l14, q_l15, q_l16, q_l20, q_l21, q_l22, q_l24, q_l25, q_l26, q_l27, q_l28, q_l29, q_l30, q_l31, q_l32, q_l40, q_l48, q_l57, q_l80, q_l97, q_l100, q_l120, q_l122, q_l126, q_l160, q_l200, q_l214, q_l255, q_l256, q_l374, q_l400, q_l999, q_l1000, q_l9999, q_l99, q_l99999, q_nm, q_gd, q_gd2, q_ix, q_lt, q_eq, q_m5a, q_m5b, q_m40b, q_m8a, q_m8b, q_m16b, q_m374b, q_m160b, q_m10a, q_div5, q_rem5, nI_add, q_moe, q_moe2, q_mol, q_mol2, q_mor, q_bd2, q_bd1, q_stI, q_oI0, if_true, if_false, ite_true, ite_false, ↓reduceIte, Nat.lt_irrefl, Nat.not_lt_zero, Nat.add_zero, Nat.zero_add, Nat.reduceEqDiff, Nat.reduceLeDiff, Nat.reduceLT, Nat.reduceAdd, Bool.false_eq_true, and_self, and_false, false_and, true_and, and_true, not_true_eq_false, not_false_eq_true]
            · rw [if_neg hu2]
              simp (maxSteps := 500000) (disch := first | assumption | omega) only [q_l0, q_l1, q_l2, q_l3, q_l4, q_l5, q_l6, q_l7, q_l8, q_l9, q_l10, q_l11, q_l12, q_l13, q_l14, q_l15, q_l16, q_l20, q_l21, q_l22, q_l24, q_l25, q_l26, q_l27, q_l28, q_l29, q_l30, q_l31, q_l32, q_l40, q_l48, q_l57, q_l80, q_l97, q_l100, q_l120, q_l122, q_l126, q_l160, q_l200, q_l214, q_l255, q_l256, q_l374, q_l400, q_l999, q_l1000, q_l9999, q_l99, q_l99999, q_nm, q_gd, q_gd2, q_ix, q_lt, q_eq, q_m5a, q_m5b, q_m40b, q_m8a, q_m8b, q_m16b, q_m374b, q_m160b, q_m10a, q_div5, q_rem5, nI_add, q_moe, q_moe2, q_mol, q_mol2, q_mor, q_bd2, q_bd1, q_stI, q_oI0, if_true, if_false, ite_true, ite_false, ↓reduceIte, Nat.lt_irrefl, Nat.not_lt_zero, Nat.add_zero, Nat.zero_add, Nat.reduceEqDiff, Nat.reduceLeDiff, Nat.reduceLT, Nat.reduceAdd, Bool.false_eq_true, and_self, and_false, false_and, true_and, and_true, not_true_eq_false, not_false_eq_true]
      · have e : rbL Λ S many (k + 1) = rbL Λ S many k := by
          conv => lhs; unfold rbL
          rw [if_neg (fun h => h1 h.2.1)]
        rw [e]
        simp only [h1, if_false, reduceIte]
    · right
      rw [rbL_stop hd (yS Λ) (by omega)]
      simp (maxSteps := 500000) (disch := first | assumption | omega) only [f_X11_rebuilds_L4, q_l0, q_l1, q_l2, q_l3, q_l4, q_l5, q_l6, q_l7, q_l8, q_l9, q_l10, q_l11, q_l12, q_l13, q_l14, q_l15, q_l16, q_l20, q_l21, q_l22, q_l24, q_l25, q_l26, q_l27, q_l28, q_l29, q_l30, q_l31, q_l32, q_l40, q_l48, q_l57, q_l80, q_l97, q_l100, q_l120, q_l122, q_l126, q_l160, q_l200, q_l214, q_l255, q_l256, q_l374, q_l400, q_l999, q_l1000, q_l9999, q_l99, q_l99999, q_nm, q_gd, q_gd2, q_ix, q_lt, q_eq, q_m5a, q_m5b, q_m40b, q_m8a, q_m8b, q_m16b, q_m374b, q_m160b, q_m10a, q_div5, q_rem5, nI_add, q_moe, q_moe2, q_mol, q_mol2, q_mor, q_bd2, q_bd1, q_stI, q_oI0, if_true, if_false, ite_true, ite_false, ↓reduceIte, Nat.lt_irrefl, Nat.not_lt_zero, Nat.add_zero, Nat.zero_add, Nat.reduceEqDiff, Nat.reduceLeDiff, Nat.reduceLT, Nat.reduceAdd, Bool.false_eq_true, and_self, and_false, false_and, true_and, and_true, not_true_eq_false, not_false_eq_true, pR_oth, r99, hk, hd]
end Rr
