/-! MATH HALF: spares of the class, build -/
section Lay8
variable {T Λ : Lv} {P : Pv} {nd a b k p u x n d i j A c c2 t : Nat} {q q2 : Nat → Nat} {β γ : Bv} {m m2 : Mm} {v : Int32}
theorem yM_bit (hy : WLy Λ) (hd : d < 13) : (yM Λ k).testBit d = true ↔ onK Λ k d := by
  rw [hy.2.2.2.2.1 k, lb_bit]
  exact ⟨fun h => h.2, fun h => ⟨hd, h⟩⟩
theorem yM_lt (hy : WLy Λ) : yM Λ k < 8192 := by
  rw [hy.2.2.2.2.1 k]
  exact lb_lt (fun d => onK Λ k d) 13
/-- a spare laid, when it is chosen -/
def spU (β : Bv) (k z s : Nat) : Bv := if z = 0 then up2 (up2 β 4 k mo) 5 k mo else up2 (up2 (up2 (up2 β 4 k (nI (z - 1))) 5 k mo) 5 k (nI s)) 13 (z - 1) (β 13 (z - 1) + nI 1)
theorem c_spare (h1 : WL1 Λ) (hy : WLy Λ) (hk : k < yS Λ) (hS : SPi Λ k β) : ∃ γ, f_X4_addSpare A (nI k) (pB A β m) = some (pB A γ m) ∧ SPi Λ (k + 1) γ := by
  have h13 := h1.1
  have h40 := h1.2.1
  obtain ⟨⟨s0, s1, s2, s3, s4, s5⟩, s6, s7⟩ := hS
  have sM := (s3 k hk).2.2.2
  have hM := yM_lt (k := k) hy
  have eQ := hy.2.2.2.2.2.1 k hk
  have eR := hy.2.2.2.2.2.2 k hk
  have hq := (h1.2.2.2.1 k hk).2.2.2
  have main : f_X4_addSpare A (nI k) (pB A β m) = (if yQ Λ k = 0 then some (pB A (up2 (up2 β 4 k mo) 5 k mo) m) else some (pB A (up2 (up2 (up2 (up2 β 4 k (nI (yQ Λ k - 1))) 5 k mo) 5 k (nI (ct (fun j => onK Λ j (yQ Λ k - 1)) (yS Λ) + ct (fun j => yQ Λ j = yQ Λ k - 1 + 1) k))) 13 (yQ Λ k - 1) (nI (ct (fun j => yQ Λ j = yQ Λ k - 1 + 1) k + 1))) m)) := by
    refine lp0 (fun j d => f_X4_addSpare_L4 A j (nI k) (oI (chN Λ (yQ Λ) k d)) (nI d) (pB A β m)) (yD Λ) _ (fun j => ?_) (fun j d hd => ?_) (by omega)
    · rw [← eQ]
      by_cases h0 : yQ Λ k = 0
      · rw [if_pos h0]
        simp (maxSteps := 500000) (disch := first | assumption | omega) only [f_X4_addSpare_L4, q_l0, q_l1, q_l2, q_l3, q_l4, q_l5, q_l6, q_l7, q_l8, q_l9, q_l10, q_l11, q_l12, q_l13, q_l14, q_l15, q_l16, q_l20, q_l21, q_l22, q_l24, q_l25, q_l26, q_l27, q_l28, q_l29, q_l30, q_l31, q_l32, q_l40, q_l48, q_l57, q_l80, q_l97, q_l100, q_l120, q_l122, q_l126, q_l160, q_l200, q_l214, q_l255, q_l256, q_l374, q_l400, q_l999, q_l1000, q_l9999, q_l99, q_l99999, q_nm, q_gd, q_gd2, q_ix, q_lt, q_eq, q_m5a, q_m5b, q_m40b, q_m8a, q_m8b, q_m16b, q_m374b, q_m160b, q_m10a, q_div5, q_rem5, nI_add, q_moe, q_moe2, q_mol, q_mol2, q_mor, q_bd2, q_bd1, q_stI, q_oI0, if_true, if_false, ite_true, ite_false, ↓reduceIte, Nat.lt_irrefl, Nat.not_lt_zero, Nat.add_zero, Nat.zero_add, Nat.reduceEqDiff, Nat.reduceLeDiff, Nat.reduceLT, Nat.reduceAdd, Bool.false_eq_true, and_self, and_false, false_and, true_and, and_true, not_true_eq_false, not_false_eq_true, q_nm, pB_g, pB_g0, pB_s, pB_s0, s0, h0]
      · rw [if_neg h0]
        have e11 := (s5 (yQ Λ k - 1) (by omega)).1
        have e13 := s6 (yQ Λ k - 1) (by omega)
        have c1 := ct_le (fun j => onK Λ j (yQ Λ k - 1)) (yS Λ)
        have c2 := ct_le (fun j => yQ Λ j = yQ Λ k - 1 + 1) k
        rw [q_oIp (by omega)]
        have hq13 : yQ Λ k - 1 < 13 := by omega
        simp (maxSteps := 500000) (disch := first | assumption | omega) only [f_X4_addSpare_L4, q_l0, q_l1, q_l2, q_l3, q_l4, q_l5, q_l6, q_l7, q_l8, q_l9, q_l10, q_l11, q_l12, q_l13, q_l14, q_l15, q_l16, q_l20, q_l21, q_l22, q_l24, q_l25, q_l26, q_l27, q_l28, q_l29, q_l30, q_l31, q_l32, q_l40, q_l48, q_l57, q_l80, q_l97, q_l100, q_l120, q_l122, q_l126, q_l160, q_l200, q_l214, q_l255, q_l256, q_l374, q_l400, q_l999, q_l1000, q_l9999, q_l99, q_l99999, q_nm, q_gd, q_gd2, q_ix, q_lt, q_eq, q_m5a, q_m5b, q_m40b, q_m8a, q_m8b, q_m16b, q_m374b, q_m160b, q_m10a, q_div5, q_rem5, nI_add, q_moe, q_moe2, q_mol, q_mol2, q_mor, q_bd2, q_bd1, q_stI, q_oI0, if_true, if_false, ite_true, ite_false, ↓reduceIte, Nat.lt_irrefl, Nat.not_lt_zero, Nat.add_zero, Nat.zero_add, Nat.reduceEqDiff, Nat.reduceLeDiff, Nat.reduceLT, Nat.reduceAdd, Bool.false_eq_true, and_self, and_false, false_and, true_and, and_true, not_true_eq_false, not_false_eq_true, q_nm, pB_g, pB_g0, pB_s, pB_s0, up_ne, up_eq, s0, e11, e13]
    · have hch := ch_le (Λ := Λ) (q := yQ Λ) (k := k) d
      have e1 := q_tb (s := yM Λ k) (d := d) (by omega) (by omega)
      have hb := yM_bit (k := k) (d := d) hy (by omega)
      have e13 := s6 d (by omega)
      have c1 := ct_le (fun j => yQ Λ j = d + 1) k
      by_cases on : onK Λ k d
      · have e2 : chN Λ (yQ Λ) k (d + 1) = chN Λ (yQ Λ) k d := by
          show (if onK Λ k d then _ else _) = _
          rw [if_pos on]
        have on2 := hb.mpr on
        simp only [e2]
        simp (maxSteps := 500000) (disch := first | assumption | omega) only [f_X4_addSpare_L4, f_X4_addSpare_J30, q_l0, q_l1, q_l2, q_l3, q_l4, q_l5, q_l6, q_l7, q_l8, q_l9, q_l10, q_l11, q_l12, q_l13, q_l14, q_l15, q_l16, q_l20, q_l21, q_l22, q_l24, q_l25, q_l26, q_l27, q_l28, q_l29, q_l30, q_l31, q_l32, q_l40, q_l48, q_l57, q_l80, q_l97, q_l100, q_l120, q_l122, q_l126, q_l160, q_l200, q_l214, q_l255, q_l256, q_l374, q_l400, q_l999, q_l1000, q_l9999, q_l99, q_l99999, q_nm, q_gd, q_gd2, q_ix, q_lt, q_eq, q_m5a, q_m5b, q_m40b, q_m8a, q_m8b, q_m16b, q_m374b, q_m160b, q_m10a, q_div5, q_rem5, nI_add, q_moe, q_moe2, q_mol, q_mol2, q_mor, q_bd2, q_bd1, q_stI, q_oI0, if_true, if_false, ite_true, ite_false, ↓reduceIte, Nat.lt_irrefl, Nat.not_lt_zero, Nat.add_zero, Nat.zero_add, Nat.reduceEqDiff, Nat.reduceLeDiff, Nat.reduceLT, Nat.reduceAdd, Bool.false_eq_true, and_self, and_false, false_and, true_and, and_true, not_true_eq_false, not_false_eq_true, pB_g, pB_g0, s0, hd, sM, e1, on2]
      · have on2 : ¬ (yM Λ k).testBit d = true := fun h => on (hb.mp h)
        by_cases z0 : chN Λ (yQ Λ) k d = 0
        · have e2 : chN Λ (yQ Λ) k (d + 1) = d + 1 := by
            show (if onK Λ k d then _ else _) = _
            rw [if_neg on, if_pos z0]
          simp only [e2, z0]
          simp (maxSteps := 500000) (disch := first | assumption | omega) only [f_X4_addSpare_L4, f_X4_addSpare_J30, q_l0, q_l1, q_l2, q_l3, q_l4, q_l5, q_l6, q_l7, q_l8, q_l9, q_l10, q_l11, q_l12, q_l13, q_l14, q_l15, q_l16, q_l20, q_l21, q_l22, q_l24, q_l25, q_l26, q_l27, q_l28, q_l29, q_l30, q_l31, q_l32, q_l40, q_l48, q_l57, q_l80, q_l97, q_l100, q_l120, q_l122, q_l126, q_l160, q_l200, q_l214, q_l255, q_l256, q_l374, q_l400, q_l999, q_l1000, q_l9999, q_l99, q_l99999, q_nm, q_gd, q_gd2, q_ix, q_lt, q_eq, q_m5a, q_m5b, q_m40b, q_m8a, q_m8b, q_m16b, q_m374b, q_m160b, q_m10a, q_div5, q_rem5, nI_add, q_moe, q_moe2, q_mol, q_mol2, q_mor, q_bd2, q_bd1, q_stI, q_oI0, if_true, if_false, ite_true, ite_false, ↓reduceIte, Nat.lt_irrefl, Nat.not_lt_zero, Nat.add_zero, Nat.zero_add, Nat.reduceEqDiff, Nat.reduceLeDiff, Nat.reduceLT, Nat.reduceAdd, Bool.false_eq_true, and_self, and_false, false_and, true_and, and_true, not_true_eq_false, not_false_eq_true, q_nm, pB_g, pB_g0, s0, hd, sM, e1, on2, q_oIs]
        · have e14 := s6 (chN Λ (yQ Λ) k d - 1) (by omega)
          have z1 : chN Λ (yQ Λ) k d - 1 + 1 = chN Λ (yQ Λ) k d := by omega
          rw [z1] at e14
          have c2 := ct_le (fun j => yQ Λ j = chN Λ (yQ Λ) k d) k
          by_cases lt : ct (fun j => yQ Λ j = d + 1) k < ct (fun j => yQ Λ j = chN Λ (yQ Λ) k d) k
          · have e2 : chN Λ (yQ Λ) k (d + 1) = d + 1 := by
              show (if onK Λ k d then _ else _) = _
              rw [if_neg on, if_neg z0, if_pos lt]
            simp only [e2]
            rw [q_oIp (by omega), q_oIs]
            simp (maxSteps := 500000) (disch := first | assumption | omega) only [f_X4_addSpare_L4, f_X4_addSpare_J30, q_l0, q_l1, q_l2, q_l3, q_l4, q_l5, q_l6, q_l7, q_l8, q_l9, q_l10, q_l11, q_l12, q_l13, q_l14, q_l15, q_l16, q_l20, q_l21, q_l22, q_l24, q_l25, q_l26, q_l27, q_l28, q_l29, q_l30, q_l31, q_l32, q_l40, q_l48, q_l57, q_l80, q_l97, q_l100, q_l120, q_l122, q_l126, q_l160, q_l200, q_l214, q_l255, q_l256, q_l374, q_l400, q_l999, q_l1000, q_l9999, q_l99, q_l99999, q_nm, q_gd, q_gd2, q_ix, q_lt, q_eq, q_m5a, q_m5b, q_m40b, q_m8a, q_m8b, q_m16b, q_m374b, q_m160b, q_m10a, q_div5, q_rem5, nI_add, q_moe, q_moe2, q_mol, q_mol2, q_mor, q_bd2, q_bd1, q_stI, q_oI0, if_true, if_false, ite_true, ite_false, ↓reduceIte, Nat.lt_irrefl, Nat.not_lt_zero, Nat.add_zero, Nat.zero_add, Nat.reduceEqDiff, Nat.reduceLeDiff, Nat.reduceLT, Nat.reduceAdd, Bool.false_eq_true, and_self, and_false, false_and, true_and, and_true, not_true_eq_false, not_false_eq_true, q_nm, pB_g, pB_g0, s0, hd, sM, e1, on2, e13, e14, lt]
          · have e2 : chN Λ (yQ Λ) k (d + 1) = chN Λ (yQ Λ) k d := by
              show (if onK Λ k d then _ else _) = _
              rw [if_neg on, if_neg z0, if_neg lt]
            simp only [e2]
            rw [q_oIp (by omega)]
            simp (maxSteps := 500000) (disch := first | assumption | omega) only [f_X4_addSpare_L4, f_X4_addSpare_J30, q_l0, q_l1, q_l2, q_l3, q_l4, q_l5, q_l6, q_l7, q_l8, q_l9, q_l10, q_l11, q_l12, q_l13, q_l14, q_l15, q_l16, q_l20, q_l21, q_l22, q_l24, q_l25, q_l26, q_l27, q_l28, q_l29, q_l30, q_l31, q_l32, q_l40, q_l48, q_l57, q_l80, q_l97, q_l100, q_l120, q_l122, q_l126, q_l160, q_l200, q_l214, q_l255, q_l256, q_l374, q_l400, q_l999, q_l1000, q_l9999, q_l99, q_l99999, q_nm, q_gd, q_gd2, q_ix, q_lt, q_eq, q_m5a, q_m5b, q_m40b, q_m8a, q_m8b, q_m16b, q_m374b, q_m160b, q_m10a, q_div5, q_rem5, nI_add, q_moe, q_moe2, q_mol, q_mol2, q_mor, q_bd2, q_bd1, q_stI, q_oI0, if_true, if_false, ite_true, ite_false, ↓reduceIte, Nat.lt_irrefl, Nat.not_lt_zero, Nat.add_zero, Nat.zero_add, Nat.reduceEqDiff, Nat.reduceLeDiff, Nat.reduceLT, Nat.reduceAdd, Bool.false_eq_true, and_self, and_false, false_and, true_and, and_true, not_true_eq_false, not_false_eq_true, q_nm, pB_g, pB_g0, s0, hd, sM, e1, on2, e13, e14, lt]
  by_cases h0 : yQ Λ k = 0
  · rw [if_pos h0] at main
    refine ⟨_, main, ⟨⟨?_, ?_, ⟨?_, fun x hx hx2 => ?_, fun i hi => ?_⟩, fun j hj => ?_, fun x hx hx2 => ?_, fun d hd => ?_⟩, fun d hd => ?_, fun j hj => ?_⟩⟩
    · rw [up_ne (by omega), up_ne (by omega)]; exact s0
    · rw [up_ne (by omega), up_ne (by omega)]; exact s1
    · rw [up_ne (by omega), up_ne (by omega)]; exact s2.1
    · rw [up_ne (by omega), up_ne (by omega)]; exact s2.2.1 x hx hx2
    · rw [up_ne (by omega), up_ne (by omega)]; exact s2.2.2 i hi
    · rw [up_ne (by omega), up_ne (by omega), up_ne (by omega), up_ne (by omega), up_ne (by omega), up_ne (by omega), up_ne (by omega), up_ne (by omega)]; exact s3 j hj
    · rw [up_ne (by omega), up_ne (by omega), up_ne (by omega), up_ne (by omega)]; exact s4 x hx hx2
    · rw [up_ne (by omega), up_ne (by omega), up_ne (by omega), up_ne (by omega)]; exact s5 d hd
    · rw [up_ne (by omega), up_ne (by omega), s6 d hd]
      show _ = nI (ct _ k + (if yQ Λ k = d + 1 then 1 else 0))
      exact congrArg nI (by split <;> omega)
    · by_cases e : j = k
      · subst e
        rw [up_ne (by omega), up_eq, up_eq, eR, if_pos h0, h0]
        exact ⟨rfl, rfl⟩
      · rw [up_ne (by omega), up_ne (by omega), up_ne (by omega), up_ne (by omega)]
        exact s7 j (by omega)
  · rw [if_neg h0] at main
    refine ⟨_, main, ⟨⟨?_, ?_, ⟨?_, fun x hx hx2 => ?_, fun i hi => ?_⟩, fun j hj => ?_, fun x hx hx2 => ?_, fun d hd => ?_⟩, fun d hd => ?_, fun j hj => ?_⟩⟩
    · rw [up_ne (by omega), up_ne (by omega), up_ne (by omega), up_ne (by omega)]; exact s0
    · rw [up_ne (by omega), up_ne (by omega), up_ne (by omega), up_ne (by omega)]; exact s1
    · rw [up_ne (by omega), up_ne (by omega), up_ne (by omega), up_ne (by omega)]; exact s2.1
    · rw [up_ne (by omega), up_ne (by omega), up_ne (by omega), up_ne (by omega)]; exact s2.2.1 x hx hx2
    · rw [up_ne (by omega), up_ne (by omega), up_ne (by omega), up_ne (by omega)]; exact s2.2.2 i hi
    · rw [up_ne (c2 := 1) (by omega), up_ne (c2 := 1) (by omega), up_ne (c2 := 1) (by omega), up_ne (c2 := 1) (by omega), up_ne (c2 := 2) (by omega), up_ne (c2 := 2) (by omega), up_ne (c2 := 2) (by omega), up_ne (c2 := 2) (by omega), up_ne (c2 := 3) (by omega), up_ne (c2 := 3) (by omega), up_ne (c2 := 3) (by omega), up_ne (c2 := 3) (by omega), up_ne (c2 := 6) (by omega), up_ne (c2 := 6) (by omega), up_ne (c2 := 6) (by omega), up_ne (c2 := 6) (by omega)]; exact s3 j hj
    · rw [up_ne (c2 := 7) (by omega), up_ne (c2 := 7) (by omega), up_ne (c2 := 7) (by omega), up_ne (c2 := 7) (by omega), up_ne (c2 := 8) (by omega), up_ne (c2 := 8) (by omega), up_ne (c2 := 8) (by omega), up_ne (c2 := 8) (by omega)]; exact s4 x hx hx2
    · rw [up_ne (c2 := 11) (by omega), up_ne (c2 := 11) (by omega), up_ne (c2 := 11) (by omega), up_ne (c2 := 11) (by omega), up_ne (c2 := 12) (by omega), up_ne (c2 := 12) (by omega), up_ne (c2 := 12) (by omega), up_ne (c2 := 12) (by omega)]; exact s5 d hd
    · show _ = nI (ct _ k + (if yQ Λ k = d + 1 then 1 else 0))
      by_cases e : d = yQ Λ k - 1
      · subst e
        rw [up_eq, if_pos (by omega)]
      · rw [up_ne (by omega), up_ne (by omega), up_ne (by omega), up_ne (by omega), s6 d hd]
        exact congrArg nI (by split <;> omega)
    · by_cases e : j = k
      · subst e
        have z1 : yQ Λ j - 1 + 1 = yQ Λ j := by omega
        rw [up_ne (c2 := 4) (by omega), up_ne (c2 := 4) (by omega), up_ne (c2 := 4) (by omega), up_eq, up_ne (c2 := 5) (by omega), up_eq, eR, if_neg h0, q_oIp (by omega), q_oIs, z1]
        exact ⟨rfl, rfl⟩
      · rw [up_ne (c2 := 4) (by omega), up_ne (c2 := 4) (by omega), up_ne (c2 := 4) (by omega), up_ne (c2 := 4) (by omega), up_ne (c2 := 5) (by omega), up_ne (c2 := 5) (by omega), up_ne (c2 := 5) (by omega), up_ne (c2 := 5) (by omega)]
        exact s7 j (by omega)
theorem c_L71 (h1 : WL1 Λ) (hy : WLy Λ) (h5 : WL5 Λ) (hB : BCn Λ (yS Λ) β) : ∃ γ, f_X4_build_L71 A t FU (nI 0) (pB A β m) = some (nI 1, pB A γ m) ∧ RelCa A Λ (pB A γ m) := by
  have h40 := h1.2.1
  have hS : SPi Λ 0 β := by
    obtain ⟨b0, b1, b2, b3, b4, b5⟩ := hB
    exact ⟨⟨b0, b1, b2, b3, b4, fun d hd => ⟨(b5 d hd).1, (b5 d hd).2.1⟩⟩, fun d hd => (b5 d hd).2.2, fun j hj => absurd hj (Nat.not_lt_zero _)⟩
  refine lpI (fun j k γ => f_X4_build_L71 A t j (nI k) (pB A γ m)) (fun k γ => SPi Λ k γ) (yS Λ) (fun o => ∃ γ, o = some (nI 1, pB A γ m) ∧ RelCa A Λ (pB A γ m)) (fun j γ hI => ?_) (fun j k γ hk hI => ?_) FU 0 β (by omega) (by show _ < 0 + 4096; omega) hS
  · obtain ⟨⟨s0, s1, s2, s3, s4, s5⟩, s6, s7⟩ := hI
    refine ⟨γ, ?_, ?_⟩
    · simp (maxSteps := 500000) (disch := first | assumption | omega) only [f_X4_build_L71, q_l0, q_l1, q_l2, q_l3, q_l4, q_l5, q_l6, q_l7, q_l8, q_l9, q_l10, q_l11, q_l12, q_l13, q_l14, q_l15, q_l16, q_l20, q_l21, q_l22, q_l24, q_l25, q_l26, q_l27, q_l28, q_l29, q_l30, q_l31, q_l32, q_l40, q_l48, q_l57, q_l80, q_l97, q_l100, q_l120, q_l122, q_l126, q_l160, q_l200, q_l214, q_l255, q_l256, q_l374, q_l400, q_l999, q_l1000, q_l9999, q_l99, q_l99999, q_nm, q_gd, q_gd2, q_ix, q_lt, q_eq, q_m5a, q_m5b, q_m40b, q_m8a, q_m8b, q_m16b, q_m374b, q_m160b, q_m10a, q_div5, q_rem5, nI_add, q_moe, q_moe2, q_mol, q_mol2, q_mor, q_bd2, q_bd1, q_stI, q_oI0, if_true, if_false, ite_true, ite_false, ↓reduceIte, Nat.lt_irrefl, Nat.not_lt_zero, Nat.add_zero, Nat.zero_add, Nat.reduceEqDiff, Nat.reduceLeDiff, Nat.reduceLT, Nat.reduceAdd, Bool.false_eq_true, and_self, and_false, false_and, true_and, and_true, not_true_eq_false, not_false_eq_true, pB_g0, s1]
    · unfold RelCa
      simp (disch := omega) only [pB_g, pB_g0]
      refine ⟨s0, s1, by rw [hy.1]; exact s2.1, fun k hk => (s3 k hk).1, fun k hk => (s3 k hk).2.1, fun k hk => (s3 k hk).2.2.1, fun k hk => (s7 k hk).1, fun k hk => (s7 k hk).2, fun k hk => (s3 k hk).2.2.2, fun x hx => (s4 x hx hx.1).1, fun x hx => (s4 x hx hx.1).2, fun x hx => s2.2.1 x hx ?_, fun i hi => s2.2.2 i (by rw [← hy.1]; exact hi), fun d hd => ?_, fun d hd => ?_, fun d hd => ?_⟩
      · have := hx.1
        omega
      · rw [(h5 d hd).1]; exact (s5 d hd).1
      · rw [(h5 d hd).2.1]; exact (s5 d hd).2
      · rw [(h5 d hd).2.2]; exact s6 d hd
  · have s1 := hI.1.2.1
    obtain ⟨γ2, e1, e2⟩ := c_spare (A := A) (m := m) h1 hy hk hI
    refine ⟨γ2, e2, ?_⟩
    simp (maxSteps := 500000) (disch := first | assumption | omega) only [f_X4_build_L71, q_l0, q_l1, q_l2, q_l3, q_l4, q_l5, q_l6, q_l7, q_l8, q_l9, q_l10, q_l11, q_l12, q_l13, q_l14, q_l15, q_l16, q_l20, q_l21, q_l22, q_l24, q_l25, q_l26, q_l27, q_l28, q_l29, q_l30, q_l31, q_l32, q_l40, q_l48, q_l57, q_l80, q_l97, q_l100, q_l120, q_l122, q_l126, q_l160, q_l200, q_l214, q_l255, q_l256, q_l374, q_l400, q_l999, q_l1000, q_l9999, q_l99, q_l99999, q_nm, q_gd, q_gd2, q_ix, q_lt, q_eq, q_m5a, q_m5b, q_m40b, q_m8a, q_m8b, q_m16b, q_m374b, q_m160b, q_m10a, q_div5, q_rem5, nI_add, q_moe, q_moe2, q_mol, q_mol2, q_mor, q_bd2, q_bd1, q_stI, q_oI0, if_true, if_false, ite_true, ite_false, ↓reduceIte, Nat.lt_irrefl, Nat.not_lt_zero, Nat.add_zero, Nat.zero_add, Nat.reduceEqDiff, Nat.reduceLeDiff, Nat.reduceLT, Nat.reduceAdd, Bool.false_eq_true, and_self, and_false, false_and, true_and, and_true, not_true_eq_false, not_false_eq_true, pB_g0, s1, hk, e1]
/-- the class builds the layout -/
theorem c_build (hA : A = 26 ∨ A = 40) (ht : t = 3 ∨ t = 10) (hC : ToC t T m) (hL : LawC t P m) (hT : WTo T) (h13 : nd ≤ 13) (hle : tD T ≤ nd) (hP : ∀ k z d b, 2 ≤ z → z ≤ 5 → P k z d b < z) : ∃ γ m2, f_X4_build A t (nI nd) m = some (nI (if 40 < cS T nd (tB T) then 0 else 1), pB A γ m2) ∧ lwS t m m2 ∧ (cS T nd (tB T) ≤ 40 → RelCa A (mkL2 T P nd) (pB A γ m2)) := by
  have h6 := hT.2.2.1
  obtain ⟨β, e1, e2⟩ := c_clear (Λ := mkL2 T P nd) (A := A) (m := m) (is_T (T := T) (P := P) (nd := nd)).1
  have hg : ToC t T (pB A β m) := by
    have hg : ∀ b i, b ≤ t + 3 → gI (pB A β m) b i = gI m b i := fun b i hb => pB_o (by omega)
    unfold ToC
    simp (disch := omega) only [hg]
    exact hC
  have h2 : 0 < tB T → 2 ≤ nd := fun h => by
    have := hT.2.2.2.1 h
    omega
  have e3 := c_sAll hg hT h2 h13
  have hc : cS T nd (tB T) ≤ 78 := by
    by_cases h0 : tB T = 0
    · rw [h0]; exact Nat.zero_le _
    · have := cS_le (T := T) (h2 (by omega)) h13 (tB T)
      omega
  by_cases h40 : 40 < cS T nd (tB T)
  · refine ⟨β, m, ?_, lwS_r, fun h => by omega⟩
    unfold f_X4_build
    rw [e1, q_bd1, hg.2.1, e3, q_bd2, q_l40, if_pos ((q_ltp (by omega) (by omega)).mpr h40), if_pos h40]
    rfl
  · have ok : okT T P nd := ⟨hT, h13, hle, by omega, hP⟩
    have w0 := WL_0 ok
    have w1 := WL_1 w0
    obtain ⟨γ, m3, e4, e5, e6⟩ := c_L23 hA ht hC hL ok is_T w1 (WL_2 w0) WL_y e2
    obtain ⟨δ, e7, e8⟩ := c_L71 (A := A) (t := t) (m := m3) w1 WL_y WL_5 e5
    refine ⟨δ, m3, ?_, e6, fun _ => e8⟩
    unfold f_X4_build
    rw [e1, q_bd1, hg.2.1, e3, q_bd2, q_l40, if_neg (fun h => h40 ((q_ltp (by omega) (by omega)).mp h)), if_neg h40, q_l0, e4, e7]
end Lay8
