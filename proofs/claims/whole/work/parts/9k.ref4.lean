/-! MATH HALF: the reference's spares, the whole layout -/
def RSi (Λ : Lv) (r k : Nat) (β : Bv) : Prop := RPi Λ r (5 * yS Λ) β ∧ ∀ j, j < k → β 4 (40 * r + j) = oI (yQ Λ j) ∧ β 5 (40 * r + j) = oI (yR Λ j)
def RelRr (r : Nat) (Λ : Lv) (m : Mm) : Prop := gI m 99 r = nI (yS Λ) ∧ gI m 108 r = nI (yX Λ) ∧ (∀ k, k < yS Λ → gI m 100 (40 * r + k) = nI (yZ Λ k)) ∧ (∀ k, k < yS Λ → gI m 102 (40 * r + k) = nI (yP Λ k)) ∧ (∀ k, k < yS Λ → gI m 101 (40 * r + k) = nI (yB Λ k)) ∧ (∀ k, k < yS Λ → gI m 103 (40 * r + k) = oI (yQ Λ k)) ∧ (∀ k, k < yS Λ → gI m 104 (40 * r + k) = oI (yR Λ k)) ∧ (∀ x, vx Λ x → gI m 105 (200 * r + x) = nI (yK Λ x)) ∧ (∀ x, vx Λ x → gI m 106 (200 * r + x) = nI (yH Λ x)) ∧ (∀ x, vx Λ x → gI m 109 (200 * r + x) = oI (yT Λ x)) ∧ (∀ i, i < yX Λ → gI m 107 (160 * r + i) = nI (200 * r + yU Λ i))
section Ref4
variable {T Λ : Lv} {P : Pv} {nd a b k p u x n d i j c c2 r sh fl : Nat} {β γ δ : Bv} {m m2 m3 : Mm} {v : Int32}
theorem oI_is (hq : a < 2147483648) (hd : d < 2147483647) : oI a = nI d ↔ a = d + 1 := by
  by_cases h : a = 0
  · subst h
    rw [q_oI0, q_moe2 (by omega)]
    constructor
    · intro h; exact absurd h id
    · intro h; omega
  · rw [q_oIp (by omega), q_eq (by omega) (by omega)]
    constructor <;> omega
theorem RelR_r (h : RelRr 0 Λ m) (h80 : gI m 80 0 = nI (yD Λ)) : RelR Λ m := by
  unfold RelRr at h
  simp only [Nat.mul_zero, Nat.zero_add] at h
  obtain ⟨a1, a2, a3, a4, a5, a6, a7, a8, a9, a10, a11⟩ := h
  exact ⟨h80, a1, a2, a3, a4, a5, a6, a7, a8, a9, a10, a11⟩
theorem r_sCt (hr : r < 2) (h1 : WL1 Λ) (hk : k < yS Λ) (h : ∀ j, j < k → β 4 (40 * r + j) = oI (yQ Λ j)) (hd : d < 2147483647) : f_X11_sparesOn (nI r) (nI d) (nI k) (pB 99 β m) = some (nI (ct (fun j => yQ Λ j = d + 1) k), pB 99 β m) := by
  have h40 := h1.2.1
  have h13 := h1.1
  unfold f_X11_sparesOn
  rw [q_l0, q_l40, q_m40b]
  refine lp0 (fun f j => f_X11_sparesOn_L9 f (nI r) (nI d) (nI k) (nI (ct (fun j => yQ Λ j = d + 1) j)) (nI (40 * r + j)) (pB 99 β m)) k _ (fun f => ?_) (fun f j hj => ?_) (by omega)
  · simp (maxSteps := 500000) (disch := first | assumption | omega) only [f_X11_sparesOn_L9, q_l0, q_l1, q_l2, q_l3, q_l4, q_l5, q_l6, q_l7, q_l8, q_l9, q_l10, q_l11, q_l12, q_l13, q_l14, q_l15, q_l16, q_l20, q_l21, q_l22, q_l24, q_l25, q_l26, q_l27, q_l28, q_l29, q_l30, q_l31, q_l32, q_l40, q_l48, q_l57, q_l80, q_l97, q_l100, q_l120, q_l122, q_l126, q_l160, q_l200, q_l214, q_l255, q_l256, q_l374, q_l400, q_l999, q_l1000, q_l9999, q_l99, q_l99999, q_nm, q_gd, q_gd2, q_ix, q_lt, q_eq, q_m5a, q_m5b, q_m40b, q_m8a, q_m8b, q_m16b, q_m374b, q_m160b, q_m10a, q_div5, q_rem5, nI_add, q_moe, q_moe2, q_mol, q_mol2, q_mor, q_bd2, q_bd1, q_stI, q_oI0, if_true, if_false, ite_true, ite_false, ↓reduceIte, Nat.lt_irrefl, Nat.not_lt_zero, Nat.add_zero, Nat.zero_add, Nat.reduceEqDiff, Nat.reduceLeDiff, Nat.reduceLT, Nat.reduceAdd, Bool.false_eq_true, and_self, and_false, false_and, true_and, and_true, not_true_eq_false, not_false_eq_true]
  · have hq := (h1.2.2.2.1 j (by omega)).2.2.2
    have e := h j hj
    have hc := ct_le (fun j => yQ Λ j = d + 1) j
    have lt : 40 * r + j < 40 * r + k := by omega
    have iff := oI_is (a := yQ Λ j) (d := d) (by omega) hd
    by_cases on : yQ Λ j = d + 1
    · have on2 := iff.mpr on
      simp (maxSteps := 500000) (disch := first | assumption | omega) only [f_X11_sparesOn_L9, q_l0, q_l1, q_l2, q_l3, q_l4, q_l5, q_l6, q_l7, q_l8, q_l9, q_l10, q_l11, q_l12, q_l13, q_l14, q_l15, q_l16, q_l20, q_l21, q_l22, q_l24, q_l25, q_l26, q_l27, q_l28, q_l29, q_l30, q_l31, q_l32, q_l40, q_l48, q_l57, q_l80, q_l97, q_l100, q_l120, q_l122, q_l126, q_l160, q_l200, q_l214, q_l255, q_l256, q_l374, q_l400, q_l999, q_l1000, q_l9999, q_l99, q_l99999, q_nm, q_gd, q_gd2, q_ix, q_lt, q_eq, q_m5a, q_m5b, q_m40b, q_m8a, q_m8b, q_m16b, q_m374b, q_m160b, q_m10a, q_div5, q_rem5, nI_add, q_moe, q_moe2, q_mol, q_mol2, q_mor, q_bd2, q_bd1, q_stI, q_oI0, if_true, if_false, ite_true, ite_false, ↓reduceIte, Nat.lt_irrefl, Nat.not_lt_zero, Nat.add_zero, Nat.zero_add, Nat.reduceEqDiff, Nat.reduceLeDiff, Nat.reduceLT, Nat.reduceAdd, Bool.false_eq_true, and_self, and_false, false_and, true_and, and_true, not_true_eq_false, not_false_eq_true, g9_99, s9_99, g9_100, s9_100, g9_101, s9_101, g9_102, s9_102, g9_103, s9_103, g9_104, s9_104, g9_105, s9_105, g9_106, s9_106, g9_107, s9_107, g9_108, s9_108, g9_109, s9_109, pB_o, up_ne, up_eq, e, lt, ct, on, on2, Nat.add_assoc, q_oIs]
    · have on2 : ¬ oI (yQ Λ j) = nI d := fun hh => on (iff.mp hh)
      simp (maxSteps := 500000) (disch := first | assumption | omega) only [f_X11_sparesOn_L9, q_l0, q_l1, q_l2, q_l3, q_l4, q_l5, q_l6, q_l7, q_l8, q_l9, q_l10, q_l11, q_l12, q_l13, q_l14, q_l15, q_l16, q_l20, q_l21, q_l22, q_l24, q_l25, q_l26, q_l27, q_l28, q_l29, q_l30, q_l31, q_l32, q_l40, q_l48, q_l57, q_l80, q_l97, q_l100, q_l120, q_l122, q_l126, q_l160, q_l200, q_l214, q_l255, q_l256, q_l374, q_l400, q_l999, q_l1000, q_l9999, q_l99, q_l99999, q_nm, q_gd, q_gd2, q_ix, q_lt, q_eq, q_m5a, q_m5b, q_m40b, q_m8a, q_m8b, q_m16b, q_m374b, q_m160b, q_m10a, q_div5, q_rem5, nI_add, q_moe, q_moe2, q_mol, q_mol2, q_mor, q_bd2, q_bd1, q_stI, q_oI0, if_true, if_false, ite_true, ite_false, ↓reduceIte, Nat.lt_irrefl, Nat.not_lt_zero, Nat.add_zero, Nat.zero_add, Nat.reduceEqDiff, Nat.reduceLeDiff, Nat.reduceLT, Nat.reduceAdd, Bool.false_eq_true, and_self, and_false, false_and, true_and, and_true, not_true_eq_false, not_false_eq_true, g9_99, s9_99, g9_100, s9_100, g9_101, s9_101, g9_102, s9_102, g9_103, s9_103, g9_104, s9_104, g9_105, s9_105, g9_106, s9_106, g9_107, s9_107, g9_108, s9_108, g9_109, s9_109, pB_o, up_ne, up_eq, e, lt, ct, on, on2, Nat.add_assoc]
theorem q_mol0 : mo < nI 0 := by decide
theorem q_nln (h : a < 2147483648) : ¬ nI a < nI 0 := fun e => absurd ((q_ltp h (by omega)).mp e) (Nat.not_lt_zero _)
theorem r_spare (hr : r < 2) (h1 : WL1 Λ) (hy : WLy Λ) (hk : k < yS Λ) (hS : RSi Λ r k β) : ∃ γ, f_X11_laysSpare (nI r) (nI k) (nI (yD Λ)) (pB 99 β m) = some (pB 99 γ m) ∧ RSi Λ r (k + 1) γ ∧ rF r β γ := by
  have h13 := h1.1
  have h40 := h1.2.1
  have eQ := hy.2.2.2.2.2.1 k hk
  have eR := hy.2.2.2.2.2.2 k hk
  have hq := (h1.2.2.2.1 k hk).2.2.2
  obtain ⟨s0, s7⟩ := hS
  have hb : RPb Λ r (up2 β 4 (40 * r + k) mo) := RPb_ag hr s0.1 h1 (fun c i hc => by rw [up_ne (by omega)])
  have hs : ∀ j, j < k → up2 β 4 (40 * r + k) mo 4 (40 * r + j) = oI (yQ Λ j) := fun j hj => by rw [up_ne (by omega)]; exact (s7 j hj).1
  have main : f_X11_laysSpare (nI r) (nI k) (nI (yD Λ)) (pB 99 β m) = (if yQ Λ k = 0 then some (pB 99 (up2 (up2 (up2 β 4 (40 * r + k) mo) 4 (40 * r + k) mo) 5 (40 * r + k) mo) m) else some (pB 99 (up2 (up2 (up2 β 4 (40 * r + k) mo) 4 (40 * r + k) (nI (yQ Λ k - 1))) 5 (40 * r + k) (nI (ct (fun j => onK Λ j (yQ Λ k - 1)) (yS Λ) + ct (fun j => yQ Λ j = yQ Λ k - 1 + 1) k))) m)) := by
    unfold f_X11_laysSpare
    rw [q_l40, q_m40b, nI_add, q_gd (by omega) (by omega), q_ix (by omega), q_stI, s9_103, q_l0, show (-1 : Int32) = mo from rfl]
    refine lp0 (fun j d => f_X11_laysSpare_L22 j (nI r) (nI k) (nI (yD Λ)) (nI (40 * r + k)) (oI (chN Λ (yQ Λ) k d)) (nI d) (pB 99 (up2 β 4 (40 * r + k) mo) m)) (yD Λ) _ (fun j => ?_) (fun j d hd => ?_) (by omega)
    · rw [← eQ]
      by_cases h0 : yQ Λ k = 0
      · rw [if_pos h0]
        simp (maxSteps := 500000) (disch := first | assumption | omega) only [f_X11_laysSpare_L22, q_l0, q_l1, q_l2, q_l3, q_l4, q_l5, q_l6, q_l7, q_l8, q_l9, q_l10, q_l11, q_l12, q_l13, q_l14, q_l15, q_l16, q_l20, q_l21, q_l22, q_l24, q_l25, q_l26, q_l27, q_l28, q_l29, q_l30, q_l31, q_l32, q_l40, q_l48, q_l57, q_l80, q_l97, q_l100, q_l120, q_l122, q_l126, q_l160, q_l200, q_l214, q_l255, q_l256, q_l374, q_l400, q_l999, q_l1000, q_l9999, q_l99, q_l99999, q_nm, q_gd, q_gd2, q_ix, q_lt, q_eq, q_m5a, q_m5b, q_m40b, q_m8a, q_m8b, q_m16b, q_m374b, q_m160b, q_m10a, q_div5, q_rem5, nI_add, q_moe, q_moe2, q_mol, q_mol2, q_mor, q_bd2, q_bd1, q_stI, q_oI0, if_true, if_false, ite_true, ite_false, ↓reduceIte, Nat.lt_irrefl, Nat.not_lt_zero, Nat.add_zero, Nat.zero_add, Nat.reduceEqDiff, Nat.reduceLeDiff, Nat.reduceLT, Nat.reduceAdd, Bool.false_eq_true, and_self, and_false, false_and, true_and, and_true, not_true_eq_false, not_false_eq_true, q_nm, g9_99, s9_99, g9_100, s9_100, g9_101, s9_101, g9_102, s9_102, g9_103, s9_103, g9_104, s9_104, g9_105, s9_105, g9_106, s9_106, g9_107, s9_107, g9_108, s9_108, g9_109, s9_109, pB_o, up_ne, up_eq, h0, q_mol0]
      · rw [if_neg h0, q_oIp (by omega)]
        have hb2 : RPb Λ r (up2 (up2 β 4 (40 * r + k) mo) 4 (40 * r + k) (nI (yQ Λ k - 1))) := RPb_ag hr hb h1 (fun c i hc => by rw [up_ne (by omega)])
        have c0 := hb2.1
        have hs2 : ∀ j, j < k → up2 (up2 β 4 (40 * r + k) mo) 4 (40 * r + k) (nI (yQ Λ k - 1)) 4 (40 * r + j) = oI (yQ Λ j) := fun j hj => by rw [up_ne (by omega)]; exact hs j hj
        have eu := r_uCt (m := m) (n := yS Λ) (d := yQ Λ k - 1) hr h1 hb2 (by omega) (by omega)
        have es := r_sCt (m := m) (d := yQ Λ k - 1) hr h1 hk hs2 (by omega)
        have c1 := ct_le (fun j => onK Λ j (yQ Λ k - 1)) (yS Λ)
        have c2 := ct_le (fun j => yQ Λ j = yQ Λ k - 1 + 1) k
        have hnl := q_nln (a := yQ Λ k - 1) (by omega)
        have c0' : β 0 r = nI (yS Λ) := s0.1.1
        simp only [f_X11_laysSpare_L22]
        rw [if_neg (fun e => absurd ((q_ltp (by omega) (by omega)).mp e) (Nat.lt_irrefl _)), q_gd (by omega) (by omega), q_ix (by omega), q_stI, s9_103, q_l0, if_neg hnl, q_gd (by omega) (by omega), q_ix (by omega), g9_99, c0, eu, q_bd2, es, q_bd2, q_gd (by omega) (by omega), q_stI, s9_104, nI_add]
    · have hch := ch_le (Λ := Λ) (q := yQ Λ) (k := k) d
      have eo := r_uOn2 (m := m) (d := d) hr h1 hb hk (by omega)
      have es := r_sCt (m := m) (d := d) hr h1 hk hs (by omega)
      have c1 := ct_le (fun j => yQ Λ j = d + 1) k
      have h5 := h1.2.2.2.1 k hk
      by_cases on : onK Λ k d
      · have e2 : chN Λ (yQ Λ) k (d + 1) = chN Λ (yQ Λ) k d := by
          show (if onK Λ k d then _ else _) = _
          rw [if_pos on]
        rw [if_pos on] at eo
        have hu : uOn Λ k d < 5 := by
          have : uOn Λ k d < yZ Λ k := on
          omega
        have hnl := q_nln (a := uOn Λ k d) (by omega)
        simp only [e2, f_X11_laysSpare_L22]
        rw [if_pos ((q_ltp (by omega) (by omega)).mpr hd), eo, q_bd2, q_l0, if_neg hnl, q_l1, nI_add]
      · rw [if_neg on] at eo
        by_cases z0 : chN Λ (yQ Λ) k d = 0
        · have e2 : chN Λ (yQ Λ) k (d + 1) = d + 1 := by
            show (if onK Λ k d then _ else _) = _
            rw [if_neg on, if_pos z0]
          simp only [e2, z0, f_X11_laysSpare_L22]
          rw [if_pos ((q_ltp (by omega) (by omega)).mpr hd), eo, q_bd2, q_l0, if_pos q_mol0, q_oI0, if_pos q_mol0, q_oIs, q_l1, nI_add]
        · have z1 : chN Λ (yQ Λ) k d - 1 + 1 = chN Λ (yQ Λ) k d := by omega
          have es2 := r_sCt (m := m) (d := chN Λ (yQ Λ) k d - 1) hr h1 hk hs (by omega)
          rw [z1] at es2
          have c2 := ct_le (fun j => yQ Λ j = chN Λ (yQ Λ) k d) k
          have hnl := q_nln (a := chN Λ (yQ Λ) k d - 1) (by omega)
          by_cases lt : ct (fun j => yQ Λ j = d + 1) k < ct (fun j => yQ Λ j = chN Λ (yQ Λ) k d) k
          · have e2 : chN Λ (yQ Λ) k (d + 1) = d + 1 := by
              show (if onK Λ k d then _ else _) = _
              rw [if_neg on, if_neg z0, if_pos lt]
            simp only [e2, f_X11_laysSpare_L22]
            rw [q_oIp (by omega), q_oIs, if_pos ((q_ltp (by omega) (by omega)).mpr hd), eo, q_bd2, q_l0, if_pos q_mol0, if_neg hnl, es, q_bd2, es2, q_bd2, if_pos ((q_ltp (by omega) (by omega)).mpr lt), q_l1, nI_add]
          · have e2 : chN Λ (yQ Λ) k (d + 1) = chN Λ (yQ Λ) k d := by
              show (if onK Λ k d then _ else _) = _
              rw [if_neg on, if_neg z0, if_neg lt]
            simp only [e2, f_X11_laysSpare_L22]
            rw [q_oIp (by omega), if_pos ((q_ltp (by omega) (by omega)).mpr hd), eo, q_bd2, q_l0, if_pos q_mol0, if_neg hnl, es, q_bd2, es2, q_bd2, if_neg (fun e => lt ((q_ltp (by omega) (by omega)).mp e)), q_l1, nI_add]
  have keep : ∀ x y z, RPi Λ r (5 * yS Λ) (up2 (up2 (up2 β 4 (40 * r + k) x) 4 (40 * r + k) y) 5 (40 * r + k) z) := fun x y z => by
    obtain ⟨a1, a2, a3, a4⟩ := s0
    refine ⟨RPb_ag hr a1 h1 (fun c i hc => by rw [up_ne (by omega), up_ne (by omega), up_ne (by omega)]), ?_, fun k2 u2 hk2 hu2 hlt => ?_, fun i hi => ?_⟩
    · rw [up_ne (by omega), up_ne (by omega), up_ne (by omega)]; exact a2
    · rw [up_ne (c2 := 7) (by omega), up_ne (c2 := 7) (by omega), up_ne (c2 := 7) (by omega), up_ne (c2 := 10) (by omega), up_ne (c2 := 10) (by omega), up_ne (c2 := 10) (by omega)]; exact a3 k2 u2 hk2 hu2 hlt
    · rw [up_ne (by omega), up_ne (by omega), up_ne (by omega)]; exact a4 i hi
  have fr : ∀ x y z, rF r β (up2 (up2 (up2 β 4 (40 * r + k) x) 4 (40 * r + k) y) 5 (40 * r + k) z) := fun x y z => rF_u (by omega) (rF_u (by omega) (rF_u (by omega) rF_r))
  by_cases h0 : yQ Λ k = 0
  · rw [if_pos h0] at main
    refine ⟨_, main, ⟨keep _ _ _, fun j hj => ?_⟩, fr _ _ _⟩
    by_cases e : j = k
    · subst e
      rw [up_ne (c2 := 4) (c := 5) (by omega), up_eq, up_eq, eR, if_pos h0, h0]
      exact ⟨rfl, rfl⟩
    · rw [up_ne (c2 := 4) (by omega), up_ne (c2 := 4) (by omega), up_ne (c2 := 4) (by omega), up_ne (c2 := 5) (by omega), up_ne (c2 := 5) (by omega), up_ne (c2 := 5) (by omega)]
      exact s7 j (by omega)
  · rw [if_neg h0] at main
    refine ⟨_, main, ⟨keep _ _ _, fun j hj => ?_⟩, fr _ _ _⟩
    by_cases e : j = k
    · subst e
      have z1 : yQ Λ j - 1 + 1 = yQ Λ j := by omega
      rw [up_ne (c2 := 4) (c := 5) (by omega), up_eq, up_eq, eR, if_neg h0, q_oIp (by omega), q_oIs, z1]
      exact ⟨rfl, rfl⟩
    · rw [up_ne (c2 := 4) (by omega), up_ne (c2 := 4) (by omega), up_ne (c2 := 4) (by omega), up_ne (c2 := 5) (by omega), up_ne (c2 := 5) (by omega), up_ne (c2 := 5) (by omega)]
      exact s7 j (by omega)
end Ref4
