/-! MATH HALF: the reference numbers places and data -/
def RPb (Λ : Lv) (r : Nat) (β : Bv) : Prop := β 0 r = nI (yS Λ) ∧ (∀ k, k < yS Λ → β 1 (40 * r + k) = nI (yZ Λ k) ∧ β 2 (40 * r + k) = nI (yB Λ k) ∧ β 3 (40 * r + k) = nI (yP Λ k)) ∧ ∀ k u, k < yS Λ → u < yZ Λ k → β 6 (5 * (40 * r + k) + u) = nI (yK Λ (5 * k + u))
def RPi (Λ : Lv) (r y : Nat) (β : Bv) : Prop := RPb Λ r β ∧ β 9 r = nI (ct (dat Λ) y) ∧ (∀ k u, k < yS Λ → u < yZ Λ k → 5 * k + u < y → β 7 (5 * (40 * r + k) + u) = nI (yH Λ (5 * k + u)) ∧ β 10 (5 * (40 * r + k) + u) = oI (yT Λ (5 * k + u))) ∧ ∀ i, i < ct (dat Λ) y → β 8 (160 * r + i) = nI (200 * r + yU Λ i)
section Ref3
variable {T Λ : Lv} {P : Pv} {nd a b k p u x n d i j c c2 r sh fl : Nat} {β γ δ : Bv} {m m2 m3 : Mm} {v : Int32}
theorem RPb_ag (hr : r < 2) (h : RPb Λ r β) (h1 : WL1 Λ) (e : ∀ c i, c = 0 ∨ c = 1 ∨ c = 2 ∨ c = 3 ∨ c = 6 → γ c i = β c i) : RPb Λ r γ :=
  ⟨(e _ _ (by omega)).trans h.1, fun k hk => ⟨(e _ _ (by omega)).trans (h.2.1 k hk).1, (e _ _ (by omega)).trans (h.2.1 k hk).2.1, (e _ _ (by omega)).trans (h.2.1 k hk).2.2⟩, fun k u hk hu => (e _ _ (by omega)).trans (h.2.2 k u hk hu)⟩
theorem r_uOn2 (hr : r < 2) (h1 : WL1 Λ) (h : RPb Λ r β) (hk : k < yS Λ) (hd : d < 2147483648) : f_X11_unitOn (nI (40 * r + k)) (nI d) (pB 99 β m) = some (if onK Λ k d then nI (uOn Λ k d) else mo, pB 99 β m) := by
  have h5 := h1.2.2.2.1 k hk
  have h40 := h1.2.1
  have h13 := h1.1
  have c1 := (h.2.1 k hk).1
  unfold f_X11_unitOn
  rw [q_l0]
  refine lpf (fun j u => f_X11_unitOn_L2 j (nI (40 * r + k)) (nI d) (nI u) (pB 99 β m)) (fun u => yK Λ (5 * k + u) = d) (yZ Λ k) _ (fun j hn => ?_) (fun j u hu hp hf => ?_) (fun j u hu hp => ?_) (by omega)
  · have hno : ¬ onK Λ k d := fun hh => hn _ hh (uOn_is hh)
    rw [if_neg hno]
    simp (maxSteps := 500000) (disch := first | assumption | omega) only [f_X11_unitOn_L2, q_l0, q_l1, q_l2, q_l3, q_l4, q_l5, q_l6, q_l7, q_l8, q_l9, q_l10, q_l11, q_l12, q_l13, q_l14, q_l15, q_l16, q_l20, q_l21, q_l22, q_l24, q_l25, q_l26, q_l27, q_l28, q_l29, q_l30, q_l31, q_l32, q_l40, q_l48, q_l57, q_l80, q_l97, q_l100, q_l120, q_l122, q_l126, q_l160, q_l200, q_l214, q_l255, q_l256, q_l374, q_l400, q_l999, q_l1000, q_l9999, q_l99, q_l99999, q_nm, q_gd, q_gd2, q_ix, q_lt, q_eq, q_m5a, q_m5b, q_m40b, q_m8a, q_m8b, q_m16b, q_m374b, q_m160b, q_m10a, q_div5, q_rem5, nI_add, q_moe, q_moe2, q_mol, q_mol2, q_mor, q_bd2, q_bd1, q_stI, q_oI0, if_true, if_false, ite_true, ite_false, ↓reduceIte, Nat.lt_irrefl, Nat.not_lt_zero, Nat.add_zero, Nat.zero_add, Nat.reduceEqDiff, Nat.reduceLeDiff, Nat.reduceLT, Nat.reduceAdd, Bool.false_eq_true, and_self, and_false, false_and, true_and, and_true, not_true_eq_false, not_false_eq_true, q_nm, g9_99, s9_99, g9_100, s9_100, g9_101, s9_101, g9_102, s9_102, g9_103, s9_103, g9_104, s9_104, g9_105, s9_105, g9_106, s9_106, g9_107, s9_107, g9_108, s9_108, g9_109, s9_109, pB_o, up_ne, up_eq, c1]
  · have c6 := h.2.2 k u hk hu
    have hon : onK Λ k d := by show fs _ _ < _; rw [hf]; exact hu
    have hu2 : uOn Λ k d = u := hf
    rw [if_pos hon, hu2]
    simp (maxSteps := 500000) (disch := first | assumption | omega) only [f_X11_unitOn_L2, q_l0, q_l1, q_l2, q_l3, q_l4, q_l5, q_l6, q_l7, q_l8, q_l9, q_l10, q_l11, q_l12, q_l13, q_l14, q_l15, q_l16, q_l20, q_l21, q_l22, q_l24, q_l25, q_l26, q_l27, q_l28, q_l29, q_l30, q_l31, q_l32, q_l40, q_l48, q_l57, q_l80, q_l97, q_l100, q_l120, q_l122, q_l126, q_l160, q_l200, q_l214, q_l255, q_l256, q_l374, q_l400, q_l999, q_l1000, q_l9999, q_l99, q_l99999, q_nm, q_gd, q_gd2, q_ix, q_lt, q_eq, q_m5a, q_m5b, q_m40b, q_m8a, q_m8b, q_m16b, q_m374b, q_m160b, q_m10a, q_div5, q_rem5, nI_add, q_moe, q_moe2, q_mol, q_mol2, q_mor, q_bd2, q_bd1, q_stI, q_oI0, if_true, if_false, ite_true, ite_false, ↓reduceIte, Nat.lt_irrefl, Nat.not_lt_zero, Nat.add_zero, Nat.zero_add, Nat.reduceEqDiff, Nat.reduceLeDiff, Nat.reduceLT, Nat.reduceAdd, Bool.false_eq_true, and_self, and_false, false_and, true_and, and_true, not_true_eq_false, not_false_eq_true, g9_99, s9_99, g9_100, s9_100, g9_101, s9_101, g9_102, s9_102, g9_103, s9_103, g9_104, s9_104, g9_105, s9_105, g9_106, s9_106, g9_107, s9_107, g9_108, s9_108, g9_109, s9_109, pB_o, up_ne, up_eq, c1, c6, hu, hp]
  · have c6 := h.2.2 k u hk hu
    have hK := h1.2.2.2.2 _ (vx_mk h1 hk hu)
    simp (maxSteps := 500000) (disch := first | assumption | omega) only [f_X11_unitOn_L2, q_l0, q_l1, q_l2, q_l3, q_l4, q_l5, q_l6, q_l7, q_l8, q_l9, q_l10, q_l11, q_l12, q_l13, q_l14, q_l15, q_l16, q_l20, q_l21, q_l22, q_l24, q_l25, q_l26, q_l27, q_l28, q_l29, q_l30, q_l31, q_l32, q_l40, q_l48, q_l57, q_l80, q_l97, q_l100, q_l120, q_l122, q_l126, q_l160, q_l200, q_l214, q_l255, q_l256, q_l374, q_l400, q_l999, q_l1000, q_l9999, q_l99, q_l99999, q_nm, q_gd, q_gd2, q_ix, q_lt, q_eq, q_m5a, q_m5b, q_m40b, q_m8a, q_m8b, q_m16b, q_m374b, q_m160b, q_m10a, q_div5, q_rem5, nI_add, q_moe, q_moe2, q_mol, q_mol2, q_mor, q_bd2, q_bd1, q_stI, q_oI0, if_true, if_false, ite_true, ite_false, ↓reduceIte, Nat.lt_irrefl, Nat.not_lt_zero, Nat.add_zero, Nat.zero_add, Nat.reduceEqDiff, Nat.reduceLeDiff, Nat.reduceLT, Nat.reduceAdd, Bool.false_eq_true, and_self, and_false, false_and, true_and, and_true, not_true_eq_false, not_false_eq_true, g9_99, s9_99, g9_100, s9_100, g9_101, s9_101, g9_102, s9_102, g9_103, s9_103, g9_104, s9_104, g9_105, s9_105, g9_106, s9_106, g9_107, s9_107, g9_108, s9_108, g9_109, s9_109, pB_o, up_ne, up_eq, c1, c6, hu, hp]
theorem r_uCt (hr : r < 2) (h1 : WL1 Λ) (h : RPb Λ r β) (hn : n ≤ yS Λ) (hd : d < 2147483648) : f_X11_unitsOn (nI r) (nI d) (nI n) (pB 99 β m) = some (nI (ct (fun k => onK Λ k d) n), pB 99 β m) := by
  have h40 := h1.2.1
  unfold f_X11_unitsOn
  rw [q_l0, q_l40, q_m40b]
  refine lp0 (fun j k => f_X11_unitsOn_L9 j (nI r) (nI d) (nI n) (nI (ct (fun k => onK Λ k d) k)) (nI (40 * r + k)) (pB 99 β m)) n _ (fun j => ?_) (fun j k hk => ?_) (by omega)
  · simp (maxSteps := 500000) (disch := first | assumption | omega) only [f_X11_unitsOn_L9, q_l0, q_l1, q_l2, q_l3, q_l4, q_l5, q_l6, q_l7, q_l8, q_l9, q_l10, q_l11, q_l12, q_l13, q_l14, q_l15, q_l16, q_l20, q_l21, q_l22, q_l24, q_l25, q_l26, q_l27, q_l28, q_l29, q_l30, q_l31, q_l32, q_l40, q_l48, q_l57, q_l80, q_l97, q_l100, q_l120, q_l122, q_l126, q_l160, q_l200, q_l214, q_l255, q_l256, q_l374, q_l400, q_l999, q_l1000, q_l9999, q_l99, q_l99999, q_nm, q_gd, q_gd2, q_ix, q_lt, q_eq, q_m5a, q_m5b, q_m40b, q_m8a, q_m8b, q_m16b, q_m374b, q_m160b, q_m10a, q_div5, q_rem5, nI_add, q_moe, q_moe2, q_mol, q_mol2, q_mor, q_bd2, q_bd1, q_stI, q_oI0, if_true, if_false, ite_true, ite_false, ↓reduceIte, Nat.lt_irrefl, Nat.not_lt_zero, Nat.add_zero, Nat.zero_add, Nat.reduceEqDiff, Nat.reduceLeDiff, Nat.reduceLT, Nat.reduceAdd, Bool.false_eq_true, and_self, and_false, false_and, true_and, and_true, not_true_eq_false, not_false_eq_true]
  · have e := r_uOn2 (m := m) hr h1 h (k := k) (by omega) hd
    have hc := ct_le (fun k => onK Λ k d) k
    have h5 := h1.2.2.2.1 k (by omega)
    have lt : 40 * r + k < 40 * r + n := by omega
    by_cases on : onK Λ k d
    · rw [if_pos on] at e
      have hu : uOn Λ k d < 5 := by
        have : uOn Λ k d < yZ Λ k := on
        omega
      simp (maxSteps := 500000) (disch := first | assumption | omega) only [f_X11_unitsOn_L9, q_l0, q_l1, q_l2, q_l3, q_l4, q_l5, q_l6, q_l7, q_l8, q_l9, q_l10, q_l11, q_l12, q_l13, q_l14, q_l15, q_l16, q_l20, q_l21, q_l22, q_l24, q_l25, q_l26, q_l27, q_l28, q_l29, q_l30, q_l31, q_l32, q_l40, q_l48, q_l57, q_l80, q_l97, q_l100, q_l120, q_l122, q_l126, q_l160, q_l200, q_l214, q_l255, q_l256, q_l374, q_l400, q_l999, q_l1000, q_l9999, q_l99, q_l99999, q_nm, q_gd, q_gd2, q_ix, q_lt, q_eq, q_m5a, q_m5b, q_m40b, q_m8a, q_m8b, q_m16b, q_m374b, q_m160b, q_m10a, q_div5, q_rem5, nI_add, q_moe, q_moe2, q_mol, q_mol2, q_mor, q_bd2, q_bd1, q_stI, q_oI0, if_true, if_false, ite_true, ite_false, ↓reduceIte, Nat.lt_irrefl, Nat.not_lt_zero, Nat.add_zero, Nat.zero_add, Nat.reduceEqDiff, Nat.reduceLeDiff, Nat.reduceLT, Nat.reduceAdd, Bool.false_eq_true, and_self, and_false, false_and, true_and, and_true, not_true_eq_false, not_false_eq_true, e, lt, ct, on, Nat.add_assoc]
    · rw [if_neg on] at e
      simp (maxSteps := 500000) (disch := first | assumption | omega) only [f_X11_unitsOn_L9, q_l0, q_l1, q_l2, q_l3, q_l4, q_l5, q_l6, q_l7, q_l8, q_l9, q_l10, q_l11, q_l12, q_l13, q_l14, q_l15, q_l16, q_l20, q_l21, q_l22, q_l24, q_l25, q_l26, q_l27, q_l28, q_l29, q_l30, q_l31, q_l32, q_l40, q_l48, q_l57, q_l80, q_l97, q_l100, q_l120, q_l122, q_l126, q_l160, q_l200, q_l214, q_l255, q_l256, q_l374, q_l400, q_l999, q_l1000, q_l9999, q_l99, q_l99999, q_nm, q_gd, q_gd2, q_ix, q_lt, q_eq, q_m5a, q_m5b, q_m40b, q_m8a, q_m8b, q_m16b, q_m374b, q_m160b, q_m10a, q_div5, q_rem5, nI_add, q_moe, q_moe2, q_mol, q_mol2, q_mor, q_bd2, q_bd1, q_stI, q_oI0, if_true, if_false, ite_true, ite_false, ↓reduceIte, Nat.lt_irrefl, Nat.not_lt_zero, Nat.add_zero, Nat.zero_add, Nat.reduceEqDiff, Nat.reduceLeDiff, Nat.reduceLT, Nat.reduceAdd, Bool.false_eq_true, and_self, and_false, false_and, true_and, and_true, not_true_eq_false, not_false_eq_true, e, lt, ct, on, Nat.add_assoc]
theorem RP_par (hr : r < 2) (h1 : WL1 Λ) (hy : WLy Λ) (hk : k < yS Λ) (hu : u < yZ Λ k) (hp : u = yP Λ k) (h : RPi Λ r (5 * k + u) β) : RPi Λ r (5 * k + (u + 1)) (up2 (up2 β 7 (5 * (40 * r + k) + u) (nI (yH Λ (5 * k + u)))) 10 (5 * (40 * r + k) + u) mo) := by
  have h5 := h1.2.2.2.1 k hk
  have h40 := h1.2.1
  have q1 : (5 * k + u) / 5 = k := by omega
  have q2 : (5 * k + u) % 5 = u := by omega
  have hd : ¬ dat Λ (5 * k + u) := fun hh => by
    have := hh.2
    rw [q1, q2] at this
    exact this hp
  have e : ct (dat Λ) (5 * k + (u + 1)) = ct (dat Λ) (5 * k + u) := by
    show ct (dat Λ) (5 * k + u) + (if dat Λ (5 * k + u) then 1 else 0) = _
    rw [if_neg hd, Nat.add_zero]
  obtain ⟨a1, a2, a3, a4⟩ := h
  refine ⟨RPb_ag hr a1 h1 (fun c i hc => by rw [up_ne (by omega), up_ne (by omega)]), ?_, fun k2 u2 hk2 hu2 hlt => ?_, fun i hi => ?_⟩
  · rw [e, up_ne (by omega), up_ne (by omega)]; exact a2
  · have h52 := (h1.2.2.2.1 k2 hk2).2.1
    rw [up_ne (c2 := 7) (c := 10) (by omega)]
    by_cases e2 : 5 * k2 + u2 = 5 * k + u
    · have e3 : k2 = k := by omega
      have e4 : u2 = u := by omega
      subst e3
      subst e4
      rw [up_eq, up_eq, hy.2.1, if_neg hd]
      exact ⟨rfl, rfl⟩
    · rw [up_ne (by omega), up_ne (by omega), up_ne (by omega)]
      exact a3 k2 u2 hk2 hu2 (by omega)
  · rw [e] at hi
    rw [up_ne (by omega), up_ne (by omega)]
    exact a4 i hi
theorem RP_dat (hr : r < 2) (h1 : WL1 Λ) (hy : WLy Λ) (hk : k < yS Λ) (hu : u < yZ Λ k) (hp : ¬ u = yP Λ k) (h : RPi Λ r (5 * k + u) β) : RPi Λ r (5 * k + (u + 1)) (up2 (up2 (up2 (up2 (up2 β 7 (5 * (40 * r + k) + u) (nI (yH Λ (5 * k + u)))) 10 (5 * (40 * r + k) + u) mo) 10 (5 * (40 * r + k) + u) (nI (ct (dat Λ) (5 * k + u)))) 8 (160 * r + ct (dat Λ) (5 * k + u)) (nI (5 * (40 * r + k) + u))) 9 r (nI (ct (dat Λ) (5 * k + u) + 1))) := by
  have h5 := h1.2.2.2.1 k hk
  have h40 := h1.2.1
  have q1 : (5 * k + u) / 5 = k := by omega
  have q2 : (5 * k + u) % 5 = u := by omega
  have hv := vx_mk h1 hk hu
  have hd : dat Λ (5 * k + u) := ⟨hv, by rw [q1, q2]; exact hp⟩
  have e : ct (dat Λ) (5 * k + (u + 1)) = ct (dat Λ) (5 * k + u) + 1 := by
    show ct (dat Λ) (5 * k + u) + (if dat Λ (5 * k + u) then 1 else 0) = _
    rw [if_pos hd]
  obtain ⟨a1, a2, a3, a4⟩ := h
  refine ⟨RPb_ag hr a1 h1 (fun c i hc => by rw [up_ne (by omega), up_ne (by omega), up_ne (by omega), up_ne (by omega), up_ne (by omega)]), ?_, fun k2 u2 hk2 hu2 hlt => ?_, fun i hi => ?_⟩
  · rw [e, up_eq]
  · have h52 := (h1.2.2.2.1 k2 hk2).2.1
    rw [up_ne (c2 := 7) (by omega), up_ne (c2 := 7) (by omega), up_ne (c2 := 7) (by omega), up_ne (c2 := 7) (c := 10) (by omega), up_ne (c2 := 10) (c := 9) (by omega), up_ne (c2 := 10) (c := 8) (by omega)]
    by_cases e2 : 5 * k2 + u2 = 5 * k + u
    · have e3 : k2 = k := by omega
      have e4 : u2 = u := by omega
      subst e3
      subst e4
      rw [up_eq, up_eq, hy.2.1, if_pos hd]
      exact ⟨rfl, rfl⟩
    · rw [up_ne (by omega), up_ne (by omega), up_ne (by omega), up_ne (by omega)]
      exact a3 k2 u2 hk2 hu2 (by omega)
  · rw [e] at hi
    rw [up_ne (by omega)]
    by_cases hic : i = ct (dat Λ) (5 * k + u)
    · subst hic
      rw [up_eq, hy.2.2.1, nth_fs (p := dat Λ) (n := 5 * yS Λ) (x := 5 * k + u) (by omega) hd rfl]
      exact congrArg nI (by omega)
    · rw [up_ne (by omega), up_ne (by omega), up_ne (by omega), up_ne (by omega)]
      exact a4 i (by omega)
theorem r_L123 (hr : r < 2) (h1 : WL1 Λ) (hy : WLy Λ) (hk : k < yS Λ) {v2 : Int32} {K : Mm → Option Mm} (R : Option Mm → Prop) (hK : ∀ γ, RPi Λ r (5 * (k + 1)) γ → rF r β γ → R (K (pB 99 γ m))) (hB : RPi Λ r (5 * k) β) : R (f_X11_laysAll_L123 (nI r) v2 (nI k) (nI (40 * r + k)) K FU (nI 0) (pB 99 β m)) := by
  have h5 := h1.2.2.2.1 k hk
  have h40 := h1.2.1
  have h13 := h1.1
  refine lpI (fun j u γ => f_X11_laysAll_L123 (nI r) v2 (nI k) (nI (40 * r + k)) K j (nI u) (pB 99 γ m)) (fun u γ => RPi Λ r (5 * k + u) γ ∧ rF r β γ) (yZ Λ k) R (fun j γ hI => ?_) (fun j u γ hu hI => ?_) FU 0 β (by omega) (by show _ < 0 + 4096; omega) ⟨hB, rF_r⟩
  · have c1 := (hI.1.1.2.1 k hk).1
    have e : ct (dat Λ) (5 * (k + 1)) = ct (dat Λ) (5 * k + yZ Λ k) := by
      refine ct_ext (by omega) (fun i h2 h3 h4 => ?_)
      have q1 : i / 5 = k := by omega
      have := h4.1.2
      rw [q1] at this
      omega
    simp (maxSteps := 500000) (disch := first | assumption | omega) only [f_X11_laysAll_L123, q_l0, q_l1, q_l2, q_l3, q_l4, q_l5, q_l6, q_l7, q_l8, q_l9, q_l10, q_l11, q_l12, q_l13, q_l14, q_l15, q_l16, q_l20, q_l21, q_l22, q_l24, q_l25, q_l26, q_l27, q_l28, q_l29, q_l30, q_l31, q_l32, q_l40, q_l48, q_l57, q_l80, q_l97, q_l100, q_l120, q_l122, q_l126, q_l160, q_l200, q_l214, q_l255, q_l256, q_l374, q_l400, q_l999, q_l1000, q_l9999, q_l99, q_l99999, q_nm, q_gd, q_gd2, q_ix, q_lt, q_eq, q_m5a, q_m5b, q_m40b, q_m8a, q_m8b, q_m16b, q_m374b, q_m160b, q_m10a, q_div5, q_rem5, nI_add, q_moe, q_moe2, q_mol, q_mol2, q_mor, q_bd2, q_bd1, q_stI, q_oI0, if_true, if_false, ite_true, ite_false, ↓reduceIte, Nat.lt_irrefl, Nat.not_lt_zero, Nat.add_zero, Nat.zero_add, Nat.reduceEqDiff, Nat.reduceLeDiff, Nat.reduceLT, Nat.reduceAdd, Bool.false_eq_true, and_self, and_false, false_and, true_and, and_true, not_true_eq_false, not_false_eq_true, g9_99, s9_99, g9_100, s9_100, g9_101, s9_101, g9_102, s9_102, g9_103, s9_103, g9_104, s9_104, g9_105, s9_105, g9_106, s9_106, g9_107, s9_107, g9_108, s9_108, g9_109, s9_109, pB_o, up_ne, up_eq, c1]
    refine hK γ ⟨hI.1.1, by rw [e]; exact hI.1.2.1, fun k2 u2 hk2 hu2 hlt => hI.1.2.2.1 k2 u2 hk2 hu2 ?_, fun i hi => hI.1.2.2.2 i (by rw [e] at hi; exact hi)⟩ hI.2
    have h52 := (h1.2.2.2.1 k2 hk2).2.1
    by_cases e2 : k2 = k
    · subst e2; omega
    · omega
  · obtain ⟨hI, hF⟩ := hI
    have c1 := (hI.1.2.1 k hk).1
    have c3 := (hI.1.2.1 k hk).2.2
    have c6 := hI.1.2.2 k u hk hu
    have c9 := hI.2.1
    have hKd := h1.2.2.2.2 _ (vx_mk h1 hk hu)
    have eu := r_uCt (m := m) (n := k) (d := yK Λ (5 * k + u)) hr h1 hI.1 (by omega) (by omega)
    have eH : ct (fun j => onK Λ j (yK Λ (5 * k + u))) k = yH Λ (5 * k + u) := by
      rw [hy.2.2.2.1, show (5 * k + u) / 5 = k from by omega]
    rw [eH] at eu
    by_cases hp : u = yP Λ k
    · refine ⟨_, ⟨RP_par hr h1 hy hk hu hp hI, rF_u (by omega) (rF_u (by omega) hF)⟩, ?_⟩
      simp (maxSteps := 500000) (disch := first | assumption | omega) only [f_X11_laysAll_L123, q_l0, q_l1, q_l2, q_l3, q_l4, q_l5, q_l6, q_l7, q_l8, q_l9, q_l10, q_l11, q_l12, q_l13, q_l14, q_l15, q_l16, q_l20, q_l21, q_l22, q_l24, q_l25, q_l26, q_l27, q_l28, q_l29, q_l30, q_l31, q_l32, q_l40, q_l48, q_l57, q_l80, q_l97, q_l100, q_l120, q_l122, q_l126, q_l160, q_l200, q_l214, q_l255, q_l256, q_l374, q_l400, q_l999, q_l1000, q_l9999, q_l99, q_l99999, q_nm, q_gd, q_gd2, q_ix, q_lt, q_eq, q_m5a, q_m5b, q_m40b, q_m8a, q_m8b, q_m16b, q_m374b, q_m160b, q_m10a, q_div5, q_rem5, nI_add, q_moe, q_moe2, q_mol, q_mol2, q_mor, q_bd2, q_bd1, q_stI, q_oI0, if_true, if_false, ite_true, ite_false, ↓reduceIte, Nat.lt_irrefl, Nat.not_lt_zero, Nat.add_zero, Nat.zero_add, Nat.reduceEqDiff, Nat.reduceLeDiff, Nat.reduceLT, Nat.reduceAdd, Bool.false_eq_true, and_self, and_false, false_and, true_and, and_true, not_true_eq_false, not_false_eq_true, q_nm, g9_99, s9_99, g9_100, s9_100, g9_101, s9_101, g9_102, s9_102, g9_103, s9_103, g9_104, s9_104, g9_105, s9_105, g9_106, s9_106, g9_107, s9_107, g9_108, s9_108, g9_109, s9_109, pB_o, up_ne, up_eq, c1, c6, hu, eu, c3, ← hp]
    · have hd : dat Λ (5 * k + u) := ⟨vx_mk h1 hk hu, by rw [show (5 * k + u) / 5 = k from by omega, show (5 * k + u) % 5 = u from by omega]; exact hp⟩
      have hc := ct_X h1 hy hd
      refine ⟨_, ⟨RP_dat hr h1 hy hk hu hp hI, rF_u (by omega) (rF_u (by omega) (rF_u (by omega) (rF_u (by omega) (rF_u (by omega) hF))))⟩, ?_⟩
      simp (maxSteps := 500000) (disch := first | assumption | omega) only [f_X11_laysAll_L123, q_l0, q_l1, q_l2, q_l3, q_l4, q_l5, q_l6, q_l7, q_l8, q_l9, q_l10, q_l11, q_l12, q_l13, q_l14, q_l15, q_l16, q_l20, q_l21, q_l22, q_l24, q_l25, q_l26, q_l27, q_l28, q_l29, q_l30, q_l31, q_l32, q_l40, q_l48, q_l57, q_l80, q_l97, q_l100, q_l120, q_l122, q_l126, q_l160, q_l200, q_l214, q_l255, q_l256, q_l374, q_l400, q_l999, q_l1000, q_l9999, q_l99, q_l99999, q_nm, q_gd, q_gd2, q_ix, q_lt, q_eq, q_m5a, q_m5b, q_m40b, q_m8a, q_m8b, q_m16b, q_m374b, q_m160b, q_m10a, q_div5, q_rem5, nI_add, q_moe, q_moe2, q_mol, q_mol2, q_mor, q_bd2, q_bd1, q_stI, q_oI0, if_true, if_false, ite_true, ite_false, ↓reduceIte, Nat.lt_irrefl, Nat.not_lt_zero, Nat.add_zero, Nat.zero_add, Nat.reduceEqDiff, Nat.reduceLeDiff, Nat.reduceLT, Nat.reduceAdd, Bool.false_eq_true, and_self, and_false, false_and, true_and, and_true, not_true_eq_false, not_false_eq_true, q_nm, g9_99, s9_99, g9_100, s9_100, g9_101, s9_101, g9_102, s9_102, g9_103, s9_103, g9_104, s9_104, g9_105, s9_105, g9_106, s9_106, g9_107, s9_107, g9_108, s9_108, g9_109, s9_109, pB_o, up_ne, up_eq, c1, c6, hu, eu, c3, hp, c9]
theorem r_L102 (hr : r < 2) (h1 : WL1 Λ) (hy : WLy Λ) {v2 : Int32} (hB : RBn Λ r (yS Λ) β) : ∃ γ, f_X11_laysAll_L102 FU (nI r) v2 (nI 0) (pB 99 β m) = f_X11_laysAll_L259 FU (nI r) v2 (nI 0) (pB 99 γ m) ∧ RPi Λ r (5 * yS Λ) γ ∧ rF r β γ := by
  have h40 := h1.2.1
  refine lpI (fun j k γ => f_X11_laysAll_L102 j (nI r) v2 (nI k) (pB 99 γ m)) (fun k γ => RPi Λ r (5 * k) γ ∧ rF r β γ) (yS Λ) (fun o => ∃ γ, o = f_X11_laysAll_L259 FU (nI r) v2 (nI 0) (pB 99 γ m) ∧ RPi Λ r (5 * yS Λ) γ ∧ rF r β γ) (fun j γ hI => ?_) (fun j k γ hk hI => ?_) FU 0 β (by omega) (by show _ < 0 + 4096; omega) ⟨⟨⟨hB.1, hB.2.2.1, hB.2.2.2⟩, hB.2.1, fun k u _ _ h => absurd h (Nat.not_lt_zero _), fun i h => absurd h (Nat.not_lt_zero _)⟩, rF_r⟩
  · have c0 := hI.1.1.1
    refine ⟨γ, ?_, hI.1, hI.2⟩
    simp only [f_X11_laysAll_L102]
    rw [q_gd (by omega) (by omega), q_ix (by omega), g9_99, c0, if_neg (fun e => absurd ((q_ltp (by omega) (by omega)).mp e) (Nat.lt_irrefl _)), q_l0]
  · have c0 := hI.1.1.1
    have e2 := r_L123 (m := m) (v2 := v2) (K := fun m11 => f_X11_laysAll_L102 j (nI r) v2 (nI k + 1) m11) hr h1 hy hk (fun o => ∃ γ', (RPi Λ r (5 * (k + 1)) γ' ∧ rF r β γ') ∧ o = f_X11_laysAll_L102 j (nI r) v2 (nI (k + 1)) (pB 99 γ' m)) (fun γ' k1 k2 => ⟨γ', ⟨k1, rF_t hI.2 k2⟩, by rw [q_l1, nI_add]⟩) hI.1
    obtain ⟨s', e3, e4⟩ := e2
    refine ⟨s', e3, ?_⟩
    simp only [f_X11_laysAll_L102]
    rw [q_gd (by omega) (by omega), q_ix (by omega), g9_99, c0, if_pos ((q_ltp (by omega) (by omega)).mpr hk), q_l0, q_l40, q_m40b, nI_add]
    exact e4
end Ref3
