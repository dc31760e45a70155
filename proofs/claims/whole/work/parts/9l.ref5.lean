/-! MATH HALF: the reference builds the layout -/
section Ref5
variable {T Λ Γ : Lv} {P : Pv} {nd a b k p u x n d i j c c2 r t w : Nat} {β γ δ : Bv} {m m2 m3 : Mm} {v : Int32}
theorem r_L259 (hr : r < 2) (h1 : WL1 Λ) (hy : WLy Λ) (hB : RPi Λ r (5 * yS Λ) β) : ∃ γ, f_X11_laysAll_L259 FU (nI r) (nI (yD Λ)) (nI 0) (pB 99 β m) = some (pB 99 γ m) ∧ RelRr r Λ (pB 99 γ m) ∧ rF r β γ := by
  have h40 := h1.2.1
  refine lpI (fun j k γ => f_X11_laysAll_L259 j (nI r) (nI (yD Λ)) (nI k) (pB 99 γ m)) (fun k γ => RSi Λ r k γ ∧ rF r β γ) (yS Λ) (fun o => ∃ γ, o = some (pB 99 γ m) ∧ RelRr r Λ (pB 99 γ m) ∧ rF r β γ) (fun j γ hI => ?_) (fun j k γ hk hI => ?_) FU 0 β (by omega) (by show _ < 0 + 4096; omega) ⟨⟨hB, fun j hj => absurd hj (Nat.not_lt_zero _)⟩, rF_r⟩
  · have c0 := hI.1.1.1.1
    refine ⟨γ, ?_, ?_, hI.2⟩
    · simp only [f_X11_laysAll_L259]
      rw [q_gd (by omega) (by omega), q_ix (by omega), g9_99, c0, if_neg (fun e => absurd ((q_ltp (by omega) (by omega)).mp e) (Nat.lt_irrefl _))]
    · obtain ⟨⟨⟨a0, a1, a2⟩, a3, a4, a5⟩, a6⟩ := hI.1
      have hx : ∀ x, vx Λ x → 5 * (40 * r + x / 5) + x % 5 = 200 * r + x ∧ 5 * (x / 5) + x % 5 = x ∧ x < 5 * yS Λ := fun x hx => by
        have := hx.1
        omega
      unfold RelRr
      simp only [g9_99, g9_100, g9_101, g9_102, g9_103, g9_104, g9_105, g9_106, g9_107, g9_108, g9_109]
      refine ⟨a0, by rw [hy.1]; exact a3, fun k hk => (a1 k hk).1, fun k hk => (a1 k hk).2.2, fun k hk => (a1 k hk).2.1, fun k hk => (a6 k hk).1, fun k hk => (a6 k hk).2, fun x hv => ?_, fun x hv => ?_, fun x hv => ?_, fun i hi => a5 i (by rw [← hy.1]; exact hi)⟩
      · obtain ⟨e1, e2, e3⟩ := hx x hv
        have := a2 (x / 5) (x % 5) hv.1 hv.2
        rw [e1, e2] at this
        exact this
      · obtain ⟨e1, e2, e3⟩ := hx x hv
        have := (a4 (x / 5) (x % 5) hv.1 hv.2 (by omega)).1
        rw [e1, e2] at this
        exact this
      · obtain ⟨e1, e2, e3⟩ := hx x hv
        have := (a4 (x / 5) (x % 5) hv.1 hv.2 (by omega)).2
        rw [e1, e2] at this
        exact this
  · have c0 := hI.1.1.1.1
    obtain ⟨γ2, e1, e2, e3⟩ := r_spare (m := m) hr h1 hy hk hI.1
    refine ⟨γ2, ⟨e2, rF_t hI.2 e3⟩, ?_⟩
    simp only [f_X11_laysAll_L259]
    rw [q_gd (by omega) (by omega), q_ix (by omega), g9_99, c0, if_pos ((q_ltp (by omega) (by omega)).mpr hk), e1, q_bd1, q_l1, nI_add]
/-- the reference builds the layout -/
theorem r_laysAll (hr : r < 2) (hR : ToR T m) (hL : LawR P m) (ok : okT T P nd) : ∃ γ m2, f_X11_laysAll (nI r) (nI nd) m = some (pB 99 γ m2) ∧ RelRr r (mkL2 T P nd) (pB 99 γ m2) ∧ rF r (fun c i => m.1 (99 + c) i) γ ∧ lwR m m2 := by
  have w0 := WL_0 ok
  have w1 := WL_1 w0
  have es := pB_self (A := 99) (m := m)
  have hi := is_T (T := T) (P := P) (nd := nd)
  have hB : RBn (mkL2 T P nd) r 0 (up2 (up2 (fun c i => m.1 (99 + c) i) 0 r (nI 0)) 9 r (nI 0)) := ⟨by rw [up_ne (by omega), up_eq], by rw [up_eq], fun k hk => absurd hk (Nat.not_lt_zero _), fun k u hk => absurd hk (Nat.not_lt_zero _)⟩
  have hF : rF r (fun c i => m.1 (99 + c) i) (up2 (up2 (fun c i => m.1 (99 + c) i) 0 r (nI 0)) 9 r (nI 0)) := rF_u (by omega) (rF_u (by omega) rF_r)
  obtain ⟨γ, m3, e1, e2, e3, e4⟩ := r_L16 hr hR hL ok hi w1 hB
  obtain ⟨δ, e5, e6, e7⟩ := r_L102 (m := m3) (v2 := nI nd) hr w1 WL_y e2
  obtain ⟨ε, e8, e9, e10⟩ := r_L259 (m := m3) hr w1 WL_y e6
  have eD : yD (mkY (mk0 T P nd)) = nd := hi.1
  rw [eD] at e8
  refine ⟨ε, m3, ?_, e9, rF_t hF (rF_t e3 (rF_t e7 e10)), e4⟩
  unfold f_X11_laysAll
  conv => lhs; rw [← es]
  rw [q_gd (by omega) (by omega), q_ix (by omega), q_stI, s9_99, q_gd (by omega) (by omega), q_stI, s9_108, q_l0, e1, e5, e8]
theorem r_sAll (hR : ToR T m) (hT : WTo T) (h2 : 0 < tB T → 2 ≤ nd) (h : nd ≤ 13) : f_X11_allStripes (nI 0) (nI nd) m = some (nI (cS T nd (tB T)), m) := by
  have h6 := hT.2.2.1
  have r80 := hR.2.1
  unfold f_X11_allStripes
  refine lp0 (fun j b => f_X11_allStripes_L8 j (nI 0) (nI nd) (nI (cS T nd b)) (nI b) m) (tB T) _ (fun j => ?_) (fun j b hb => ?_) (by omega)
  · have e3 : nI 3 * nI 0 + nI 1 = nI 1 := by decide
    have e6 : nI 6 * nI 0 = nI 0 := by decide
    simp (maxSteps := 500000) (disch := first | assumption | omega) only [f_X11_allStripes_L8, q_l0, q_l1, q_l2, q_l3, q_l4, q_l5, q_l6, q_l7, q_l8, q_l9, q_l10, q_l11, q_l12, q_l13, q_l14, q_l15, q_l16, q_l20, q_l21, q_l22, q_l24, q_l25, q_l26, q_l27, q_l28, q_l29, q_l30, q_l31, q_l32, q_l40, q_l48, q_l57, q_l80, q_l97, q_l100, q_l120, q_l122, q_l126, q_l160, q_l200, q_l214, q_l255, q_l256, q_l374, q_l400, q_l999, q_l1000, q_l9999, q_l99, q_l99999, q_nm, q_gd, q_gd2, q_ix, q_lt, q_eq, q_m5a, q_m5b, q_m40b, q_m8a, q_m8b, q_m16b, q_m374b, q_m160b, q_m10a, q_div5, q_rem5, nI_add, q_moe, q_moe2, q_mol, q_mol2, q_mor, q_bd2, q_bd1, q_stI, q_oI0, if_true, if_false, ite_true, ite_false, ↓reduceIte, Nat.lt_irrefl, Nat.not_lt_zero, Nat.add_zero, Nat.zero_add, Nat.reduceEqDiff, Nat.reduceLeDiff, Nat.reduceLT, Nat.reduceAdd, Bool.false_eq_true, and_self, and_false, false_and, true_and, and_true, not_true_eq_false, not_false_eq_true, e3, e6, r80]
  · have e3 : nI 3 * nI 0 + nI 1 = nI 1 := by decide
    have e6 : nI 6 * nI 0 = nI 0 := by decide
    have r81 := hR.2.2.2.1 b hb
    have h5 := hT.2.2.2.2.2.2.1 b hb
    have es := r_sOf (T := T) (b := b) (nd := nd) (m := m) (k := tK T b) (by omega) (by omega) rfl
    simp (maxSteps := 500000) (disch := first | assumption | omega) only [f_X11_allStripes_L8, q_l0, q_l1, q_l2, q_l3, q_l4, q_l5, q_l6, q_l7, q_l8, q_l9, q_l10, q_l11, q_l12, q_l13, q_l14, q_l15, q_l16, q_l20, q_l21, q_l22, q_l24, q_l25, q_l26, q_l27, q_l28, q_l29, q_l30, q_l31, q_l32, q_l40, q_l48, q_l57, q_l80, q_l97, q_l100, q_l120, q_l122, q_l126, q_l160, q_l200, q_l214, q_l255, q_l256, q_l374, q_l400, q_l999, q_l1000, q_l9999, q_l99, q_l99999, q_nm, q_gd, q_gd2, q_ix, q_lt, q_eq, q_m5a, q_m5b, q_m40b, q_m8a, q_m8b, q_m16b, q_m374b, q_m160b, q_m10a, q_div5, q_rem5, nI_add, q_moe, q_moe2, q_mol, q_mol2, q_mor, q_bd2, q_bd1, q_stI, q_oI0, if_true, if_false, ite_true, ite_false, ↓reduceIte, Nat.lt_irrefl, Nat.not_lt_zero, Nat.add_zero, Nat.zero_add, Nat.reduceEqDiff, Nat.reduceLeDiff, Nat.reduceLT, Nat.reduceAdd, Bool.false_eq_true, and_self, and_false, false_and, true_and, and_true, not_true_eq_false, not_false_eq_true, e3, e6, r80, hb, r81, es]
    rfl
end Ref5
