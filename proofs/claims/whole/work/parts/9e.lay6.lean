/-! MATH HALF: addStripe -/
section Lay6
variable {T Λ : Lv} {P : Pv} {nd a b k p u x n d i j A c c2 t : Nat} {q q2 : Nat → Nat} {β γ : Bv} {m m2 : Mm} {v : Int32}
theorem c_add (hA : A = 26 ∨ A = 40) (ht : t = 3 ∨ t = 10) (hC : ToC t T m) (hL : LawC t P m) (h : okT T P nd) (hi : isT T P nd Λ) (h1 : WL1 Λ) (h2 : WL2 Λ) (hy : WLy Λ) (hb : b < tB T) (hp : p < sN T nd b) (hB : BCn Λ (cS T nd b + p) β) : ∃ γ m2, f_X4_addStripe A t (nI b) (nI p) (pB A β m) = some (pB A γ m2) ∧ BCn Λ (cS T nd b + p + 1) γ ∧ lwS t m m2 := by
  have hn : cS T nd b + p < yS Λ := by rw [hi.2.1]; exact cS_lt hb hp
  obtain ⟨eZ, eB, eK, eP⟩ := hi.2.2 b p hb hp
  have eD := hi.1
  generalize cS T nd b + p = n at *
  have h6 := h.1.2.2.1
  have h5 := h1.2.2.2.1 n hn
  have h40 := h1.2.1
  have h13 := h1.1
  have ct2 := hC.2.2.2.2.1 b hb
  have b00 := hB.1
  have b01 := hB.2.1
  unfold f_X4_addStripe
  simp (maxSteps := 500000) (disch := first | assumption | omega) only [q_l0, q_l1, q_l2, q_l3, q_l4, q_l5, q_l6, q_l7, q_l8, q_l9, q_l10, q_l11, q_l12, q_l13, q_l14, q_l15, q_l16, q_l20, q_l21, q_l22, q_l24, q_l25, q_l26, q_l27, q_l28, q_l29, q_l30, q_l31, q_l32, q_l40, q_l48, q_l57, q_l80, q_l97, q_l100, q_l120, q_l122, q_l126, q_l160, q_l200, q_l214, q_l255, q_l256, q_l374, q_l400, q_l999, q_l1000, q_l9999, q_l99, q_l99999, q_nm, q_gd, q_gd2, q_ix, q_lt, q_eq, q_m5a, q_m5b, q_m40b, q_m8a, q_m8b, q_m16b, q_m374b, q_m160b, q_m10a, q_div5, q_rem5, nI_add, q_moe, q_moe2, q_mol, q_mol2, q_mor, q_bd2, q_bd1, q_stI, q_oI0, if_true, if_false, ite_true, ite_false, ↓reduceIte, Nat.lt_irrefl, Nat.not_lt_zero, Nat.add_zero, Nat.zero_add, Nat.reduceEqDiff, Nat.reduceLeDiff, Nat.reduceLT, Nat.reduceAdd, Bool.false_eq_true, and_self, and_false, false_and, true_and, and_true, not_true_eq_false, not_false_eq_true, pB_g, pB_g0, pB_s, pB_s0, up_ne, pB_o, b01, ct2]
  rw [← eZ]
  conv in (nI b : Int32) => skip
  generalize e0 : up2 (up2 (up2 (up2 β 0 1 (nI (n + 1))) 3 n (nI b)) 1 n (nI (yZ Λ n))) 6 n (nI 0) = β0
  have e0' : β0 = up2 (up2 (up2 (up2 β 0 1 (nI (n + 1))) 3 n (nI (yB Λ n))) 1 n (nI (yZ Λ n))) 6 n (nI 0) := by rw [← e0, eB]
  have f00 : β0 0 0 = nI nd := by rw [e0', up_ne (by omega), up_ne (by omega), up_ne (by omega), up_ne (by omega), b00, eD]
  have f1 : β0 1 n = nI (yZ Λ n) := by rw [e0', up_ne (by omega), up_eq]
  have f12 : ∀ d, d < 13 → β0 12 d = nI (ct (fun k => yK Λ (5 * k + yP Λ k) = d) n) := fun d hd => by
    rw [e0', up_ne (by omega), up_ne (by omega), up_ne (by omega), up_ne (by omega)]
    exact (hB.2.2.2.2.2 d hd).2.1
  have fN : NDi Λ (5 * n) β0 := by
    obtain ⟨a1, a2, a3⟩ := hB.2.2.1
    refine ⟨?_, fun x hx hx2 => ?_, fun i hi => ?_⟩
    · rw [e0', up_ne (by omega), up_ne (by omega), up_ne (by omega), up_ne (by omega)]; exact a1
    · rw [e0', up_ne (by omega), up_ne (by omega), up_ne (by omega), up_ne (by omega)]; exact a2 x hx hx2
    · rw [e0', up_ne (by omega), up_ne (by omega), up_ne (by omega), up_ne (by omega)]; exact a3 i hi
  have fI : L54i Λ n β0 0 β0 := by
    refine ⟨fun v hv => absurd hv (Nat.not_lt_zero _), fun d hd => ?_, ⟨0, by omega, ?_, fun d => ?_⟩, fun _ _ _ _ _ _ => rfl⟩
    · rw [e0', up_ne (by omega), up_ne (by omega), up_ne (by omega), up_ne (by omega)]
      exact (hB.2.2.2.2.2 d hd).1
    · rw [e0', up_eq]
    · rw [Nat.zero_testBit]
      constructor
      · intro h; exact absurd h (by decide)
      · rintro ⟨v, hv, _⟩; exact absurd hv (Nat.not_lt_zero _)
  refine lpI (fun j u γ => f_X4_addStripe_L54 A t j (nI b) (nI p) (nI n) (nI (5 * n)) (nI u) (pB A γ m)) (fun u γ => L54i Λ n β0 u γ) (yZ Λ n) (fun o => ∃ γ m2, o = some (pB A γ m2) ∧ BCn Λ (n + 1) γ ∧ lwS t m m2) (fun j γ hI => ?_) (fun j u γ hu hI => ?_) FU 0 β0 (by omega) (by show _ < 0 + 4096; omega) fI
  · have g1 : γ 1 n = nI (yZ Λ n) := (hI.2.2.2 1 n (by omega) (by omega) (by omega) (by omega)).trans f1
    have k0 := (hI.1 0 (by omega)).1
    rw [Nat.add_zero] at k0
    have kP := (hI.1 (yP Λ n) (by omega)).1
    have hP := h1.2.2.2.2 _ (vx_mk h1 hn h5.2.2.1)
    have g12 : γ 12 (yK Λ (5 * n + yP Λ n)) = nI (ct (fun k => yK Λ (5 * k + yP Λ k) = yK Λ (5 * n + yP Λ n)) n) := (hI.2.2.2 12 _ (by omega) (by omega) (by omega) (by omega)).trans (f12 _ (by omega))
    have hK0 := h1.2.2.2.2 _ (vx_mk h1 hn (u := 0) (by omega))
    rw [Nat.add_zero] at hK0
    obtain ⟨m3, l1, l2⟩ := hL (pB A γ m) (pB_o (m := m) (β := γ) (A := A) (b := t + 4) (i := 1) (by omega)) (fun i => pB_o (m := m) (β := γ) (A := A) (b := t + 5) (i := i) (by omega)) n (yZ Λ n) (yK Λ (5 * n)) b (by omega) h5.1 h5.2.1 (by omega) (by omega)
    have e5 : yK Λ (5 * n) = dIn T nd b p 0 := eK 0 (by omega)
    rw [show P n (yZ Λ n) (yK Λ (5 * n)) b = yP Λ n from by rw [e5, eZ, ← eP]] at l1
    have em : m3 = pB A γ (pB A (fun c i => m.1 (A + c) i) m3) := by
      rw [pB_pB]
      refine mm_ext (fun b i => ?_) rfl
      simp only [pB]
      by_cases hb : A ≤ b ∧ b ≤ A + 13
      · rw [if_pos hb]
        have := l2.2 b i (by omega) (by omega)
        rw [this]
        simp only [pB]
        rw [if_pos hb]
      · rw [if_neg hb]
    have lw : lwS t m (pB A (fun c i => m.1 (A + c) i) m3) := by
      refine ⟨l2.1, fun b i k1 k2 => ?_⟩
      simp only [pB]
      by_cases hb : A ≤ b ∧ b ≤ A + 13
      · rw [if_pos hb, show A + (b - A) = b from by omega]
      · rw [if_neg hb, l2.2 b i k1 k2]
        simp only [pB]
        rw [if_neg hb]
    rw [em] at l1
    generalize pB A (fun c i => m.1 (A + c) i) m3 = m4 at l1 lw
    have hc := ct_le (fun k => yK Λ (5 * k + yP Λ k) = yK Λ (5 * n + yP Λ n)) n
    have eN : NDi Λ (5 * n) (up2 (up2 γ 2 n (nI (yP Λ n))) 12 (yK Λ (5 * n + yP Λ n)) (nI (ct (fun k => yK Λ (5 * k + yP Λ k) = yK Λ (5 * n + yP Λ n)) n + 1))) := by
      obtain ⟨a1, a2, a3⟩ := fN
      refine ⟨?_, fun x hx hx2 => ?_, fun i hi => ?_⟩
      · rw [up_ne (by omega), up_ne (by omega), hI.2.2.2 0 2 (by omega) (by omega) (by omega) (by omega)]; exact a1
      · rw [up_ne (by omega), up_ne (by omega), hI.2.2.2 9 x (by omega) (by omega) (by omega) (by omega)]; exact a2 x hx hx2
      · rw [up_ne (by omega), up_ne (by omega), hI.2.2.2 10 i (by omega) (by omega) (by omega) (by omega)]; exact a3 i hi
    obtain ⟨ε, n1, n2, n3⟩ := c_num (A := A) (m := m4) (β := up2 (up2 γ 2 n (nI (yP Λ n))) 12 (yK Λ (5 * n + yP Λ n)) (nI (ct (fun k => yK Λ (5 * k + yP Λ k) = yK Λ (5 * n + yP Λ n)) n + 1))) h1 hy hn (by rw [up_ne (by omega), up_ne (by omega)]; exact g1) (by rw [up_ne (by omega), up_eq]) eN
    refine ⟨ε, m4, ?_, BC_next h1 h2 hy hn hB e0' hI rfl n2 n3, lw⟩
    have hPl := h5.2.2.1
    simp (maxSteps := 500000) (disch := first | assumption | omega) only [f_X4_addStripe_L54, q_l0, q_l1, q_l2, q_l3, q_l4, q_l5, q_l6, q_l7, q_l8, q_l9, q_l10, q_l11, q_l12, q_l13, q_l14, q_l15, q_l16, q_l20, q_l21, q_l22, q_l24, q_l25, q_l26, q_l27, q_l28, q_l29, q_l30, q_l31, q_l32, q_l40, q_l48, q_l57, q_l80, q_l97, q_l100, q_l120, q_l122, q_l126, q_l160, q_l200, q_l214, q_l255, q_l256, q_l374, q_l400, q_l999, q_l1000, q_l9999, q_l99, q_l99999, q_nm, q_gd, q_gd2, q_ix, q_lt, q_eq, q_m5a, q_m5b, q_m40b, q_m8a, q_m8b, q_m16b, q_m374b, q_m160b, q_m10a, q_div5, q_rem5, nI_add, q_moe, q_moe2, q_mol, q_mol2, q_mor, q_bd2, q_bd1, q_stI, q_oI0, if_true, if_false, ite_true, ite_false, ↓reduceIte, Nat.lt_irrefl, Nat.not_lt_zero, Nat.add_zero, Nat.zero_add, Nat.reduceEqDiff, Nat.reduceLeDiff, Nat.reduceLT, Nat.reduceAdd, Bool.false_eq_true, and_self, and_false, false_and, true_and, and_true, not_true_eq_false, not_false_eq_true, pB_g, pB_g0, pB_s, pB_s0, up_ne, up_eq, pB_o, g1, k0, l1, kP, g12, n1]
  · have g1 : γ 1 n = nI (yZ Λ n) := (hI.2.2.2 1 n (by omega) (by omega) (by omega) (by omega)).trans f1
    have g00 : γ 0 0 = nI nd := (hI.2.2.2 0 0 (by omega) (by omega) (by omega) (by omega)).trans f00
    obtain ⟨w, w1, w2, w3⟩ := hI.2.2.1
    obtain ⟨s1, s2, s3⟩ := L54_step h1 h2 hn hu w1 w3 hI
    refine ⟨_, s3, ?_⟩
    have hCp : ToC t T (pB A γ m) := by
      have hg : ∀ b i, b ≤ t + 3 → gI (pB A γ m) b i = gI m b i := fun b i hb => pB_o (by omega)
      unfold ToC
      simp (disch := omega) only [hg]
      exact hC
    have eD2 := c_diskIn hCp h hb hp (u := u) (by omega)
    rw [← eK u (by omega)] at eD2
    have hsh := q_shl (d := yK Λ (5 * n + u)) (by omega)
    have hc := ct_le (fun k => onK Λ k (yK Λ (5 * n + u))) n
    simp (maxSteps := 500000) (disch := first | assumption | omega) only [f_X4_addStripe_L54, q_l0, q_l1, q_l2, q_l3, q_l4, q_l5, q_l6, q_l7, q_l8, q_l9, q_l10, q_l11, q_l12, q_l13, q_l14, q_l15, q_l16, q_l20, q_l21, q_l22, q_l24, q_l25, q_l26, q_l27, q_l28, q_l29, q_l30, q_l31, q_l32, q_l40, q_l48, q_l57, q_l80, q_l97, q_l100, q_l120, q_l122, q_l126, q_l160, q_l200, q_l214, q_l255, q_l256, q_l374, q_l400, q_l999, q_l1000, q_l9999, q_l99, q_l99999, q_nm, q_gd, q_gd2, q_ix, q_lt, q_eq, q_m5a, q_m5b, q_m40b, q_m8a, q_m8b, q_m16b, q_m374b, q_m160b, q_m10a, q_div5, q_rem5, nI_add, q_moe, q_moe2, q_mol, q_mol2, q_mor, q_bd2, q_bd1, q_stI, q_oI0, if_true, if_false, ite_true, ite_false, ↓reduceIte, Nat.lt_irrefl, Nat.not_lt_zero, Nat.add_zero, Nat.zero_add, Nat.reduceEqDiff, Nat.reduceLeDiff, Nat.reduceLT, Nat.reduceAdd, Bool.false_eq_true, and_self, and_false, false_and, true_and, and_true, not_true_eq_false, not_false_eq_true, pB_g, pB_g0, pB_s, pB_s0, up_ne, up_eq, g1, g00, hu, eD2, s2, w2, hsh, q_or]
end Lay6
