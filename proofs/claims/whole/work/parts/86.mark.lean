/-! MATH HALF: marks -/
/-- a state copied -/
def cyM (a p : Nat) (m : Mm) : Mm := (fun b j => if b = a ∧ (j = 1 ∨ j = 5 ∨ j = 7) then m.1 p j else if b = a + 1 ∧ j < 200 then m.1 (p + 1) j else if b = a + 2 ∧ j < 200 then m.1 (p + 2) j else if b = a + 3 ∧ j < 13 then m.1 (p + 3) j else if b = a + 4 ∧ j < 8 then m.1 (p + 4) j else m.1 b j, m.2)
section Mrk
variable {Λ T : Lv} {a b x k d o n i N K z c B t u w v p s q M W : Nat} {D vb ob : Nat → Nat} {S F : Sv} {m m2 m3 : Mm} {x1 x2 x3 st : Int32} {g vl : Nat → Int32}
theorem c_copy (h : a + 4 < p ∨ p + 4 < a) : f_X6_copy a p m = some (cyM a p m) := by
  have e200 : ix (200 : Int32) = 200 := by decide
  have e13 : ix (13 : Int32) = 13 := by decide
  have e8 : ix (8 : Int32) = 8 := by decide
  have e0 : ix (0 : Int32) = 0 := by decide
  unfold f_X6_copy stC stI
  rw [e200, e13, e8, e0]
  refine congrArg some (mm_ext (fun b j => ?_) rfl)
  have pa : p ≠ a := by omega
  simp only [cpI, sI, gI, va_cpy, cyM, Nat.zero_le, true_and, Nat.zero_add, Nat.sub_zero]
  by_cases b0 : b = a
  · subst b0
    have q1 : ¬ b = b + 1 := by omega
    have q2 : ¬ b = b + 2 := by omega
    have q3 : ¬ b = b + 3 := by omega
    have q4 : ¬ b = b + 4 := by omega
    have pn : ¬ p = b := by omega
    simp only [q1, q2, q3, q4, pn, if_false, ↓reduceIte, true_and, false_and, and_false]
    by_cases j7 : j = 7
    · subst j7; simp
    · by_cases j5 : j = 5
      · subst j5; simp
      · by_cases j1 : j = 1
        · subst j1; simp
        · simp [j7, j5, j1]
  · by_cases b1 : b = a + 1
    · subst b1
      have q2 : ¬ a + 1 = a + 2 := by omega
      have q3 : ¬ a + 1 = a + 3 := by omega
      have q4 : ¬ a + 1 = a + 4 := by omega
      have pn : ¬ p + 1 = a := by omega
      have qn : ¬ a + 1 = a := by omega
      simp only [q2, q3, q4, pn, qn, if_false, ↓reduceIte, true_and, false_and, and_false]
    · by_cases b2 : b = a + 2
      · subst b2
        have q1 : ¬ a + 2 = a + 1 := by omega
        have q3 : ¬ a + 2 = a + 3 := by omega
        have q4 : ¬ a + 2 = a + 4 := by omega
        have pn : ¬ p + 2 = a := by omega
        have pn1 : ¬ p + 2 = a + 1 := by omega
        have qn : ¬ a + 2 = a := by omega
        simp only [q1, q3, q4, pn, pn1, qn, if_false, ↓reduceIte, true_and, false_and, and_false]
      · by_cases b3 : b = a + 3
        · subst b3
          have q1 : ¬ a + 3 = a + 1 := by omega
          have q2 : ¬ a + 3 = a + 2 := by omega
          have q4 : ¬ a + 3 = a + 4 := by omega
          have pn : ¬ p + 3 = a := by omega
          have pn1 : ¬ p + 3 = a + 1 := by omega
          have pn2 : ¬ p + 3 = a + 2 := by omega
          have qn : ¬ a + 3 = a := by omega
          simp only [q1, q2, q4, pn, pn1, pn2, qn, if_false, ↓reduceIte, true_and, false_and, and_false]
        · by_cases b4 : b = a + 4
          · subst b4
            have q1 : ¬ a + 4 = a + 1 := by omega
            have q2 : ¬ a + 4 = a + 2 := by omega
            have q3 : ¬ a + 4 = a + 3 := by omega
            have pn : ¬ p + 4 = a := by omega
            have pn1 : ¬ p + 4 = a + 1 := by omega
            have pn2 : ¬ p + 4 = a + 2 := by omega
            have pn3 : ¬ p + 4 = a + 3 := by omega
            have qn : ¬ a + 4 = a := by omega
            simp only [q1, q2, q3, pn, pn1, pn2, pn3, qn, if_false, ↓reduceIte, true_and, false_and, and_false]
          · simp only [b0, b1, b2, b3, b4, if_false, ↓reduceIte, false_and]
/-- what is seen, copied in the reference -/
def lsM (f t : Nat) (m : Mm) : Mm := (fun b j => if b = 114 ∧ j = t then m.1 114 f else if (b = 115 ∨ b = 116) ∧ 8 * t ≤ j ∧ j < 8 * t + 8 then m.1 b (8 * f + (j - 8 * t)) else m.1 b j, m.2)
theorem r_laysSeen (hf : k ≤ 2) (ht : n ≤ 2) (hne : k ≠ n) (hB : ∀ i, i < 8 → isB (gI m 116 (8 * k + i)) = true) : f_X11_laysSeen (nI k) (nI n) m = some (lsM k n m) := by
  let L : Nat → Mm := fun u => (fun b j => if b = 114 ∧ j = n then m.1 114 k else if (b = 115 ∨ b = 116) ∧ 8 * n ≤ j ∧ j < 8 * n + u then m.1 b (8 * k + (j - 8 * n)) else m.1 b j, m.2)
  have e0 : sI m 114 n (gI m 114 k) = L 0 := by
    refine mm_ext (fun b j => ?_) rfl
    simp only [sI, gI, L]
    by_cases h : b = 114 ∧ j = n
    · rw [if_pos h, if_pos h]
    · rw [if_neg h, if_neg h, if_neg (by omega)]
  have hk2 : k < 3 := by omega
  have hn2 : n < 3 := by omega
  unfold f_X11_laysSeen
  simp (maxSteps := 500000) (disch := first | assumption | omega) only [q_l0, q_l1, q_l2, q_l3, q_l4, q_l5, q_l6, q_l7, q_l8, q_l9, q_l10, q_l11, q_l12, q_l13, q_l14, q_l15, q_l16, q_l20, q_l21, q_l22, q_l24, q_l25, q_l26, q_l27, q_l28, q_l29, q_l30, q_l31, q_l32, q_l40, q_l48, q_l57, q_l80, q_l97, q_l100, q_l120, q_l122, q_l126, q_l160, q_l200, q_l214, q_l255, q_l256, q_l374, q_l400, q_l999, q_l1000, q_l9999, q_l99, q_l99999, q_nm, q_gd, q_gd2, q_ix, q_lt, q_eq, q_m5a, q_m5b, q_m40b, q_m8a, q_m8b, q_m16b, q_m374b, q_m160b, q_m10a, q_div5, q_rem5, nI_add, q_moe, q_moe2, q_mol, q_mol2, q_mor, q_bd2, q_bd1, q_stI, q_oI0, if_true, if_false, ite_true, ite_false, ↓reduceIte, Nat.lt_irrefl, Nat.not_lt_zero, Nat.add_zero, Nat.zero_add, Nat.reduceEqDiff, Nat.reduceLeDiff, Nat.reduceLT, Nat.reduceAdd, Bool.false_eq_true, and_self, and_false, false_and, true_and, and_true, not_true_eq_false, not_false_eq_true, e0]
  refine lp0 (fun j u => f_X11_laysSeen_L14 j (nI k) (nI n) (nI u) (L u)) 8 _ (fun j => ?_) (fun j u hu => ?_) (by omega)
  · simp (maxSteps := 500000) (disch := first | assumption | omega) only [f_X11_laysSeen_L14, q_l0, q_l1, q_l2, q_l3, q_l4, q_l5, q_l6, q_l7, q_l8, q_l9, q_l10, q_l11, q_l12, q_l13, q_l14, q_l15, q_l16, q_l20, q_l21, q_l22, q_l24, q_l25, q_l26, q_l27, q_l28, q_l29, q_l30, q_l31, q_l32, q_l40, q_l48, q_l57, q_l80, q_l97, q_l100, q_l120, q_l122, q_l126, q_l160, q_l200, q_l214, q_l255, q_l256, q_l374, q_l400, q_l999, q_l1000, q_l9999, q_l99, q_l99999, q_nm, q_gd, q_gd2, q_ix, q_lt, q_eq, q_m5a, q_m5b, q_m40b, q_m8a, q_m8b, q_m16b, q_m374b, q_m160b, q_m10a, q_div5, q_rem5, nI_add, q_moe, q_moe2, q_mol, q_mol2, q_mor, q_bd2, q_bd1, q_stI, q_oI0, if_true, if_false, ite_true, ite_false, ↓reduceIte, Nat.lt_irrefl, Nat.not_lt_zero, Nat.add_zero, Nat.zero_add, Nat.reduceEqDiff, Nat.reduceLeDiff, Nat.reduceLT, Nat.reduceAdd, Bool.false_eq_true, and_self, and_false, false_and, true_and, and_true, not_true_eq_false, not_false_eq_true]
    rfl
  · have r1 : gI (L u) 115 (8 * k + u) = gI m 115 (8 * k + u) := by
      simp only [gI, L]
      rw [if_neg (by omega), if_neg (by omega)]
    have r2 : gI (sI (L u) 115 (8 * n + u) (gI m 115 (8 * k + u))) 116 (8 * k + u) = gI m 116 (8 * k + u) := by
      simp only [gI, sI, L]
      rw [if_neg (by omega), if_neg (by omega), if_neg (by omega)]
    have r3 : sI (sI (L u) 115 (8 * n + u) (gI m 115 (8 * k + u))) 116 (8 * n + u) (gI m 116 (8 * k + u)) = L (u + 1) := by
      refine mm_ext (fun b j => ?_) rfl
      simp only [sI, gI, L]
      by_cases h1 : b = 116 ∧ j = 8 * n + u
      · obtain ⟨rfl, rfl⟩ := h1
        rw [if_pos ⟨rfl, rfl⟩, if_neg (by omega), if_pos ⟨Or.inr rfl, by omega⟩, show 8 * n + u - 8 * n = u from by omega]
      · rw [if_neg h1]
        by_cases h2 : b = 115 ∧ j = 8 * n + u
        · obtain ⟨rfl, rfl⟩ := h2
          rw [if_pos ⟨rfl, rfl⟩, if_neg (by omega), if_pos ⟨Or.inl rfl, by omega⟩, show 8 * n + u - 8 * n = u from by omega]
        · rw [if_neg h2]
          by_cases h3 : b = 114 ∧ j = n
          · rw [if_pos h3, if_pos h3]
          · rw [if_neg h3, if_neg h3]
            by_cases h4 : (b = 115 ∨ b = 116) ∧ 8 * n ≤ j ∧ j < 8 * n + u
            · rw [if_pos h4, if_pos ⟨h4.1, by omega⟩]
            · rw [if_neg h4, if_neg (by omega)]
    have hb := hB u hu
    simp (maxSteps := 500000) (disch := first | assumption | omega) only [f_X11_laysSeen_L14, q_l0, q_l1, q_l2, q_l3, q_l4, q_l5, q_l6, q_l7, q_l8, q_l9, q_l10, q_l11, q_l12, q_l13, q_l14, q_l15, q_l16, q_l20, q_l21, q_l22, q_l24, q_l25, q_l26, q_l27, q_l28, q_l29, q_l30, q_l31, q_l32, q_l40, q_l48, q_l57, q_l80, q_l97, q_l100, q_l120, q_l122, q_l126, q_l160, q_l200, q_l214, q_l255, q_l256, q_l374, q_l400, q_l999, q_l1000, q_l9999, q_l99, q_l99999, q_nm, q_gd, q_gd2, q_ix, q_lt, q_eq, q_m5a, q_m5b, q_m40b, q_m8a, q_m8b, q_m16b, q_m374b, q_m160b, q_m10a, q_div5, q_rem5, nI_add, q_moe, q_moe2, q_mol, q_mol2, q_mor, q_bd2, q_bd1, q_stI, q_oI0, if_true, if_false, ite_true, ite_false, ↓reduceIte, Nat.lt_irrefl, Nat.not_lt_zero, Nat.add_zero, Nat.zero_add, Nat.reduceEqDiff, Nat.reduceLeDiff, Nat.reduceLT, Nat.reduceAdd, Bool.false_eq_true, and_self, and_false, false_and, true_and, and_true, not_true_eq_false, not_false_eq_true, hu, r1, r2, r3]
    rw [gd, if_pos hb]
end Mrk
