/-! MATH HALF: what losses would do -/
/-- a row laid anew -/
def wr (b : Nat) (g : Nat → Int32) (m : Mm) : Mm := (fun c i => if c = b then g i else m.1 c i, m.2)
/-- the cells on which what holds between the class and the reference rests -/
def ns (b i : Nat) : Prop := (b = 1 ∧ i = 1) ∨ b = 2 ∨ (3 ≤ b ∧ b ≤ 25 ∧ b ≠ 9 ∧ b ≠ 16 ∧ ¬ ((b = 7 ∨ b = 14) ∧ i = 3)) ∨ (26 ≤ b ∧ b ≤ 39) ∨ (54 ≤ b ∧ b ≤ 58) ∨ (65 ≤ b ∧ b ≤ 75) ∨ (b = 78 ∧ i = 1) ∨ b = 79 ∨ (b = 80 ∧ i < 3) ∨ ((b = 81 ∨ b = 82) ∧ i < 6) ∨ (b = 83 ∧ i < 30) ∨ ((b = 84 ∨ b = 85) ∧ i = 0) ∨ (b = 86 ∧ i < 1000) ∨ ((b = 99 ∨ b = 108) ∧ i = 0) ∨ (100 ≤ b ∧ b ≤ 104 ∧ i < 40) ∨ ((b = 105 ∨ b = 106 ∨ b = 109) ∧ i < 200) ∨ (b = 107 ∧ i < 160) ∨ (b = 110 ∧ i = 0) ∨ (111 ≤ b ∧ b ≤ 113 ∧ i < 40) ∨ (114 ≤ b ∧ b ≤ 117) ∨ b = 120 ∨ b = 121
def Sc (m m2 : Mm) : Prop := ∀ b i, ns b i → m2.1 b i = m.1 b i
def deC (Λ : Lv) (S : Sv) : Nat := ct (fun k => 1 < lostC Λ S k) (yS Λ)
section Brs
variable {Λ T : Lv} {a b x k d o n i N K z c B t u w v p s q : Nat} {S : Sv} {m m2 m3 : Mm} {x1 x2 x3 st : Int32} {g : Nat → Int32}
theorem Sc_rf : Sc m m := fun _ _ _ => rfl
theorem Sc_tr (h : Sc m m2) (h2 : Sc m2 m3) : Sc m m3 := fun b i hn => (h2 b i hn).trans (h b i hn)
theorem Sc_th : Sc m (th m) := fun b i hn => by
  show (if b = 78 ∧ i = 0 then nI 0 else m.1 b i) = _
  rw [if_neg]
  rintro ⟨rfl, rfl⟩
  unfold ns at hn
  omega
theorem Sc_wr (hb : b = 77 ∨ b = 118 ∨ b = 119 ∨ (122 ≤ b ∧ b ≤ 125)) : Sc m (wr b g m) := fun c i hn => by
  show (if c = b then g i else m.1 c i) = _
  rw [if_neg]
  rintro rfl
  unfold ns at hn
  omega
theorem wr_g (h : c ≠ b) : gI (wr b g m) c i = gI m c i := by simp [wr, gI, h]
theorem wr_s : gI (wr b g m) b i = g i := by simp [wr, gI]
theorem wr_wr {g2 : Nat → Int32} : wr b g2 (wr b g m) = wr b g2 m := by
  refine mm_ext (fun c j => ?_) rfl
  simp only [wr]
  by_cases h : c = b <;> simp [h]
theorem wr_self : wr b (m.1 b) m = m := by
  refine mm_ext (fun c j => ?_) rfl
  simp only [wr]
  by_cases h : c = b
  · subst h; simp
  · simp [h]
theorem wr_sI : sI (wr b g m) b i st = wr b (upd g i st) m := by
  refine mm_ext (fun c j => ?_) rfl
  simp only [wr, sI, upd]
  by_cases h : c = b
  · subst h; by_cases h2 : j = i <;> simp [h2]
  · simp [h]
theorem pS_wr (h : b < 54 ∨ 57 < b) : pS 54 S (wr b g m) = wr b g (pS 54 S m) := by
  refine mm_ext (fun c j => ?_) rfl
  simp only [wr, pS]
  by_cases h1 : c = b
  · subst h1
    have a1 : c ≠ 54 := by omega
    have a2 : c ≠ 54 + 1 := by omega
    have a3 : c ≠ 54 + 2 := by omega
    have a4 : c ≠ 54 + 3 := by omega
    simp only [a1, a2, a3, a4, if_true, if_false, ↓reduceIte]
  · simp only [h1, if_false, ↓reduceIte]
theorem pR_wr (h : b ≠ 117) : pR Λ S (wr b g m) = wr b g (pR Λ S m) := by
  refine mm_ext (fun c j => ?_) rfl
  simp only [wr, pR]
  by_cases h1 : c = b
  · subst h1
    simp [h]
  · simp [h1]
theorem RelC_wr (h : b < 26 ∨ 39 < b) (hC : RelC Λ m) : RelC Λ (wr b g m) := by
  unfold RelC
  simp (disch := omega) only [wr_g]
  exact hC
theorem RelR_wr (h : b = 77 ∨ 117 < b) (hC : RelR Λ m) : RelR Λ (wr b g m) := by
  unfold RelR
  simp (disch := omega) only [wr_g]
  exact hC
theorem Hq_wr (h : b = 77 ∨ 117 < b) (hq : Hq Λ S m) : Hq Λ S (wr b g m) := ⟨RelC_wr (by omega) hq.1, RelR_wr h hq.2.1, by rw [pS_wr (by omega), hq.2.2.1], by rw [pR_wr (by omega), hq.2.2.2]⟩
/-- 374 ints copied, the first n of them -/
def cpN (p0 a p2 b n : Nat) (m : Mm) : Mm := (fun c i => if c = p2 ∧ b ≤ i ∧ i < b + n then m.1 p0 (a + (i - b)) else m.1 c i, m.2)
theorem r_copies {p0 p2 : Nat} (hp : p0 ≠ p2) (h1 : a + 374 ≤ (lay p0).2) (h2 : b + 374 ≤ (lay p2).2) (h3 : (lay p0).2 < 10000) (h4 : (lay p2).2 < 10000) : f_X11_copies p0 p2 (nI a) (nI b) m = some (cpN p0 a p2 b 374 m) := by
  have z : m = cpN p0 a p2 b 0 m := by
    refine mm_ext (fun c i => ?_) rfl
    unfold cpN
    dsimp only
    rw [if_neg (by omega)]
  conv => lhs; rw [z]
  refine lp0 (fun j u => f_X11_copies_L3 p0 p2 j (nI a) (nI b) (nI u) (cpN p0 a p2 b u m)) 374 _ (fun j => ?_) (fun j u hu => ?_) (by omega)
  · simp (maxSteps := 500000) (disch := first | assumption | omega) only [f_X11_copies_L3, q_l0, q_l1, q_l2, q_l3, q_l4, q_l5, q_l6, q_l7, q_l8, q_l9, q_l10, q_l11, q_l12, q_l13, q_l14, q_l15, q_l16, q_l20, q_l21, q_l22, q_l24, q_l25, q_l26, q_l27, q_l28, q_l29, q_l30, q_l31, q_l32, q_l40, q_l48, q_l57, q_l80, q_l97, q_l100, q_l120, q_l122, q_l126, q_l160, q_l200, q_l214, q_l255, q_l256, q_l374, q_l400, q_l999, q_l1000, q_l9999, q_l99, q_l99999, q_nm, q_gd, q_gd2, q_ix, q_lt, q_eq, q_m5a, q_m5b, q_m40b, q_m8a, q_m8b, q_m16b, q_m374b, q_m160b, q_m10a, q_div5, q_rem5, nI_add, q_moe, q_moe2, q_mol, q_mol2, q_mor, q_bd2, q_bd1, q_stI, q_oI0, if_true, if_false, ite_true, ite_false, ↓reduceIte, Nat.lt_irrefl, Nat.not_lt_zero, Nat.add_zero, Nat.zero_add, Nat.reduceEqDiff, Nat.reduceLeDiff, Nat.reduceLT, Nat.reduceAdd, Bool.false_eq_true, and_self, and_false, false_and, true_and, and_true, not_true_eq_false, not_false_eq_true]
  · have e : sI (cpN p0 a p2 b u m) p2 (b + u) (gI (cpN p0 a p2 b u m) p0 (a + u)) = cpN p0 a p2 b (u + 1) m := by
      refine mm_ext (fun c i => ?_) rfl
      simp only [sI, cpN, gI]
      by_cases h5 : c = p2
      · subst h5
        by_cases h6 : i = b + u
        · subst h6
          have h7 : b + u - b = u := by omega
          have h8 : b ≤ b + u ∧ b + u < b + (u + 1) := by omega
          have h9 : ¬ (p0 = c ∧ b ≤ a + u ∧ a + u < b + u) := fun h => hp h.1
          rw [if_pos ⟨rfl, rfl⟩, if_neg h9, if_pos ⟨rfl, h8⟩, h7]
        · rw [if_neg (fun h => h6 h.2)]
          by_cases h7 : b ≤ i ∧ i < b + u
          · rw [if_pos ⟨rfl, h7⟩, if_pos ⟨rfl, by omega⟩]
          · rw [if_neg (fun h => h7 h.2), if_neg (fun h => h7 (by omega))]
      · rw [if_neg (fun h => h5 h.1), if_neg (fun h => h5 h.1), if_neg (fun h => h5 h.1)]
    simp (maxSteps := 500000) (disch := first | assumption | omega) only [f_X11_copies_L3, q_l0, q_l1, q_l2, q_l3, q_l4, q_l5, q_l6, q_l7, q_l8, q_l9, q_l10, q_l11, q_l12, q_l13, q_l14, q_l15, q_l16, q_l20, q_l21, q_l22, q_l24, q_l25, q_l26, q_l27, q_l28, q_l29, q_l30, q_l31, q_l32, q_l40, q_l48, q_l57, q_l80, q_l97, q_l100, q_l120, q_l122, q_l126, q_l160, q_l200, q_l214, q_l255, q_l256, q_l374, q_l400, q_l999, q_l1000, q_l9999, q_l99, q_l99999, q_nm, q_gd, q_gd2, q_ix, q_lt, q_eq, q_m5a, q_m5b, q_m40b, q_m8a, q_m8b, q_m16b, q_m374b, q_m160b, q_m10a, q_div5, q_rem5, nI_add, q_moe, q_moe2, q_mol, q_mol2, q_mor, q_bd2, q_bd1, q_stI, q_oI0, if_true, if_false, ite_true, ite_false, ↓reduceIte, Nat.lt_irrefl, Nat.not_lt_zero, Nat.add_zero, Nat.zero_add, Nat.reduceEqDiff, Nat.reduceLeDiff, Nat.reduceLT, Nat.reduceAdd, Bool.false_eq_true, and_self, and_false, false_and, true_and, and_true, not_true_eq_false, not_false_eq_true, hu, e]
theorem r_deadOnes (hR : RelR Λ m) (hW : WL1 Λ) : f_X11_deadOnes (pR Λ S m) = some (nI (deC Λ S), pR Λ S m) := by
  have hR2 := hR
  obtain ⟨r80, r99, r108, r100, r102, r101, r103, r104, r105, r106, r109, r107⟩ := hR2
  have h3 := hW.2.1
  refine lp0 (fun j k => f_X11_deadOnes_L4 j (nI (ct (fun k => 1 < lostC Λ S k) k)) (nI k) (pR Λ S m)) (yS Λ) _ (fun j => ?_) (fun j k hk => ?_) (by omega)
  · simp (maxSteps := 500000) (disch := first | assumption | omega) only [f_X11_deadOnes_L4, q_l0, q_l1, q_l2, q_l3, q_l4, q_l5, q_l6, q_l7, q_l8, q_l9, q_l10, q_l11, q_l12, q_l13, q_l14, q_l15, q_l16, q_l20, q_l21, q_l22, q_l24, q_l25, q_l26, q_l27, q_l28, q_l29, q_l30, q_l31, q_l32, q_l40, q_l48, q_l57, q_l80, q_l97, q_l100, q_l120, q_l122, q_l126, q_l160, q_l200, q_l214, q_l255, q_l256, q_l374, q_l400, q_l999, q_l1000, q_l9999, q_l99, q_l99999, q_nm, q_gd, q_gd2, q_ix, q_lt, q_eq, q_m5a, q_m5b, q_m40b, q_m8a, q_m8b, q_m16b, q_m374b, q_m160b, q_m10a, q_div5, q_rem5, nI_add, q_moe, q_moe2, q_mol, q_mol2, q_mor, q_bd2, q_bd1, q_stI, q_oI0, if_true, if_false, ite_true, ite_false, ↓reduceIte, Nat.lt_irrefl, Nat.not_lt_zero, Nat.add_zero, Nat.zero_add, Nat.reduceEqDiff, Nat.reduceLeDiff, Nat.reduceLT, Nat.reduceAdd, Bool.false_eq_true, and_self, and_false, false_and, true_and, and_true, not_true_eq_false, not_false_eq_true, pR_oth, r99]
    rfl
  · have hc := ct_le (fun k => 1 < lostC Λ S k) k
    by_cases p : 1 < lostC Λ S k
    · simp (maxSteps := 500000) (disch := first | assumption | omega) only [f_X11_deadOnes_L4, q_l0, q_l1, q_l2, q_l3, q_l4, q_l5, q_l6, q_l7, q_l8, q_l9, q_l10, q_l11, q_l12, q_l13, q_l14, q_l15, q_l16, q_l20, q_l21, q_l22, q_l24, q_l25, q_l26, q_l27, q_l28, q_l29, q_l30, q_l31, q_l32, q_l40, q_l48, q_l57, q_l80, q_l97, q_l100, q_l120, q_l122, q_l126, q_l160, q_l200, q_l214, q_l255, q_l256, q_l374, q_l400, q_l999, q_l1000, q_l9999, q_l99, q_l99999, q_nm, q_gd, q_gd2, q_ix, q_lt, q_eq, q_m5a, q_m5b, q_m40b, q_m8a, q_m8b, q_m16b, q_m374b, q_m160b, q_m10a, q_div5, q_rem5, nI_add, q_moe, q_moe2, q_mol, q_mol2, q_mor, q_bd2, q_bd1, q_stI, q_oI0, if_true, if_false, ite_true, ite_false, ↓reduceIte, Nat.lt_irrefl, Nat.not_lt_zero, Nat.add_zero, Nat.zero_add, Nat.reduceEqDiff, Nat.reduceLeDiff, Nat.reduceLT, Nat.reduceAdd, Bool.false_eq_true, and_self, and_false, false_and, true_and, and_true, not_true_eq_false, not_false_eq_true, pR_oth, r99, hk, r_isDead hR hW hk, p, ct]
    · simp (maxSteps := 500000) (disch := first | assumption | omega) only [f_X11_deadOnes_L4, q_l0, q_l1, q_l2, q_l3, q_l4, q_l5, q_l6, q_l7, q_l8, q_l9, q_l10, q_l11, q_l12, q_l13, q_l14, q_l15, q_l16, q_l20, q_l21, q_l22, q_l24, q_l25, q_l26, q_l27, q_l28, q_l29, q_l30, q_l31, q_l32, q_l40, q_l48, q_l57, q_l80, q_l97, q_l100, q_l120, q_l122, q_l126, q_l160, q_l200, q_l214, q_l255, q_l256, q_l374, q_l400, q_l999, q_l1000, q_l9999, q_l99, q_l99999, q_nm, q_gd, q_gd2, q_ix, q_lt, q_eq, q_m5a, q_m5b, q_m40b, q_m8a, q_m8b, q_m16b, q_m374b, q_m160b, q_m10a, q_div5, q_rem5, nI_add, q_moe, q_moe2, q_mol, q_mol2, q_mor, q_bd2, q_bd1, q_stI, q_oI0, if_true, if_false, ite_true, ite_false, ↓reduceIte, Nat.lt_irrefl, Nat.not_lt_zero, Nat.add_zero, Nat.zero_add, Nat.reduceEqDiff, Nat.reduceLeDiff, Nat.reduceLT, Nat.reduceAdd, Bool.false_eq_true, and_self, and_false, false_and, true_and, and_true, not_true_eq_false, not_false_eq_true, pR_oth, r99, hk, r_isDead hR hW hk, p, ct]
theorem c_deadStripes (ha : 54 ≤ a) (hC : RelC Λ m) (hW : WL1 Λ) : f_X6_deadStripes a (pS a S m) = some (nI (deC Λ S), pS a S m) := by
  have c1 := hC.2.1
  have h3 := hW.2.1
  refine lp0 (fun j k => f_X6_deadStripes_L4 a j (nI (ct (fun k => 1 < lostC Λ S k) k)) (nI k) (pS a S m)) (yS Λ) _ (fun j => ?_) (fun j k hk => ?_) (by omega)
  · simp (maxSteps := 500000) (disch := first | assumption | omega) only [f_X6_deadStripes_L4, q_l0, q_l1, q_l2, q_l3, q_l4, q_l5, q_l6, q_l7, q_l8, q_l9, q_l10, q_l11, q_l12, q_l13, q_l14, q_l15, q_l16, q_l20, q_l21, q_l22, q_l24, q_l25, q_l26, q_l27, q_l28, q_l29, q_l30, q_l31, q_l32, q_l40, q_l48, q_l57, q_l80, q_l97, q_l100, q_l120, q_l122, q_l126, q_l160, q_l200, q_l214, q_l255, q_l256, q_l374, q_l400, q_l999, q_l1000, q_l9999, q_l99, q_l99999, q_nm, q_gd, q_gd2, q_ix, q_lt, q_eq, q_m5a, q_m5b, q_m40b, q_m8a, q_m8b, q_m16b, q_m374b, q_m160b, q_m10a, q_div5, q_rem5, nI_add, q_moe, q_moe2, q_mol, q_mol2, q_mor, q_bd2, q_bd1, q_stI, q_oI0, if_true, if_false, ite_true, ite_false, ↓reduceIte, Nat.lt_irrefl, Nat.not_lt_zero, Nat.add_zero, Nat.zero_add, Nat.reduceEqDiff, Nat.reduceLeDiff, Nat.reduceLT, Nat.reduceAdd, Bool.false_eq_true, and_self, and_false, false_and, true_and, and_true, not_true_eq_false, not_false_eq_true, pS_low, c1]
    rfl
  · have hc := ct_le (fun k => 1 < lostC Λ S k) k
    by_cases p : 1 < lostC Λ S k
    · simp (maxSteps := 500000) (disch := first | assumption | omega) only [f_X6_deadStripes_L4, q_l0, q_l1, q_l2, q_l3, q_l4, q_l5, q_l6, q_l7, q_l8, q_l9, q_l10, q_l11, q_l12, q_l13, q_l14, q_l15, q_l16, q_l20, q_l21, q_l22, q_l24, q_l25, q_l26, q_l27, q_l28, q_l29, q_l30, q_l31, q_l32, q_l40, q_l48, q_l57, q_l80, q_l97, q_l100, q_l120, q_l122, q_l126, q_l160, q_l200, q_l214, q_l255, q_l256, q_l374, q_l400, q_l999, q_l1000, q_l9999, q_l99, q_l99999, q_nm, q_gd, q_gd2, q_ix, q_lt, q_eq, q_m5a, q_m5b, q_m40b, q_m8a, q_m8b, q_m16b, q_m374b, q_m160b, q_m10a, q_div5, q_rem5, nI_add, q_moe, q_moe2, q_mol, q_mol2, q_mor, q_bd2, q_bd1, q_stI, q_oI0, if_true, if_false, ite_true, ite_false, ↓reduceIte, Nat.lt_irrefl, Nat.not_lt_zero, Nat.add_zero, Nat.zero_add, Nat.reduceEqDiff, Nat.reduceLeDiff, Nat.reduceLT, Nat.reduceAdd, Bool.false_eq_true, and_self, and_false, false_and, true_and, and_true, not_true_eq_false, not_false_eq_true, pS_low, c1, hk, c_isDead ha hC hW hk, p, ct]
    · simp (maxSteps := 500000) (disch := first | assumption | omega) only [f_X6_deadStripes_L4, q_l0, q_l1, q_l2, q_l3, q_l4, q_l5, q_l6, q_l7, q_l8, q_l9, q_l10, q_l11, q_l12, q_l13, q_l14, q_l15, q_l16, q_l20, q_l21, q_l22, q_l24, q_l25, q_l26, q_l27, q_l28, q_l29, q_l30, q_l31, q_l32, q_l40, q_l48, q_l57, q_l80, q_l97, q_l100, q_l120, q_l122, q_l126, q_l160, q_l200, q_l214, q_l255, q_l256, q_l374, q_l400, q_l999, q_l1000, q_l9999, q_l99, q_l99999, q_nm, q_gd, q_gd2, q_ix, q_lt, q_eq, q_m5a, q_m5b, q_m40b, q_m8a, q_m8b, q_m16b, q_m374b, q_m160b, q_m10a, q_div5, q_rem5, nI_add, q_moe, q_moe2, q_mol, q_mol2, q_mor, q_bd2, q_bd1, q_stI, q_oI0, if_true, if_false, ite_true, ite_false, ↓reduceIte, Nat.lt_irrefl, Nat.not_lt_zero, Nat.add_zero, Nat.zero_add, Nat.reduceEqDiff, Nat.reduceLeDiff, Nat.reduceLT, Nat.reduceAdd, Bool.false_eq_true, and_self, and_false, false_and, true_and, and_true, not_true_eq_false, not_false_eq_true, pS_low, c1, hk, c_isDead ha hC hW hk, p, ct]
/-- the row laid aside -/
def asd (m : Mm) : Nat → Int32 := fun i => if i < 374 then m.1 117 i else m.1 119 i
theorem cp_asd : cpN 117 0 119 0 374 m = wr 119 (asd m) m := by
  refine mm_ext (fun c i => ?_) rfl
  simp only [cpN, wr, asd]
  by_cases h : c = 119
  · subst h
    by_cases h2 : i < 374
    · simp [h2]
    · have : ¬ i < 0 + 374 := by omega
      simp [h2]
  · simp [h]
theorem cp_back (h : pR Λ S m = m) (hX : yX Λ ≤ 160) {S2 : Sv} : cpN 119 0 117 0 374 (pR Λ S2 (wr 119 (asd m) m)) = wr 119 (asd m) m := by
  refine mm_ext (fun c i => ?_) rfl
  by_cases h1 : c = 117
  · subst h1
    by_cases h2 : i < 374
    · have h3 : (117 : Nat) = 117 ∧ 0 ≤ i ∧ i < 0 + 374 := ⟨rfl, by omega, by omega⟩
      simp only [cpN, h3, if_true, ↓reduceIte, and_self]
      simp [pR, wr, asd, h2]
    · have h3 : ¬ (i < 0 + 374) := by omega
      have a1 : ¬ i = 0 := by omega
      have a2 : ¬ i < 14 := by omega
      have a3 : ¬ i < 214 := by omega
      have a4 : ¬ i < 214 + yX Λ := by omega
      simp [cpN, pR, wr, a1, a2, a3, a4, h2]
  · simp [cpN, pR, wr, h1]
theorem ct_imp_le {p q : Nat → Prop} [DecidablePred p] [DecidablePred q] : ∀ {n : Nat}, (∀ i, i < n → p i → q i) → ct p n ≤ ct q n
  | 0, _ => Nat.le_refl _
  | n + 1, h => by
    have ih := ct_imp_le (n := n) (fun i hi => h i (by omega))
    unfold ct
    by_cases hp : p n
    · rw [if_pos hp, if_pos (h n (by omega) hp)]; omega
    · rw [if_neg hp]; split <;> omega
theorem ct_imp_lt {p q : Nat → Prop} [DecidablePred p] [DecidablePred q] : ∀ {n : Nat}, (∀ i, i < n → p i → q i) → (ct p n < ct q n ↔ ∃ i, i < n ∧ q i ∧ ¬ p i)
  | 0, _ => by
    constructor
    · intro h; exact absurd h (by unfold ct; omega)
    · rintro ⟨i, h1, _⟩; omega
  | n + 1, h => by
    have ih := ct_imp_lt (n := n) (fun i hi => h i (by omega))
    have hle := ct_imp_le (n := n) (p := p) (q := q) (fun i hi => h i (by omega))
    unfold ct
    by_cases hp : p n
    · rw [if_pos hp, if_pos (h n (by omega) hp)]
      constructor
      · intro h1
        obtain ⟨i, h2, h3⟩ := ih.mp (by omega)
        exact ⟨i, by omega, h3⟩
      · rintro ⟨i, h2, h3, h4⟩
        have : i ≠ n := fun e => h4 (e ▸ hp)
        have := ih.mpr ⟨i, by omega, h3, h4⟩
        omega
    · rw [if_neg hp]
      by_cases hq : q n
      · rw [if_pos hq]
        exact ⟨fun _ => ⟨n, by omega, hq, hp⟩, fun _ => by omega⟩
      · rw [if_neg hq]
        constructor
        · intro h1
          obtain ⟨i, h2, h3⟩ := ih.mp (by omega)
          exact ⟨i, by omega, h3⟩
        · rintro ⟨i, h2, h3, h4⟩
          have : i ≠ n := fun e => hq (e ▸ h3)
          have := ih.mpr ⟨i, by omega, h3, h4⟩
          omega
theorem ct_or {p q : Nat → Prop} [DecidablePred p] [DecidablePred q] : ∀ {n : Nat}, (∀ i, i < n → ¬ (p i ∧ q i)) → ct (fun i => p i ∨ q i) n = ct p n + ct q n
  | 0, _ => rfl
  | n + 1, h => by
    have ih := ct_or (n := n) (fun i hi => h i (by omega))
    have h1 := h n (by omega)
    unfold ct
    rw [ih]
    by_cases hp : p n
    · have hq : ¬ q n := fun hq => h1 ⟨hp, hq⟩
      rw [if_pos (Or.inl hp), if_pos hp, if_neg hq]; omega
    · by_cases hq : q n
      · rw [if_pos (Or.inr hq), if_neg hp, if_pos hq]; omega
      · rw [if_neg (fun h => h.elim hp hq), if_neg hp, if_neg hq]; omega
/-- a disk's loss, unit by unit -/
theorem ls_wh (hx : vx Λ x) : (lsS Λ S d).2.1 x = if dnow Λ S x = nI d then nI 2 else S.2.1 x := by
  have h1 := hx.1
  unfold lsS lsW
  dsimp only
  by_cases h : dnow Λ S x = nI d
  · rw [if_pos ⟨by omega, hx, h⟩, if_pos h]
  · rw [if_neg (fun h2 => h h2.2.2), if_neg h]
theorem ls_dn (hx : vx Λ x) : dnow Λ (lsS Λ S d) x = if dnow Λ S x = nI d then mo else dnow Λ S x := by
  have e := ls_wh (S := S) (d := d) hx
  by_cases h : dnow Λ S x = nI d
  · rw [if_pos h] at e ⊢
    unfold dnow
    rw [e, if_pos rfl]
  · rw [if_neg h] at e ⊢
    unfold dnow
    rw [e]
theorem ls_lost (hW : WL1 Λ) (hS : WS Λ S) (hk : k < yS Λ) (hd : d < 100) : lostC Λ (lsS Λ S d) k = lostC Λ S k + ct (fun u => dnow Λ S (5 * k + u) = nI d) (yZ Λ k) := by
  have h4 := hW.1
  unfold lostC
  rw [← ct_or (fun u hu h => by
    have e := h.2
    unfold dnow at e
    rw [if_pos h.1, q_moe2 (by omega)] at e
    exact e)]
  refine ct_congr (fun u hu => ?_)
  rw [ls_wh (vx_mk hW hk hu)]
  by_cases h : dnow Λ S (5 * k + u) = nI d
  · rw [if_pos h]
    exact ⟨fun _ => Or.inr h, fun _ => rfl⟩
  · rw [if_neg h]
    exact ⟨fun h1 => Or.inl h1, fun h1 => h1.resolve_right h⟩
theorem bit_ct (hW : WL1 Λ) (hW2 : WL2 Λ) (hS : WS Λ S) (hA : WA Λ S) (hk : k < yS Λ) (hd : d < yD Λ) : ct (fun u => dnow Λ S (5 * k + u) = nI d) (yZ Λ k) = if (dnB Λ S k (yZ Λ k)).testBit d = true then 1 else 0 := by
  have h4 := hW.1
  refine ct_bool (ct_inj (fun u v hu hv p1 p2 => dn_inj hW hW2 hS hA hk hu hv (by omega) p1 p2)) ?_
  rw [dnB_bit hW hS hk _ (Nat.le_refl _) d]
  exact ⟨fun ⟨u, h1, h2, _⟩ => ⟨u, h1, h2⟩, fun ⟨u, h1, h2⟩ => ⟨u, h1, h2, hd⟩⟩
theorem pc_one (M d : Nat) (hd : d < 13) : pc (M &&& 2 ^ d) = if M.testBit d = true then 1 else 0 := by
  unfold pc
  refine ct_bool (ct_inj (fun u v hu hv p1 p2 => ?_)) ?_
  · rw [Nat.testBit_and, Nat.testBit_two_pow, Bool.and_eq_true, decide_eq_true_eq] at p1 p2
    omega
  · constructor
    · intro h
      exact ⟨d, hd, by rw [Nat.testBit_and, Nat.testBit_two_pow, h]; simp⟩
    · rintro ⟨u, hu, h⟩
      rw [Nat.testBit_and, Nat.testBit_two_pow, Bool.and_eq_true, decide_eq_true_eq] at h
      rw [h.2]; exact h.1
theorem pc_two (M d o : Nat) (hd : d < 13) (ho : o < 13) (hne : d ≠ o) : pc (M &&& (2 ^ d ||| 2 ^ o)) = pc (M &&& 2 ^ d) + pc (M &&& 2 ^ o) := by
  unfold pc
  rw [← ct_or (fun i hi h => by
    have h1 := h.1
    have h2 := h.2
    rw [Nat.testBit_and, Nat.testBit_two_pow, Bool.and_eq_true, decide_eq_true_eq] at h1 h2
    omega)]
  refine ct_congr (fun i hi => ?_)
  rw [Nat.testBit_and, Nat.testBit_or, Nat.testBit_and, Nat.testBit_and]
  cases M.testBit i <;> simp
theorem r_deadBy1 (h : Hq Λ S m) (hW : WL1 Λ) (hS : WS Λ S) (hd : d < yD Λ) : f_X11_deadBy (nI d) mo m = some (nI (deC Λ (lsS Λ S d)), wr 119 (asd m) m) := by
  have hR := RelR_wr (b := 119) (g := asd m) (by omega) h.2.1
  have e1 := r_copies (m := m) (p0 := 117) (p2 := 119) (a := 0) (b := 0) (by decide) (by decide) (by decide) (by decide) (by decide)
  rw [cp_asd] at e1
  have e2 := r_losesDisk (S := S) hR hW hS hd
  have hp : pR Λ S (wr 119 (asd m) m) = wr 119 (asd m) m := by rw [pR_wr (by decide), h.2.2.2]
  rw [hp] at e2
  have e3 := r_deadOnes (S := lsS Λ S d) hR hW
  have e4 := r_copies (m := pR Λ (lsS Λ S d) (wr 119 (asd m) m)) (p0 := 119) (p2 := 117) (a := 0) (b := 0) (by decide) (by decide) (by decide) (by decide) (by decide)
  rw [cp_back h.2.2.2 hW.2.2.1] at e4
  unfold f_X11_deadBy f_X11_deadBy_J29
  simp (maxSteps := 500000) (disch := first | assumption | omega) only [q_l0, q_l1, q_l2, q_l3, q_l4, q_l5, q_l6, q_l7, q_l8, q_l9, q_l10, q_l11, q_l12, q_l13, q_l14, q_l15, q_l16, q_l20, q_l21, q_l22, q_l24, q_l25, q_l26, q_l27, q_l28, q_l29, q_l30, q_l31, q_l32, q_l40, q_l48, q_l57, q_l80, q_l97, q_l100, q_l120, q_l122, q_l126, q_l160, q_l200, q_l214, q_l255, q_l256, q_l374, q_l400, q_l999, q_l1000, q_l9999, q_l99, q_l99999, q_nm, q_gd, q_gd2, q_ix, q_lt, q_eq, q_m5a, q_m5b, q_m40b, q_m8a, q_m8b, q_m16b, q_m374b, q_m160b, q_m10a, q_div5, q_rem5, nI_add, q_moe, q_moe2, q_mol, q_mol2, q_mor, q_bd2, q_bd1, q_stI, q_oI0, if_true, if_false, ite_true, ite_false, ↓reduceIte, Nat.lt_irrefl, Nat.not_lt_zero, Nat.add_zero, Nat.zero_add, Nat.reduceEqDiff, Nat.reduceLeDiff, Nat.reduceLT, Nat.reduceAdd, Bool.false_eq_true, and_self, and_false, false_and, true_and, and_true, not_true_eq_false, not_false_eq_true, e1, e2, e3, e4]
theorem r_deadBy2 (h : Hq Λ S m) (hW : WL1 Λ) (hS : WS Λ S) (hd : d < yD Λ) (ho : o < yD Λ) : f_X11_deadBy (nI d) (nI o) m = some (nI (deC Λ (lsS Λ (lsS Λ S d) o)), wr 119 (asd m) m) := by
  have h13 := hW.1
  have hR := RelR_wr (b := 119) (g := asd m) (by omega) h.2.1
  have e1 := r_copies (m := m) (p0 := 117) (p2 := 119) (a := 0) (b := 0) (by decide) (by decide) (by decide) (by decide) (by decide)
  rw [cp_asd] at e1
  have e2 := r_losesDisk (S := S) hR hW hS hd
  have hp : pR Λ S (wr 119 (asd m) m) = wr 119 (asd m) m := by rw [pR_wr (by decide), h.2.2.2]
  rw [hp] at e2
  have hS2 : WS Λ (lsS Λ S d) := WS_c (S := (S.1, lsW Λ S d (5 * yS Λ), S.2.2)) rfl (WS_ls hS)
  have e5 := r_losesDisk (S := lsS Λ S d) hR hW hS2 ho
  have e3 := r_deadOnes (S := lsS Λ (lsS Λ S d) o) hR hW
  have e4 := r_copies (m := pR Λ (lsS Λ (lsS Λ S d) o) (wr 119 (asd m) m)) (p0 := 119) (p2 := 117) (a := 0) (b := 0) (by decide) (by decide) (by decide) (by decide) (by decide)
  rw [cp_back h.2.2.2 hW.2.2.1] at e4
  unfold f_X11_deadBy f_X11_deadBy_J29
  simp (maxSteps := 500000) (disch := first | assumption | omega) only [q_l0, q_l1, q_l2, q_l3, q_l4, q_l5, q_l6, q_l7, q_l8, q_l9, q_l10, q_l11, q_l12, q_l13, q_l14, q_l15, q_l16, q_l20, q_l21, q_l22, q_l24, q_l25, q_l26, q_l27, q_l28, q_l29, q_l30, q_l31, q_l32, q_l40, q_l48, q_l57, q_l80, q_l97, q_l100, q_l120, q_l122, q_l126, q_l160, q_l200, q_l214, q_l255, q_l256, q_l374, q_l400, q_l999, q_l1000, q_l9999, q_l99, q_l99999, q_nm, q_gd, q_gd2, q_ix, q_lt, q_eq, q_m5a, q_m5b, q_m40b, q_m8a, q_m8b, q_m16b, q_m374b, q_m160b, q_m10a, q_div5, q_rem5, nI_add, q_moe, q_moe2, q_mol, q_mol2, q_mor, q_bd2, q_bd1, q_stI, q_oI0, if_true, if_false, ite_true, ite_false, ↓reduceIte, Nat.lt_irrefl, Nat.not_lt_zero, Nat.add_zero, Nat.zero_add, Nat.reduceEqDiff, Nat.reduceLeDiff, Nat.reduceLT, Nat.reduceAdd, Bool.false_eq_true, and_self, and_false, false_and, true_and, and_true, not_true_eq_false, not_false_eq_true, e1, e2, e5, e3, e4]
end Brs
