/-! MATH HALF: time, the class's ticks and the reference's -/
section Ti2
variable {Λ T : Lv} {a b x k d o n i N K z c B t u w v p s M W : Nat} {S F : Sv} {m m2 m3 : Mm} {x1 x2 x3 st : Int32} {g h0 vl : Nat → Int32} {q : Nat → Bool} {y : Int64} {r r2 : Nat → Nat}
theorem rm_congr (h : ∀ i, i < 13 → r i = r2 i) : rm r g = rm r2 g := by
  funext i
  unfold rm
  by_cases hi : i < 13
  · rw [if_pos hi, if_pos hi, h i hi]
  · rw [if_neg hi, if_neg hi]
theorem c_afterTick (hC : RelC Λ m) (hW : WL1 Λ) (h4 : WL4 Λ) (hd : d < 13) (hc : c ≤ 9) (hy : BL y q) (hqQ : ∀ k, k < yS Λ → q k = true → 0 < yQ Λ k) : ∃ y2, f_X5_afterTick y (nI d) (wr 77 (rm (fun _ => c) g) m) = some (y2, wr 77 (rm (tkN Λ d c q (yS Λ)).2 g) m) ∧ BL y2 (tkN Λ d c q (yS Λ)).1 := by
  have h40 := hW.2.1
  have h13 := hW.1
  have key : ∀ n k j y1, n + k = yS Λ → n < j → BL y1 (tkN Λ d c q k).1 → ∃ y2, f_X5_afterTick_L6 j y (nI d) y1 (nI k) (wr 77 (rm (tkN Λ d c q k).2 g) m) = some (y2, wr 77 (rm (tkN Λ d c q (yS Λ)).2 g) m) ∧ BL y2 (tkN Λ d c q (yS Λ)).1 := fun n => by
    induction n with
    | zero =>
      intro k j y1 h1 h2 h3
      have : k = yS Λ := by omega
      subst this
      obtain ⟨j3, rfl⟩ : ∃ j3, j = j3 + 1 := ⟨j - 1, by omega⟩
      have c1 : gI (wr 77 (rm (tkN Λ d c q (yS Λ)).2 g) m) 26 1 = nI (yS Λ) := by rw [wr_g (by decide)]; exact hC.2.1
      exact ⟨y1, by simp (maxSteps := 500000) (disch := first | assumption | omega) only [f_X5_afterTick_L6, q_l0, q_l1, q_l2, q_l3, q_l4, q_l5, q_l6, q_l7, q_l8, q_l9, q_l10, q_l11, q_l12, q_l13, q_l14, q_l15, q_l16, q_l20, q_l21, q_l22, q_l24, q_l25, q_l26, q_l27, q_l28, q_l29, q_l30, q_l31, q_l32, q_l40, q_l48, q_l57, q_l80, q_l97, q_l100, q_l120, q_l122, q_l126, q_l160, q_l200, q_l214, q_l255, q_l256, q_l374, q_l400, q_l999, q_l1000, q_l9999, q_l99, q_l99999, q_nm, q_gd, q_gd2, q_ix, q_lt, q_eq, q_m5a, q_m5b, q_m40b, q_m8a, q_m8b, q_m16b, q_m374b, q_m160b, q_m10a, q_div5, q_rem5, nI_add, q_moe, q_moe2, q_mol, q_mol2, q_mor, q_bd2, q_bd1, q_stI, q_oI0, if_true, if_false, ite_true, ite_false, ↓reduceIte, Nat.lt_irrefl, Nat.not_lt_zero, Nat.add_zero, Nat.zero_add, Nat.reduceEqDiff, Nat.reduceLeDiff, Nat.reduceLT, Nat.reduceAdd, Bool.false_eq_true, and_self, and_false, false_and, true_and, and_true, not_true_eq_false, not_false_eq_true, c1], h3⟩
    | succ n ih =>
      intro k j y1 h1 h2 h3
      obtain ⟨j3, rfl⟩ : ∃ j3, j = j3 + 1 := ⟨j - 1, by omega⟩
      have hk : k < yS Λ := by omega
      have c1 : gI (wr 77 (rm (tkN Λ d c q k).2 g) m) 26 1 = nI (yS Λ) := by rw [wr_g (by decide)]; exact hC.2.1
      have ht := bl_tst hy (k := k) (by omega)
      rw [q_l0] at ht
      by_cases p1 : q k = true
      · have ht2 : ¬ lg_cmp ((y >>> ((nI k).toInt64 &&& 63)) &&& 1) 0 = nI 0 := fun e => by rw [ht.mp e] at p1; exact absurd p1 (by decide)
        have hQ := hqQ k hk p1
        have hQ2 := (hW.2.2.2.1 k hk).2.2.2
        have c32 : gI (wr 77 (rm (tkN Λ d c q k).2 g) m) 32 k = nI (yM Λ k) := by rw [wr_g (by decide)]; exact hC.2.2.2.2.2.2.2.2.1 k hk
        have c30 : gI (wr 77 (rm (tkN Λ d c q k).2 g) m) 30 k = nI (yQ Λ k - 1) := by rw [wr_g (by decide), hC.2.2.2.2.2.2.1 k hk, q_oIp hQ]
        have hb := busy_eq hW h4 hk hd hQ
        have hr9 : ∀ i, i < 13 → (tkN Λ d c q k).2 i ≤ 9 := fun i _ => Nat.le_trans tk_le hc
        have e1 := c_canTake (g := g) (m := m) (busy_lt (Λ := Λ) (d := d) (k := k)) hr9
        by_cases p2 : ftP Λ d k (tkN Λ d c q k).2
        · have hpos : ∀ i, i < 13 → (busyN Λ d k).testBit i = true → 0 < (tkN Λ d c q k).2 i := fun i hi hbi => p2 i hi ((busy_bit hi).mp hbi)
          have e2 := c_take (g := g) (m := m) (busy_lt (Λ := Λ) (d := d) (k := k)) hr9 hpos
          have et : tkN Λ d c q (k + 1) = (fun i => if i = k then false else (tkN Λ d c q k).1 i, fun i => if bz Λ d k i then (tkN Λ d c q k).2 i - 1 else (tkN Λ d c q k).2 i) := by
            conv => lhs; unfold tkN
            rw [if_pos ⟨p1, p2⟩]
          have er : rm (fun i => if (busyN Λ d k).testBit i = true then (tkN Λ d c q k).2 i - 1 else (tkN Λ d c q k).2 i) g = rm (tkN Λ d c q (k + 1)).2 g := rm_congr (fun i hi => by
            rw [et]
            dsimp only
            by_cases hb2 : bz Λ d k i
            · rw [if_pos hb2, if_pos ((busy_bit hi).mpr hb2)]
            · rw [if_neg hb2, if_neg (fun h => hb2 ((busy_bit hi).mp h))])
          rw [er] at e2
          obtain ⟨y2, f1, f2⟩ := ih (k + 1) j3 (y1 &&& (((1 : Int64) <<< ((nI k).toInt64 &&& 63)) ^^^ (-1))) (by omega) (by omega) (by
            rw [et]
            exact bl_clr h3 (by omega))
          refine ⟨y2, ?_, f2⟩
          rw [← f1]
          conv => lhs; unfold f_X5_afterTick_L6
          simp (maxSteps := 500000) (disch := first | assumption | omega) only [q_l0, q_l1, q_l2, q_l3, q_l4, q_l5, q_l6, q_l7, q_l8, q_l9, q_l10, q_l11, q_l12, q_l13, q_l14, q_l15, q_l16, q_l20, q_l21, q_l22, q_l24, q_l25, q_l26, q_l27, q_l28, q_l29, q_l30, q_l31, q_l32, q_l40, q_l48, q_l57, q_l80, q_l97, q_l100, q_l120, q_l122, q_l126, q_l160, q_l200, q_l214, q_l255, q_l256, q_l374, q_l400, q_l999, q_l1000, q_l9999, q_l99, q_l99999, q_nm, q_gd, q_gd2, q_ix, q_lt, q_eq, q_m5a, q_m5b, q_m40b, q_m8a, q_m8b, q_m16b, q_m374b, q_m160b, q_m10a, q_div5, q_rem5, nI_add, q_moe, q_moe2, q_mol, q_mol2, q_mor, q_bd2, q_bd1, q_stI, q_oI0, if_true, if_false, ite_true, ite_false, ↓reduceIte, Nat.lt_irrefl, Nat.not_lt_zero, Nat.add_zero, Nat.zero_add, Nat.reduceEqDiff, Nat.reduceLeDiff, Nat.reduceLT, Nat.reduceAdd, Bool.false_eq_true, and_self, and_false, false_and, true_and, and_true, not_true_eq_false, not_false_eq_true, c1, hk]
          rw [if_neg ht2]
          simp (maxSteps := 500000) (disch := first | assumption | omega) only [q_l0, q_l1, q_l2, q_l3, q_l4, q_l5, q_l6, q_l7, q_l8, q_l9, q_l10, q_l11, q_l12, q_l13, q_l14, q_l15, q_l16, q_l20, q_l21, q_l22, q_l24, q_l25, q_l26, q_l27, q_l28, q_l29, q_l30, q_l31, q_l32, q_l40, q_l48, q_l57, q_l80, q_l97, q_l100, q_l120, q_l122, q_l126, q_l160, q_l200, q_l214, q_l255, q_l256, q_l374, q_l400, q_l999, q_l1000, q_l9999, q_l99, q_l99999, q_nm, q_gd, q_gd2, q_ix, q_lt, q_eq, q_m5a, q_m5b, q_m40b, q_m8a, q_m8b, q_m16b, q_m374b, q_m160b, q_m10a, q_div5, q_rem5, nI_add, q_moe, q_moe2, q_mol, q_mol2, q_mor, q_bd2, q_bd1, q_stI, q_oI0, if_true, if_false, ite_true, ite_false, ↓reduceIte, Nat.lt_irrefl, Nat.not_lt_zero, Nat.add_zero, Nat.zero_add, Nat.reduceEqDiff, Nat.reduceLeDiff, Nat.reduceLT, Nat.reduceAdd, Bool.false_eq_true, and_self, and_false, false_and, true_and, and_true, not_true_eq_false, not_false_eq_true, c32, c30, q_shl, hb, e1.1 hpos, e2]
        · have hpos : ¬ ∀ i, i < 13 → (busyN Λ d k).testBit i = true → 0 < (tkN Λ d c q k).2 i := fun h => p2 (fun i hi hbi => h i hi ((busy_bit hi).mpr hbi))
          have et : tkN Λ d c q (k + 1) = tkN Λ d c q k := by
            conv => lhs; unfold tkN
            rw [if_neg (fun h => p2 h.2)]
          obtain ⟨y2, f1, f2⟩ := ih (k + 1) j3 y1 (by omega) (by omega) (by rw [et]; exact h3)
          refine ⟨y2, ?_, f2⟩
          rw [← f1, et]
          conv => lhs; unfold f_X5_afterTick_L6
          simp (maxSteps := 500000) (disch := first | assumption | omega) only [q_l0, q_l1, q_l2, q_l3, q_l4, q_l5, q_l6, q_l7, q_l8, q_l9, q_l10, q_l11, q_l12, q_l13, q_l14, q_l15, q_l16, q_l20, q_l21, q_l22, q_l24, q_l25, q_l26, q_l27, q_l28, q_l29, q_l30, q_l31, q_l32, q_l40, q_l48, q_l57, q_l80, q_l97, q_l100, q_l120, q_l122, q_l126, q_l160, q_l200, q_l214, q_l255, q_l256, q_l374, q_l400, q_l999, q_l1000, q_l9999, q_l99, q_l99999, q_nm, q_gd, q_gd2, q_ix, q_lt, q_eq, q_m5a, q_m5b, q_m40b, q_m8a, q_m8b, q_m16b, q_m374b, q_m160b, q_m10a, q_div5, q_rem5, nI_add, q_moe, q_moe2, q_mol, q_mol2, q_mor, q_bd2, q_bd1, q_stI, q_oI0, if_true, if_false, ite_true, ite_false, ↓reduceIte, Nat.lt_irrefl, Nat.not_lt_zero, Nat.add_zero, Nat.zero_add, Nat.reduceEqDiff, Nat.reduceLeDiff, Nat.reduceLT, Nat.reduceAdd, Bool.false_eq_true, and_self, and_false, false_and, true_and, and_true, not_true_eq_false, not_false_eq_true, c1, hk]
          rw [if_neg ht2]
          simp (maxSteps := 500000) (disch := first | assumption | omega) only [q_l0, q_l1, q_l2, q_l3, q_l4, q_l5, q_l6, q_l7, q_l8, q_l9, q_l10, q_l11, q_l12, q_l13, q_l14, q_l15, q_l16, q_l20, q_l21, q_l22, q_l24, q_l25, q_l26, q_l27, q_l28, q_l29, q_l30, q_l31, q_l32, q_l40, q_l48, q_l57, q_l80, q_l97, q_l100, q_l120, q_l122, q_l126, q_l160, q_l200, q_l214, q_l255, q_l256, q_l374, q_l400, q_l999, q_l1000, q_l9999, q_l99, q_l99999, q_nm, q_gd, q_gd2, q_ix, q_lt, q_eq, q_m5a, q_m5b, q_m40b, q_m8a, q_m8b, q_m16b, q_m374b, q_m160b, q_m10a, q_div5, q_rem5, nI_add, q_moe, q_moe2, q_mol, q_mol2, q_mor, q_bd2, q_bd1, q_stI, q_oI0, if_true, if_false, ite_true, ite_false, ↓reduceIte, Nat.lt_irrefl, Nat.not_lt_zero, Nat.add_zero, Nat.zero_add, Nat.reduceEqDiff, Nat.reduceLeDiff, Nat.reduceLT, Nat.reduceAdd, Bool.false_eq_true, and_self, and_false, false_and, true_and, and_true, not_true_eq_false, not_false_eq_true, c32, c30, q_shl, hb, e1.2 hpos]
      · have p1' : q k = false := by cases hh : q k <;> simp_all
        have et : tkN Λ d c q (k + 1) = tkN Λ d c q k := by
          conv => lhs; unfold tkN
          rw [if_neg (fun h => p1 h.1)]
        obtain ⟨y2, f1, f2⟩ := ih (k + 1) j3 y1 (by omega) (by omega) (by rw [et]; exact h3)
        refine ⟨y2, ?_, f2⟩
        rw [← f1, et]
        conv => lhs; unfold f_X5_afterTick_L6
        simp (maxSteps := 500000) (disch := first | assumption | omega) only [q_l0, q_l1, q_l2, q_l3, q_l4, q_l5, q_l6, q_l7, q_l8, q_l9, q_l10, q_l11, q_l12, q_l13, q_l14, q_l15, q_l16, q_l20, q_l21, q_l22, q_l24, q_l25, q_l26, q_l27, q_l28, q_l29, q_l30, q_l31, q_l32, q_l40, q_l48, q_l57, q_l80, q_l97, q_l100, q_l120, q_l122, q_l126, q_l160, q_l200, q_l214, q_l255, q_l256, q_l374, q_l400, q_l999, q_l1000, q_l9999, q_l99, q_l99999, q_nm, q_gd, q_gd2, q_ix, q_lt, q_eq, q_m5a, q_m5b, q_m40b, q_m8a, q_m8b, q_m16b, q_m374b, q_m160b, q_m10a, q_div5, q_rem5, nI_add, q_moe, q_moe2, q_mol, q_mol2, q_mor, q_bd2, q_bd1, q_stI, q_oI0, if_true, if_false, ite_true, ite_false, ↓reduceIte, Nat.lt_irrefl, Nat.not_lt_zero, Nat.add_zero, Nat.zero_add, Nat.reduceEqDiff, Nat.reduceLeDiff, Nat.reduceLT, Nat.reduceAdd, Bool.false_eq_true, and_self, and_false, false_and, true_and, and_true, not_true_eq_false, not_false_eq_true, c1, hk]
        rw [if_pos (ht.mpr p1')]
  obtain ⟨y2, f1, f2⟩ := key (yS Λ) 0 FU y (by omega) (by show _ < 4096; omega) hy
  exact ⟨y2, f1, f2⟩
theorem c_fill (hc : c ≤ 9) {v1 v5 : Int32} {v3 : Int64} {K' : Mm → Option (Int32 × Mm)} : f_X5_ticks_L25 v1 (nI c) v3 v5 K' FU (nI 0) (wr 77 g m) = K' (wr 77 (rm (fun _ => c) g) m) := by
  let R : Nat → Nat → Int32 := fun n i => if i < n then nI c else g i
  have e0 : g = R 0 := by funext i; show _ = if i < 0 then _ else _; rw [if_neg (by omega)]
  have e13 : rm (fun _ => c) g = R 13 := rfl
  rw [e13]
  conv => lhs; rw [e0]
  refine lp0 (fun j u => f_X5_ticks_L25 v1 (nI c) v3 v5 K' j (nI u) (wr 77 (R u) m)) 13 _ (fun j => ?_) (fun j u hu => ?_) (by omega)
  · simp (maxSteps := 500000) (disch := first | assumption | omega) only [f_X5_ticks_L25, q_l0, q_l1, q_l2, q_l3, q_l4, q_l5, q_l6, q_l7, q_l8, q_l9, q_l10, q_l11, q_l12, q_l13, q_l14, q_l15, q_l16, q_l20, q_l21, q_l22, q_l24, q_l25, q_l26, q_l27, q_l28, q_l29, q_l30, q_l31, q_l32, q_l40, q_l48, q_l57, q_l80, q_l97, q_l100, q_l120, q_l122, q_l126, q_l160, q_l200, q_l214, q_l255, q_l256, q_l374, q_l400, q_l999, q_l1000, q_l9999, q_l99, q_l99999, q_nm, q_gd, q_gd2, q_ix, q_lt, q_eq, q_m5a, q_m5b, q_m40b, q_m8a, q_m8b, q_m16b, q_m374b, q_m160b, q_m10a, q_div5, q_rem5, nI_add, q_moe, q_moe2, q_mol, q_mol2, q_mor, q_bd2, q_bd1, q_stI, q_oI0, if_true, if_false, ite_true, ite_false, ↓reduceIte, Nat.lt_irrefl, Nat.not_lt_zero, Nat.add_zero, Nat.zero_add, Nat.reduceEqDiff, Nat.reduceLeDiff, Nat.reduceLT, Nat.reduceAdd, Bool.false_eq_true, and_self, and_false, false_and, true_and, and_true, not_true_eq_false, not_false_eq_true]
  · have e3 : upd (R u) u (nI c) = R (u + 1) := by
      funext i
      unfold upd
      show (if i = u then nI c else if i < u then nI c else g i) = if i < u + 1 then nI c else g i
      by_cases h : i = u
      · have h3 : i < u + 1 := by omega
        rw [if_pos h, if_pos h3]
      · rw [if_neg h]
        by_cases h2 : i < u
        · have h3 : i < u + 1 := by omega
          rw [if_pos h2, if_pos h3]
        · have h3 : ¬ i < u + 1 := by omega
          rw [if_neg h2, if_neg h3]
    simp (maxSteps := 500000) (disch := first | assumption | omega) only [f_X5_ticks_L25, q_l0, q_l1, q_l2, q_l3, q_l4, q_l5, q_l6, q_l7, q_l8, q_l9, q_l10, q_l11, q_l12, q_l13, q_l14, q_l15, q_l16, q_l20, q_l21, q_l22, q_l24, q_l25, q_l26, q_l27, q_l28, q_l29, q_l30, q_l31, q_l32, q_l40, q_l48, q_l57, q_l80, q_l97, q_l100, q_l120, q_l122, q_l126, q_l160, q_l200, q_l214, q_l255, q_l256, q_l374, q_l400, q_l999, q_l1000, q_l9999, q_l99, q_l99999, q_nm, q_gd, q_gd2, q_ix, q_lt, q_eq, q_m5a, q_m5b, q_m40b, q_m8a, q_m8b, q_m16b, q_m374b, q_m160b, q_m10a, q_div5, q_rem5, nI_add, q_moe, q_moe2, q_mol, q_mol2, q_mor, q_bd2, q_bd1, q_stI, q_oI0, if_true, if_false, ite_true, ite_false, ↓reduceIte, Nat.lt_irrefl, Nat.not_lt_zero, Nat.add_zero, Nat.zero_add, Nat.reduceEqDiff, Nat.reduceLeDiff, Nat.reduceLT, Nat.reduceAdd, Bool.false_eq_true, and_self, and_false, false_and, true_and, and_true, not_true_eq_false, not_false_eq_true, hu, wr_sI, e3]
theorem tkI_Q (h : ∀ k, k < yS Λ → q k = true → 0 < yQ Λ k) : ∀ n k, k < yS Λ → tkI Λ d c q n k = true → 0 < yQ Λ k
  | 0, k, hk, hq => h k hk hq
  | n + 1, k, hk, hq => tkI_Q h n k hk (tk_sub hq)
theorem c_ticksL (hC : RelC Λ m) (hW : WL1 Λ) (h4 : WL4 Λ) (hd : d < 13) (hc1 : 1 ≤ c) (hc : c ≤ 9) (hy : BL y q) (hqQ : ∀ k, k < yS Λ → q k = true → 0 < yQ Λ k) (hq : ∀ i, yS Λ ≤ i → q i = false) : ∃ g2, f_X5_ticks_L9 FU (nI d) (nI c) y (nI 0) m = some (nI (tkT Λ d c q), wr 77 g2 m) := by
  have h40 := hW.2.1
  obtain ⟨hT40, hT0⟩ := tkT_is (Λ := Λ) (d := d) (c := c) (q := q) hW hc1
  have key : ∀ n k j y1 g1, n + k = tkT Λ d c q → n < j → BL y1 (tkI Λ d c q k) → ∃ g2, f_X5_ticks_L9 j (nI d) (nI c) y1 (nI k) (wr 77 g1 m) = some (nI (tkT Λ d c q), wr 77 g2 m) := fun n => by
    induction n with
    | zero =>
      intro k j y1 g1 h1 h2 h3
      have hk : k = tkT Λ d c q := by omega
      have hT0' : qc (tkI Λ d c q k) (yS Λ) = 0 := by rw [hk]; exact hT0
      obtain ⟨j3, rfl⟩ : ∃ j3, j = j3 + 1 := ⟨j - 1, by omega⟩
      have hz := (bl_zero h3).mpr (fun k _ => qc_all hT0' (tkI_far hW hq _) k)
      refine ⟨g1, ?_⟩
      rw [← hk]
      unfold f_X5_ticks_L9
      rw [if_pos hz]
      split <;> rfl
    | succ n ih =>
      intro k j y1 g1 h1 h2 h3
      obtain ⟨j3, rfl⟩ : ∃ j3, j = j3 + 1 := ⟨j - 1, by omega⟩
      have hk40 : k < 40 := by omega
      have hne := tkT_no (Λ := Λ) (d := d) (c := c) (q := q) (n := k) (by omega)
      have hz : ¬ lg_cmp y1 0 = 0 := fun e => by
        have h5 := (bl_zero h3).mp e
        exact hne (ct_none (fun i hi hb => by rw [h5 i (by omega)] at hb; exact absurd hb (by decide)))
      obtain ⟨y2, f1, f2⟩ := c_afterTick (g := g1) hC hW h4 hd hc h3 (tkI_Q hqQ k)
      obtain ⟨g2, f3⟩ := ih (k + 1) j3 y2 (rm (tkN Λ d c (tkI Λ d c q k) (yS Λ)).2 g1) (by omega) (by omega) f2
      refine ⟨g2, ?_⟩
      rw [← f3]
      conv => lhs; unfold f_X5_ticks_L9
      rw [q_l40, if_pos ((q_ltp (by omega) (by omega)).mpr hk40), if_neg hz, q_l0, c_fill hc, f1, q_bd2, q_l1, nI_add]
  obtain ⟨g2, f⟩ := key (tkT Λ d c q) 0 FU y (m.1 77) (by omega) (by show _ < 4096; omega) hy
  rw [wr_self] at f
  exact ⟨g2, f⟩
theorem dn_home (hW : WL1 Λ) (hS : WS Λ S) (hk : k < yS Λ) (h0 : lostC Λ S k = 0) (ha : awU Λ S k = mo) (hd : d < yD Λ) : (dnB Λ S k (yZ Λ k)).testBit d = true ↔ onK Λ k d := by
  have h13 := hW.1
  have hwh : ∀ u, u < yZ Λ k → S.2.1 (5 * k + u) = nI 0 := fun u hu => by
    rcases hS _ (vx_mk hW hk hu) with h | ⟨h, _⟩ | h
    · exact h
    · rcases awU_cases (Λ := Λ) (S := S) k with ⟨_, h2⟩ | ⟨u2, h2, h3, _⟩
      · exact absurd h (h2 u hu)
      · have h5 := (hW.2.2.2.1 k hk).2.1
        rw [ha, q_moe2 (by omega)] at h3
        exact h3.elim
    · have := ct_pos (p := fun u => S.2.1 (5 * k + u) = nI 2) hu h
      unfold lostC at h0
      omega
  rw [dnB_bit hW hS hk _ (Nat.le_refl _) d]
  constructor
  · rintro ⟨u, hu, e, _⟩
    unfold dnow at e
    have hK := hW.2.2.2.2 _ (vx_mk hW hk hu)
    rw [hwh u hu, if_neg n02, if_pos rfl, q_eq (by omega) (by omega)] at e
    rcases Nat.lt_or_ge (uOn Λ k d) (yZ Λ k) with h | h
    · exact h
    · exact absurd e (fs_not (fun u => yK Λ (5 * k + u) = d) (yZ Λ k) u (by unfold uOn at h; omega))
  · intro h
    refine ⟨_, h, ?_, hd⟩
    unfold dnow
    rw [hwh _ h, if_neg n02, if_pos rfl, uOn_is h]
theorem c_spares (h : Hq Λ S m) (hW : WL1 Λ) (hS : WS Λ S) (hd : d < yD Λ) : ∃ y, f_X5_rebuiltIntoSpares (nI d) m = some (y, m) ∧ BL y (tq Λ S d (yS Λ)) := by
  have h40 := hW.2.1
  have h13 := hW.1
  have c1 := h.1.2.1
  have key : ∀ n k j y1, n + k = yS Λ → n < j → BL y1 (tq Λ S d k) → ∃ y2, f_X5_rebuiltIntoSpares_L5 j (nI d) y1 (nI k) m = some (y2, m) ∧ BL y2 (tq Λ S d (yS Λ)) := fun n => by
    induction n with
    | zero =>
      intro k j y1 h1 h2 h3
      have : k = yS Λ := by omega
      subst this
      obtain ⟨j3, rfl⟩ : ∃ j3, j = j3 + 1 := ⟨j - 1, by omega⟩
      exact ⟨y1, by simp (maxSteps := 500000) (disch := first | assumption | omega) only [f_X5_rebuiltIntoSpares_L5, q_l0, q_l1, q_l2, q_l3, q_l4, q_l5, q_l6, q_l7, q_l8, q_l9, q_l10, q_l11, q_l12, q_l13, q_l14, q_l15, q_l16, q_l20, q_l21, q_l22, q_l24, q_l25, q_l26, q_l27, q_l28, q_l29, q_l30, q_l31, q_l32, q_l40, q_l48, q_l57, q_l80, q_l97, q_l100, q_l120, q_l122, q_l126, q_l160, q_l200, q_l214, q_l255, q_l256, q_l374, q_l400, q_l999, q_l1000, q_l9999, q_l99, q_l99999, q_nm, q_gd, q_gd2, q_ix, q_lt, q_eq, q_m5a, q_m5b, q_m40b, q_m8a, q_m8b, q_m16b, q_m374b, q_m160b, q_m10a, q_div5, q_rem5, nI_add, q_moe, q_moe2, q_mol, q_mol2, q_mor, q_bd2, q_bd1, q_stI, q_oI0, if_true, if_false, ite_true, ite_false, ↓reduceIte, Nat.lt_irrefl, Nat.not_lt_zero, Nat.add_zero, Nat.zero_add, Nat.reduceEqDiff, Nat.reduceLeDiff, Nat.reduceLT, Nat.reduceAdd, Bool.false_eq_true, and_self, and_false, false_and, true_and, and_true, not_true_eq_false, not_false_eq_true, c1], h3⟩
    | succ n ih =>
      intro k j y1 h1 h2 h3
      obtain ⟨j3, rfl⟩ : ∃ j3, j = j3 + 1 := ⟨j - 1, by omega⟩
      have hk : k < yS Λ := by omega
      have g1 := c_lostBits (S := S) (a := 54) (by omega) h.1 hW hk
      have g2 := c_disksNow (S := S) (a := 54) (by omega) h.1 hW hS hk
      have g3 := c_awayUnit (S := S) (a := 54) (by omega) h.1 hW hk
      rw [h.2.2.1] at g1 g2 g3
      have hlb := loB_lt (S := S) hW hk
      have hb := dnB_lt hW hS hk (Nat.le_refl _)
      have t1 := q_tb (s := dnB Λ S k (yZ Λ k)) (d := d) (by omega) (by omega)
      have hQ2 := (hW.2.2.2.1 k hk).2.2.2
      have c30 := h.1.2.2.2.2.2.2.1 k hk
      have h0 := loB_0 (S := S) hW hk
      have skip : ¬ twP Λ S d k → BL y1 (tq Λ S d (k + 1)) := fun hn i hi => by
        rw [h3 i hi]
        unfold tq
        by_cases e : i = k
        · subst e
          rw [decide_eq_false (fun h => by omega), decide_eq_false (fun h => hn h.2)]
        · by_cases e2 : i < k ∧ twP Λ S d i
          · rw [decide_eq_true e2, decide_eq_true ⟨by omega, e2.2⟩]
          · rw [decide_eq_false e2, decide_eq_false (fun h => e2 ⟨by omega, h.2⟩)]
      have done : (f_X5_rebuiltIntoSpares_L5 (j3 + 1) (nI d) y1 (nI k) m = f_X5_rebuiltIntoSpares_L5 j3 (nI d) y1 (nI (k + 1)) m ∧ ¬ twP Λ S d k) ∨ (f_X5_rebuiltIntoSpares_L5 (j3 + 1) (nI d) y1 (nI k) m = f_X5_rebuiltIntoSpares_L5 j3 (nI d) (y1 ||| ((1 : Int64) <<< ((nI k).toInt64 &&& 63))) (nI (k + 1)) m ∧ twP Λ S d k) := by
        by_cases q1 : loB Λ S k = 0
        · have q1' := h0.mp q1
          by_cases q2 : awU Λ S k = mo
          · have hdn := dn_home hW hS hk q1' q2 hd
            by_cases q3 : (dnB Λ S k (yZ Λ k)).testBit d = true
            · rw [if_pos q3] at t1
              by_cases q4 : yQ Λ k = 0
              · left
                rw [q4] at c30
                have e5 := c_isUpN (a := 54) (S := S) (m := m)
                rw [h.2.2.1] at e5
                exact ⟨by simp (maxSteps := 500000) (disch := first | assumption | omega) only [f_X5_rebuiltIntoSpares_L5, f_X5_rebuiltIntoSpares_J38, f_X5_rebuiltIntoSpares_J70, q_l0, q_l1, q_l2, q_l3, q_l4, q_l5, q_l6, q_l7, q_l8, q_l9, q_l10, q_l11, q_l12, q_l13, q_l14, q_l15, q_l16, q_l20, q_l21, q_l22, q_l24, q_l25, q_l26, q_l27, q_l28, q_l29, q_l30, q_l31, q_l32, q_l40, q_l48, q_l57, q_l80, q_l97, q_l100, q_l120, q_l122, q_l126, q_l160, q_l200, q_l214, q_l255, q_l256, q_l374, q_l400, q_l999, q_l1000, q_l9999, q_l99, q_l99999, q_nm, q_gd, q_gd2, q_ix, q_lt, q_eq, q_m5a, q_m5b, q_m40b, q_m8a, q_m8b, q_m16b, q_m374b, q_m160b, q_m10a, q_div5, q_rem5, nI_add, q_moe, q_moe2, q_mol, q_mol2, q_mor, q_bd2, q_bd1, q_stI, q_oI0, if_true, if_false, ite_true, ite_false, ↓reduceIte, Nat.lt_irrefl, Nat.not_lt_zero, Nat.add_zero, Nat.zero_add, Nat.reduceEqDiff, Nat.reduceLeDiff, Nat.reduceLT, Nat.reduceAdd, Bool.false_eq_true, and_self, and_false, false_and, true_and, and_true, not_true_eq_false, not_false_eq_true, c1, hk, g2, t1, g1, q1, g3, q2, c30, e5], fun h => by have := h.2.2.2.1; omega⟩
              · rw [q_oIp (by omega)] at c30
                have e5 := c_isUp (a := 54) (S := S) (m := m) (d := yQ Λ k - 1) (by omega)
                rw [h.2.2.1] at e5
                by_cases q5 : upP S (yQ Λ k - 1)
                · right
                  rw [if_pos q5] at e5
                  exact ⟨by simp (maxSteps := 500000) (disch := first | assumption | omega) only [f_X5_rebuiltIntoSpares_L5, f_X5_rebuiltIntoSpares_J38, f_X5_rebuiltIntoSpares_J70, q_l0, q_l1, q_l2, q_l3, q_l4, q_l5, q_l6, q_l7, q_l8, q_l9, q_l10, q_l11, q_l12, q_l13, q_l14, q_l15, q_l16, q_l20, q_l21, q_l22, q_l24, q_l25, q_l26, q_l27, q_l28, q_l29, q_l30, q_l31, q_l32, q_l40, q_l48, q_l57, q_l80, q_l97, q_l100, q_l120, q_l122, q_l126, q_l160, q_l200, q_l214, q_l255, q_l256, q_l374, q_l400, q_l999, q_l1000, q_l9999, q_l99, q_l99999, q_nm, q_gd, q_gd2, q_ix, q_lt, q_eq, q_m5a, q_m5b, q_m40b, q_m8a, q_m8b, q_m16b, q_m374b, q_m160b, q_m10a, q_div5, q_rem5, nI_add, q_moe, q_moe2, q_mol, q_mol2, q_mor, q_bd2, q_bd1, q_stI, q_oI0, if_true, if_false, ite_true, ite_false, ↓reduceIte, Nat.lt_irrefl, Nat.not_lt_zero, Nat.add_zero, Nat.zero_add, Nat.reduceEqDiff, Nat.reduceLeDiff, Nat.reduceLT, Nat.reduceAdd, Bool.false_eq_true, and_self, and_false, false_and, true_and, and_true, not_true_eq_false, not_false_eq_true, c1, hk, g2, t1, g1, q1, g3, q2, c30, e5], q1', q2, hdn.mp q3, by omega, q5⟩
                · left
                  rw [if_neg q5] at e5
                  exact ⟨by simp (maxSteps := 500000) (disch := first | assumption | omega) only [f_X5_rebuiltIntoSpares_L5, f_X5_rebuiltIntoSpares_J38, f_X5_rebuiltIntoSpares_J70, q_l0, q_l1, q_l2, q_l3, q_l4, q_l5, q_l6, q_l7, q_l8, q_l9, q_l10, q_l11, q_l12, q_l13, q_l14, q_l15, q_l16, q_l20, q_l21, q_l22, q_l24, q_l25, q_l26, q_l27, q_l28, q_l29, q_l30, q_l31, q_l32, q_l40, q_l48, q_l57, q_l80, q_l97, q_l100, q_l120, q_l122, q_l126, q_l160, q_l200, q_l214, q_l255, q_l256, q_l374, q_l400, q_l999, q_l1000, q_l9999, q_l99, q_l99999, q_nm, q_gd, q_gd2, q_ix, q_lt, q_eq, q_m5a, q_m5b, q_m40b, q_m8a, q_m8b, q_m16b, q_m374b, q_m160b, q_m10a, q_div5, q_rem5, nI_add, q_moe, q_moe2, q_mol, q_mol2, q_mor, q_bd2, q_bd1, q_stI, q_oI0, if_true, if_false, ite_true, ite_false, ↓reduceIte, Nat.lt_irrefl, Nat.not_lt_zero, Nat.add_zero, Nat.zero_add, Nat.reduceEqDiff, Nat.reduceLeDiff, Nat.reduceLT, Nat.reduceAdd, Bool.false_eq_true, and_self, and_false, false_and, true_and, and_true, not_true_eq_false, not_false_eq_true, c1, hk, g2, t1, g1, q1, g3, q2, c30, e5], fun h => q5 h.2.2.2.2⟩
            · left
              rw [if_neg q3] at t1
              exact ⟨by simp (maxSteps := 500000) (disch := first | assumption | omega) only [f_X5_rebuiltIntoSpares_L5, f_X5_rebuiltIntoSpares_J38, f_X5_rebuiltIntoSpares_J70, q_l0, q_l1, q_l2, q_l3, q_l4, q_l5, q_l6, q_l7, q_l8, q_l9, q_l10, q_l11, q_l12, q_l13, q_l14, q_l15, q_l16, q_l20, q_l21, q_l22, q_l24, q_l25, q_l26, q_l27, q_l28, q_l29, q_l30, q_l31, q_l32, q_l40, q_l48, q_l57, q_l80, q_l97, q_l100, q_l120, q_l122, q_l126, q_l160, q_l200, q_l214, q_l255, q_l256, q_l374, q_l400, q_l999, q_l1000, q_l9999, q_l99, q_l99999, q_nm, q_gd, q_gd2, q_ix, q_lt, q_eq, q_m5a, q_m5b, q_m40b, q_m8a, q_m8b, q_m16b, q_m374b, q_m160b, q_m10a, q_div5, q_rem5, nI_add, q_moe, q_moe2, q_mol, q_mol2, q_mor, q_bd2, q_bd1, q_stI, q_oI0, if_true, if_false, ite_true, ite_false, ↓reduceIte, Nat.lt_irrefl, Nat.not_lt_zero, Nat.add_zero, Nat.zero_add, Nat.reduceEqDiff, Nat.reduceLeDiff, Nat.reduceLT, Nat.reduceAdd, Bool.false_eq_true, and_self, and_false, false_and, true_and, and_true, not_true_eq_false, not_false_eq_true, c1, hk, g2, t1, g1, q1, g3, q2], fun h => q3 (hdn.mpr h.2.2.1)⟩
          · left
            refine ⟨?_, fun h => q2 h.2.1⟩
            by_cases q3 : (dnB Λ S k (yZ Λ k)).testBit d = true
            · rw [if_pos q3] at t1
              simp (maxSteps := 500000) (disch := first | assumption | omega) only [f_X5_rebuiltIntoSpares_L5, f_X5_rebuiltIntoSpares_J38, f_X5_rebuiltIntoSpares_J69, f_X5_rebuiltIntoSpares_J70, q_l0, q_l1, q_l2, q_l3, q_l4, q_l5, q_l6, q_l7, q_l8, q_l9, q_l10, q_l11, q_l12, q_l13, q_l14, q_l15, q_l16, q_l20, q_l21, q_l22, q_l24, q_l25, q_l26, q_l27, q_l28, q_l29, q_l30, q_l31, q_l32, q_l40, q_l48, q_l57, q_l80, q_l97, q_l100, q_l120, q_l122, q_l126, q_l160, q_l200, q_l214, q_l255, q_l256, q_l374, q_l400, q_l999, q_l1000, q_l9999, q_l99, q_l99999, q_nm, q_gd, q_gd2, q_ix, q_lt, q_eq, q_m5a, q_m5b, q_m40b, q_m8a, q_m8b, q_m16b, q_m374b, q_m160b, q_m10a, q_div5, q_rem5, nI_add, q_moe, q_moe2, q_mol, q_mol2, q_mor, q_bd2, q_bd1, q_stI, q_oI0, if_true, if_false, ite_true, ite_false, ↓reduceIte, Nat.lt_irrefl, Nat.not_lt_zero, Nat.add_zero, Nat.zero_add, Nat.reduceEqDiff, Nat.reduceLeDiff, Nat.reduceLT, Nat.reduceAdd, Bool.false_eq_true, and_self, and_false, false_and, true_and, and_true, not_true_eq_false, not_false_eq_true, c1, hk, g2, t1, g1, q1, g3, q2]
            · rw [if_neg q3] at t1
              simp (maxSteps := 500000) (disch := first | assumption | omega) only [f_X5_rebuiltIntoSpares_L5, f_X5_rebuiltIntoSpares_J38, f_X5_rebuiltIntoSpares_J69, f_X5_rebuiltIntoSpares_J70, q_l0, q_l1, q_l2, q_l3, q_l4, q_l5, q_l6, q_l7, q_l8, q_l9, q_l10, q_l11, q_l12, q_l13, q_l14, q_l15, q_l16, q_l20, q_l21, q_l22, q_l24, q_l25, q_l26, q_l27, q_l28, q_l29, q_l30, q_l31, q_l32, q_l40, q_l48, q_l57, q_l80, q_l97, q_l100, q_l120, q_l122, q_l126, q_l160, q_l200, q_l214, q_l255, q_l256, q_l374, q_l400, q_l999, q_l1000, q_l9999, q_l99, q_l99999, q_nm, q_gd, q_gd2, q_ix, q_lt, q_eq, q_m5a, q_m5b, q_m40b, q_m8a, q_m8b, q_m16b, q_m374b, q_m160b, q_m10a, q_div5, q_rem5, nI_add, q_moe, q_moe2, q_mol, q_mol2, q_mor, q_bd2, q_bd1, q_stI, q_oI0, if_true, if_false, ite_true, ite_false, ↓reduceIte, Nat.lt_irrefl, Nat.not_lt_zero, Nat.add_zero, Nat.zero_add, Nat.reduceEqDiff, Nat.reduceLeDiff, Nat.reduceLT, Nat.reduceAdd, Bool.false_eq_true, and_self, and_false, false_and, true_and, and_true, not_true_eq_false, not_false_eq_true, c1, hk, g2, t1, g1, q1, g3, q2]
        · left
          refine ⟨?_, fun h => q1 (h0.mpr h.1)⟩
          by_cases q3 : (dnB Λ S k (yZ Λ k)).testBit d = true
          · rw [if_pos q3] at t1
            simp (maxSteps := 500000) (disch := first | assumption | omega) only [f_X5_rebuiltIntoSpares_L5, f_X5_rebuiltIntoSpares_J38, f_X5_rebuiltIntoSpares_J69, f_X5_rebuiltIntoSpares_J70, q_l0, q_l1, q_l2, q_l3, q_l4, q_l5, q_l6, q_l7, q_l8, q_l9, q_l10, q_l11, q_l12, q_l13, q_l14, q_l15, q_l16, q_l20, q_l21, q_l22, q_l24, q_l25, q_l26, q_l27, q_l28, q_l29, q_l30, q_l31, q_l32, q_l40, q_l48, q_l57, q_l80, q_l97, q_l100, q_l120, q_l122, q_l126, q_l160, q_l200, q_l214, q_l255, q_l256, q_l374, q_l400, q_l999, q_l1000, q_l9999, q_l99, q_l99999, q_nm, q_gd, q_gd2, q_ix, q_lt, q_eq, q_m5a, q_m5b, q_m40b, q_m8a, q_m8b, q_m16b, q_m374b, q_m160b, q_m10a, q_div5, q_rem5, nI_add, q_moe, q_moe2, q_mol, q_mol2, q_mor, q_bd2, q_bd1, q_stI, q_oI0, if_true, if_false, ite_true, ite_false, ↓reduceIte, Nat.lt_irrefl, Nat.not_lt_zero, Nat.add_zero, Nat.zero_add, Nat.reduceEqDiff, Nat.reduceLeDiff, Nat.reduceLT, Nat.reduceAdd, Bool.false_eq_true, and_self, and_false, false_and, true_and, and_true, not_true_eq_false, not_false_eq_true, c1, hk, g2, t1, g1, q1]
          · rw [if_neg q3] at t1
            simp (maxSteps := 500000) (disch := first | assumption | omega) only [f_X5_rebuiltIntoSpares_L5, f_X5_rebuiltIntoSpares_J38, f_X5_rebuiltIntoSpares_J69, f_X5_rebuiltIntoSpares_J70, q_l0, q_l1, q_l2, q_l3, q_l4, q_l5, q_l6, q_l7, q_l8, q_l9, q_l10, q_l11, q_l12, q_l13, q_l14, q_l15, q_l16, q_l20, q_l21, q_l22, q_l24, q_l25, q_l26, q_l27, q_l28, q_l29, q_l30, q_l31, q_l32, q_l40, q_l48, q_l57, q_l80, q_l97, q_l100, q_l120, q_l122, q_l126, q_l160, q_l200, q_l214, q_l255, q_l256, q_l374, q_l400, q_l999, q_l1000, q_l9999, q_l99, q_l99999, q_nm, q_gd, q_gd2, q_ix, q_lt, q_eq, q_m5a, q_m5b, q_m40b, q_m8a, q_m8b, q_m16b, q_m374b, q_m160b, q_m10a, q_div5, q_rem5, nI_add, q_moe, q_moe2, q_mol, q_mol2, q_mor, q_bd2, q_bd1, q_stI, q_oI0, if_true, if_false, ite_true, ite_false, ↓reduceIte, Nat.lt_irrefl, Nat.not_lt_zero, Nat.add_zero, Nat.zero_add, Nat.reduceEqDiff, Nat.reduceLeDiff, Nat.reduceLT, Nat.reduceAdd, Bool.false_eq_true, and_self, and_false, false_and, true_and, and_true, not_true_eq_false, not_false_eq_true, c1, hk, g2, t1, g1, q1]
      rcases done with ⟨e, hn⟩ | ⟨e, hy⟩
      · obtain ⟨y2, f1, f2⟩ := ih (k + 1) j3 y1 (by omega) (by omega) (skip hn)
        exact ⟨y2, by rw [e]; exact f1, f2⟩
      · obtain ⟨y2, f1, f2⟩ := ih (k + 1) j3 _ (by omega) (by omega) (fun i hi => by
          rw [bl_set h3 (show k < 64 by omega) i hi]
          dsimp only
          unfold tq
          by_cases e : i = k
          · subst e
            rw [if_pos rfl, decide_eq_true ⟨by omega, hy⟩]
          · rw [if_neg e]
            by_cases e2 : i < k ∧ twP Λ S d i
            · rw [decide_eq_true e2, decide_eq_true ⟨by omega, e2.2⟩]
            · rw [decide_eq_false e2, decide_eq_false (fun h => e2 ⟨by omega, h.2⟩)])
        exact ⟨y2, by rw [e]; exact f1, f2⟩
  obtain ⟨y2, f1, f2⟩ := key (yS Λ) 0 FU 0 (by omega) (by show _ < 4096; omega) (fun i hi => by
    rw [bl_0 i hi]
    unfold tq
    rw [decide_eq_false (fun h => by omega)])
  exact ⟨y2, f1, f2⟩
end Ti2
