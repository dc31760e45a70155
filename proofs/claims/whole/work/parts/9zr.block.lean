/-! MATH HALF: lines of an array, blocks -/
def sbM (M : Nat → Nat) : Nat → Nat
  | 0 => 0
  | n + 1 => sbM M n ||| 2 ^ M n
def frBC (u B : Nat) (m m2 : Mm) : Prop := m2.2 = m.2 ∧ ∀ b i, ¬ (b = 1 ∧ 2 ≤ i ∧ i ≤ 6) → ¬ (b = u ∧ i = 2) → ¬ ((b = u + 1 ∨ b = u + 2) ∧ i = B) → ¬ (b = u + 3 ∧ 5 * B ≤ i) → m2.1 b i = m.1 b i
def frBR (B : Nat) (m m2 : Mm) : Prop := (∀ b i, ¬ (b = 78 ∧ i = 7) → m2.2 b i = m.2 b i) ∧ ∀ b i, ¬ (b = 78 ∧ 4 ≤ i ∧ i ≤ 9) → ¬ (b = 80 ∧ i = 4) → ¬ ((b = 81 ∨ b = 82) ∧ i = 6 + B) → ¬ (b = 83 ∧ 30 + 5 * B ≤ i) → m2.1 b i = m.1 b i
/-- in a block, s of its disks read -/
def BkS (q : Tq) (u D B s : Nat) (M : Nat → Nat) (a : Nat) (mc mr : Mm) : Prop := a ≤ q.1 ∧ (CTk q a mc ∧ gI mc 1 6 = 0) ∧ RTk q a mr ∧ (gI mc u 0 = nI D ∧ gI mc u 2 = nI B ∧ gI mc (u + 2) B = nI s ∧ ∀ i, i < s → gI mc (u + 3) (5 * B + i) = nI (M i)) ∧ (gI mr 80 3 = nI D ∧ gI mr 80 4 = nI B ∧ gI mr 82 (6 + B) = nI s ∧ ∀ i, i < s → gI mr 83 (30 + (5 * B + i)) = nI (M i)) ∧ s ≤ 5 ∧ (∀ i, i < s → M i < D) ∧ ∀ i j, i < s → j < s → M i = M j → i = j
/-- the block is read: both have it -/
def BkE (q : Tq) (u D B : Nat) (T : Lv) (a : Nat) (mc mr : Mm) (oc : Option Mm) (or' : Option (Int32 × Mm)) : Prop := ∃ (s : Nat) (M : Nat → Nat) (a1 : Nat) (mc2 mr2 : Mm), a < a1 ∧ a1 ≤ q.1 ∧ oc = some mc2 ∧ or' = some (nI 1, mr2) ∧ (CTk q a1 mc2 ∧ gI mc2 1 6 = 0) ∧ RTk q a1 mr2 ∧ 2 ≤ s ∧ s ≤ 5 ∧ (∀ i, i < s → M i < D) ∧ (∀ i j, i < s → j < s → M i = M j → i = j) ∧ (gI mc2 u 2 = nI (B + 1) ∧ gI mc2 (u + 1) B = gI mc (u + 1) B ∧ gI mc2 (u + 2) B = nI s ∧ ∀ i, i < s → gI mc2 (u + 3) (5 * B + i) = nI (M i)) ∧ (gI mr2 80 4 = nI (B + 1) ∧ gI mr2 81 (6 + B) = gI mr 81 (6 + B) ∧ gI mr2 82 (6 + B) = nI s ∧ ∀ i, i < s → gI mr2 83 (30 + (5 * B + i)) = nI (M i)) ∧ cS T D (B + 1) ≤ 40 ∧ frBC u B mc mc2 ∧ frBR B mr mr2
def BkF (u B : Nat) (mc mr : Mm) (oc : Option Mm) (or' : Option (Int32 × Mm)) : Prop := ∃ F mc2 mr2, 0 < F ∧ F < 100000 ∧ oc = some mc2 ∧ gI mc2 1 6 = nI F ∧ frBC u B mc mc2 ∧ or' = some (nI 0, mr2) ∧ gI mr2 78 9 = nI F ∧ frBR B mr mr2
section Block
variable {q : Tq} {a b c d e i j k n s u x sp D B : Nat} {m m2 m3 mc mr : Mm} {y z v : Int32} {v2 : Nat} {p f : List Int32} {T : Lv} {M : Nat → Nat} {oc : Option Mm} {or' : Option (Int32 × Mm)}
theorem frBC_r : frBC u B m m := ⟨rfl, fun _ _ _ _ _ _ => rfl⟩
theorem frBC_t (h1 : frBC u B m m2) (h2 : frBC u B m2 m3) : frBC u B m m3 := ⟨h2.1.trans h1.1, fun b i k1 k2 k3 k4 => (h2.2 b i k1 k2 k3 k4).trans (h1.2 b i k1 k2 k3 k4)⟩
theorem frBC_m (h1 : frBC u B m m2) (h2 : mvC m2 m3) : frBC u B m m3 := ⟨h2.1.trans h1.1, fun b i k1 k2 k3 k4 => (h2.2 b i (by omega)).trans (h1.2 b i k1 k2 k3 k4)⟩
theorem frBC_s (h1 : frBC u B m m2) (h : (b = 1 ∧ i = 6) ∨ (b = u ∧ i = 2) ∨ ((b = u + 1 ∨ b = u + 2) ∧ i = B) ∨ (b = u + 3 ∧ 5 * B ≤ i)) : frBC u B m (sI m2 b i y) := ⟨h1.1, fun b2 i2 k1 k2 k3 k4 => by
  simp only [sI]
  rw [if_neg (by omega)]
  exact h1.2 b2 i2 k1 k2 k3 k4⟩
theorem frBR_r : frBR B m m := ⟨fun _ _ _ => rfl, fun _ _ _ _ _ _ => rfl⟩
theorem frBR_t (h1 : frBR B m m2) (h2 : frBR B m2 m3) : frBR B m m3 := ⟨fun b i k => (h2.1 b i k).trans (h1.1 b i k), fun b i k1 k2 k3 k4 => (h2.2 b i k1 k2 k3 k4).trans (h1.2 b i k1 k2 k3 k4)⟩
theorem frBR_m (h1 : frBR B m m2) (h2 : mvR m2 m3) : frBR B m m3 := ⟨fun b i k => (h2.1 b i k).trans (h1.1 b i k), fun b i k1 k2 k3 k4 => (h2.2 b i (by omega)).trans (h1.2 b i k1 k2 k3 k4)⟩
theorem frBR_s (h1 : frBR B m m2) (h : (b = 78 ∧ 4 ≤ i ∧ i ≤ 9) ∨ (b = 80 ∧ i = 4) ∨ ((b = 81 ∨ b = 82) ∧ i = 6 + B) ∨ (b = 83 ∧ 30 + 5 * B ≤ i)) : frBR B m (sI m2 b i y) := ⟨h1.1, fun b2 i2 k1 k2 k3 k4 => by
  simp only [sI]
  rw [if_neg (by omega)]
  exact h1.2 b2 i2 k1 k2 k3 k4⟩
theorem sbM_bit : ∀ n, (sbM M n).testBit d = true ↔ ∃ i, i < n ∧ M i = d
  | 0 => by
    simp [sbM]
  | n + 1 => by
    have ih := sbM_bit n
    unfold sbM
    rw [Nat.testBit_or, Nat.testBit_two_pow, Bool.or_eq_true, ih, decide_eq_true_eq]
    constructor
    · rintro (⟨i, h1, h2⟩ | h)
      · exact ⟨i, by omega, h2⟩
      · exact ⟨n, by omega, h⟩
    · rintro ⟨i, h1, h2⟩
      by_cases e : i = n
      · right; rw [← e]; exact h2
      · left; exact ⟨i, by omega, h2⟩
theorem sbM_lt : ∀ n, (∀ i, i < n → M i < 13) → sbM M n < 2 ^ 13
  | 0, _ => Nat.two_pow_pos _
  | n + 1, h => by
    have ih := sbM_lt n (fun i hi => h i (by omega))
    unfold sbM
    exact Nat.or_lt_two_pow ih (Nat.pow_lt_pow_right (by decide) (h n (by omega)))
theorem c_bits2 (hB : B < 6) (hz : gI m (u + 2) B = nI s) (hs : s ≤ 5) (hM : ∀ i, i < s → gI m (u + 3) (5 * B + i) = nI (M i)) (h13 : ∀ i, i < s → M i < 13) : f_X8_bitsOf u (nI B) m = some (nI (sbM M s), m) := by
  refine lp0 (fun j k => f_X8_bitsOf_L4 u j (nI B) (nI (sbM M k)) (nI k) m) s _ (fun j => ?_) (fun j k hk => ?_) (by omega)
  · simp (maxSteps := 500000) (disch := first | assumption | omega) only [f_X8_bitsOf_L4, q_l0, q_l1, q_l2, q_l3, q_l4, q_l5, q_l6, q_l7, q_l8, q_l9, q_l10, q_l11, q_l12, q_l13, q_l14, q_l15, q_l16, q_l20, q_l21, q_l22, q_l24, q_l25, q_l26, q_l27, q_l28, q_l29, q_l30, q_l31, q_l32, q_l40, q_l48, q_l57, q_l80, q_l97, q_l100, q_l120, q_l122, q_l126, q_l160, q_l200, q_l214, q_l255, q_l256, q_l374, q_l400, q_l999, q_l1000, q_l9999, q_l99, q_l99999, q_nm, q_gd, q_gd2, q_ix, q_lt, q_eq, q_m5a, q_m5b, q_m40b, q_m8a, q_m8b, q_m16b, q_m374b, q_m160b, q_m10a, q_div5, q_rem5, nI_add, q_moe, q_moe2, q_mol, q_mol2, q_mor, q_bd2, q_bd1, q_stI, q_oI0, if_true, if_false, ite_true, ite_false, ↓reduceIte, Nat.lt_irrefl, Nat.not_lt_zero, Nat.add_zero, Nat.zero_add, Nat.reduceEqDiff, Nat.reduceLeDiff, Nat.reduceLT, Nat.reduceAdd, Bool.false_eq_true, and_self, and_false, false_and, true_and, and_true, not_true_eq_false, not_false_eq_true, hz]
  · have hm := h13 k hk
    simp (maxSteps := 500000) (disch := first | assumption | omega) only [f_X8_bitsOf_L4, q_l0, q_l1, q_l2, q_l3, q_l4, q_l5, q_l6, q_l7, q_l8, q_l9, q_l10, q_l11, q_l12, q_l13, q_l14, q_l15, q_l16, q_l20, q_l21, q_l22, q_l24, q_l25, q_l26, q_l27, q_l28, q_l29, q_l30, q_l31, q_l32, q_l40, q_l48, q_l57, q_l80, q_l97, q_l100, q_l120, q_l122, q_l126, q_l160, q_l200, q_l214, q_l255, q_l256, q_l374, q_l400, q_l999, q_l1000, q_l9999, q_l99, q_l99999, q_nm, q_gd, q_gd2, q_ix, q_lt, q_eq, q_m5a, q_m5b, q_m40b, q_m8a, q_m8b, q_m16b, q_m374b, q_m160b, q_m10a, q_div5, q_rem5, nI_add, q_moe, q_moe2, q_mol, q_mol2, q_mor, q_bd2, q_bd1, q_stI, q_oI0, if_true, if_false, ite_true, ite_false, ↓reduceIte, Nat.lt_irrefl, Nat.not_lt_zero, Nat.add_zero, Nat.zero_add, Nat.reduceEqDiff, Nat.reduceLeDiff, Nat.reduceLT, Nat.reduceAdd, Bool.false_eq_true, and_self, and_false, false_and, true_and, and_true, not_true_eq_false, not_false_eq_true, hz, hk, hM k hk, q_shl, q_or, sbM]
theorem c_sAll2 (hn : n ≤ 6) (hk : ∀ b, b < n → gI m (u + 1) b = nI (tK T b) ∧ tK T b ≤ 3) (hD : D ≤ 13) : f_X8_stripesOfAll u (nI n) (nI D) m = some (nI (cS T D n), m) := by
  unfold f_X8_stripesOfAll
  rw [q_l0]
  refine lp0 (fun j b => f_X8_stripesOfAll_L5 u j (nI n) (nI D) (nI (cS T D b)) (nI b) m) n _ (fun j => ?_) (fun j b hb => ?_) (by omega)
  · simp (maxSteps := 500000) (disch := first | assumption | omega) only [f_X8_stripesOfAll_L5, q_l0, q_l1, q_l2, q_l3, q_l4, q_l5, q_l6, q_l7, q_l8, q_l9, q_l10, q_l11, q_l12, q_l13, q_l14, q_l15, q_l16, q_l20, q_l21, q_l22, q_l24, q_l25, q_l26, q_l27, q_l28, q_l29, q_l30, q_l31, q_l32, q_l40, q_l48, q_l57, q_l80, q_l97, q_l100, q_l120, q_l122, q_l126, q_l160, q_l200, q_l214, q_l255, q_l256, q_l374, q_l400, q_l999, q_l1000, q_l9999, q_l99, q_l99999, q_nm, q_gd, q_gd2, q_ix, q_lt, q_eq, q_m5a, q_m5b, q_m40b, q_m8a, q_m8b, q_m16b, q_m374b, q_m160b, q_m10a, q_div5, q_rem5, nI_add, q_moe, q_moe2, q_mol, q_mol2, q_mor, q_bd2, q_bd1, q_stI, q_oI0, if_true, if_false, ite_true, ite_false, ↓reduceIte, Nat.lt_irrefl, Nat.not_lt_zero, Nat.add_zero, Nat.zero_add, Nat.reduceEqDiff, Nat.reduceLeDiff, Nat.reduceLT, Nat.reduceAdd, Bool.false_eq_true, and_self, and_false, false_and, true_and, and_true, not_true_eq_false, not_false_eq_true]
  · have e : f_X8_stripesOf u (nI b) (nI D) m = some (nI (sN T D b), m) := by
      obtain ⟨c1, h5⟩ := hk b hb
      unfold f_X8_stripesOf sN
      by_cases k0 : tK T b = 0
      · simp (maxSteps := 500000) (disch := first | assumption | omega) only [q_l0, q_l1, q_l2, q_l3, q_l4, q_l5, q_l6, q_l7, q_l8, q_l9, q_l10, q_l11, q_l12, q_l13, q_l14, q_l15, q_l16, q_l20, q_l21, q_l22, q_l24, q_l25, q_l26, q_l27, q_l28, q_l29, q_l30, q_l31, q_l32, q_l40, q_l48, q_l57, q_l80, q_l97, q_l100, q_l120, q_l122, q_l126, q_l160, q_l200, q_l214, q_l255, q_l256, q_l374, q_l400, q_l999, q_l1000, q_l9999, q_l99, q_l99999, q_nm, q_gd, q_gd2, q_ix, q_lt, q_eq, q_m5a, q_m5b, q_m40b, q_m8a, q_m8b, q_m16b, q_m374b, q_m160b, q_m10a, q_div5, q_rem5, nI_add, q_moe, q_moe2, q_mol, q_mol2, q_mor, q_bd2, q_bd1, q_stI, q_oI0, if_true, if_false, ite_true, ite_false, ↓reduceIte, Nat.lt_irrefl, Nat.not_lt_zero, Nat.add_zero, Nat.zero_add, Nat.reduceEqDiff, Nat.reduceLeDiff, Nat.reduceLT, Nat.reduceAdd, Bool.false_eq_true, and_self, and_false, false_and, true_and, and_true, not_true_eq_false, not_false_eq_true, c1, k0]
      · by_cases k1 : tK T b = 1
        · simp (maxSteps := 500000) (disch := first | assumption | omega) only [q_l0, q_l1, q_l2, q_l3, q_l4, q_l5, q_l6, q_l7, q_l8, q_l9, q_l10, q_l11, q_l12, q_l13, q_l14, q_l15, q_l16, q_l20, q_l21, q_l22, q_l24, q_l25, q_l26, q_l27, q_l28, q_l29, q_l30, q_l31, q_l32, q_l40, q_l48, q_l57, q_l80, q_l97, q_l100, q_l120, q_l122, q_l126, q_l160, q_l200, q_l214, q_l255, q_l256, q_l374, q_l400, q_l999, q_l1000, q_l9999, q_l99, q_l99999, q_nm, q_gd, q_gd2, q_ix, q_lt, q_eq, q_m5a, q_m5b, q_m40b, q_m8a, q_m8b, q_m16b, q_m374b, q_m160b, q_m10a, q_div5, q_rem5, nI_add, q_moe, q_moe2, q_mol, q_mol2, q_mor, q_bd2, q_bd1, q_stI, q_oI0, if_true, if_false, ite_true, ite_false, ↓reduceIte, Nat.lt_irrefl, Nat.not_lt_zero, Nat.add_zero, Nat.zero_add, Nat.reduceEqDiff, Nat.reduceLeDiff, Nat.reduceLT, Nat.reduceAdd, Bool.false_eq_true, and_self, and_false, false_and, true_and, and_true, not_true_eq_false, not_false_eq_true, c1, k1]
        · simp (maxSteps := 500000) (disch := first | assumption | omega) only [q_l0, q_l1, q_l2, q_l3, q_l4, q_l5, q_l6, q_l7, q_l8, q_l9, q_l10, q_l11, q_l12, q_l13, q_l14, q_l15, q_l16, q_l20, q_l21, q_l22, q_l24, q_l25, q_l26, q_l27, q_l28, q_l29, q_l30, q_l31, q_l32, q_l40, q_l48, q_l57, q_l80, q_l97, q_l100, q_l120, q_l122, q_l126, q_l160, q_l200, q_l214, q_l255, q_l256, q_l374, q_l400, q_l999, q_l1000, q_l9999, q_l99, q_l99999, q_nm, q_gd, q_gd2, q_ix, q_lt, q_eq, q_m5a, q_m5b, q_m40b, q_m8a, q_m8b, q_m16b, q_m374b, q_m160b, q_m10a, q_div5, q_rem5, nI_add, q_moe, q_moe2, q_mol, q_mol2, q_mor, q_bd2, q_bd1, q_stI, q_oI0, if_true, if_false, ite_true, ite_false, ↓reduceIte, Nat.lt_irrefl, Nat.not_lt_zero, Nat.add_zero, Nat.zero_add, Nat.reduceEqDiff, Nat.reduceLeDiff, Nat.reduceLT, Nat.reduceAdd, Bool.false_eq_true, and_self, and_false, false_and, true_and, and_true, not_true_eq_false, not_false_eq_true, c1, k0, k1]
    simp (maxSteps := 500000) (disch := first | assumption | omega) only [f_X8_stripesOfAll_L5, q_l0, q_l1, q_l2, q_l3, q_l4, q_l5, q_l6, q_l7, q_l8, q_l9, q_l10, q_l11, q_l12, q_l13, q_l14, q_l15, q_l16, q_l20, q_l21, q_l22, q_l24, q_l25, q_l26, q_l27, q_l28, q_l29, q_l30, q_l31, q_l32, q_l40, q_l48, q_l57, q_l80, q_l97, q_l100, q_l120, q_l122, q_l126, q_l160, q_l200, q_l214, q_l255, q_l256, q_l374, q_l400, q_l999, q_l1000, q_l9999, q_l99, q_l99999, q_nm, q_gd, q_gd2, q_ix, q_lt, q_eq, q_m5a, q_m5b, q_m40b, q_m8a, q_m8b, q_m16b, q_m374b, q_m160b, q_m10a, q_div5, q_rem5, nI_add, q_moe, q_moe2, q_mol, q_mol2, q_mor, q_bd2, q_bd1, q_stI, q_oI0, if_true, if_false, ite_true, ite_false, ↓reduceIte, Nat.lt_irrefl, Nat.not_lt_zero, Nat.add_zero, Nat.zero_add, Nat.reduceEqDiff, Nat.reduceLeDiff, Nat.reduceLT, Nat.reduceAdd, Bool.false_eq_true, and_self, and_false, false_and, true_and, and_true, not_true_eq_false, not_false_eq_true, hb, e]
    rfl
theorem r_sAll2 (hn : n ≤ 6) (h80 : gI m 80 4 = nI n) (hk : ∀ b, b < n → gI m 81 (6 + b) = nI (tK T b) ∧ tK T b ≤ 3) (hD : D ≤ 13) : f_X11_allStripes (nI 1) (nI D) m = some (nI (cS T D n), m) := by
  have e6 : nI 6 * nI 1 = nI 6 := by decide
  have e3 : nI 3 * nI 1 + nI 1 = nI 4 := by decide
  unfold f_X11_allStripes
  rw [q_l6, e6, q_l0]
  refine lp0 (fun j b => f_X11_allStripes_L8 j (nI 1) (nI D) (nI (cS T D b)) (nI (6 + b)) m) n _ (fun j => ?_) (fun j b hb => ?_) (by omega)
  · simp (maxSteps := 500000) (disch := first | assumption | omega) only [f_X11_allStripes_L8, q_l0, q_l1, q_l2, q_l3, q_l4, q_l5, q_l6, q_l7, q_l8, q_l9, q_l10, q_l11, q_l12, q_l13, q_l14, q_l15, q_l16, q_l20, q_l21, q_l22, q_l24, q_l25, q_l26, q_l27, q_l28, q_l29, q_l30, q_l31, q_l32, q_l40, q_l48, q_l57, q_l80, q_l97, q_l100, q_l120, q_l122, q_l126, q_l160, q_l200, q_l214, q_l255, q_l256, q_l374, q_l400, q_l999, q_l1000, q_l9999, q_l99, q_l99999, q_nm, q_gd, q_gd2, q_ix, q_lt, q_eq, q_m5a, q_m5b, q_m40b, q_m8a, q_m8b, q_m16b, q_m374b, q_m160b, q_m10a, q_div5, q_rem5, nI_add, q_moe, q_moe2, q_mol, q_mol2, q_mor, q_bd2, q_bd1, q_stI, q_oI0, if_true, if_false, ite_true, ite_false, ↓reduceIte, Nat.lt_irrefl, Nat.not_lt_zero, Nat.add_zero, Nat.zero_add, Nat.reduceEqDiff, Nat.reduceLeDiff, Nat.reduceLT, Nat.reduceAdd, Bool.false_eq_true, and_self, and_false, false_and, true_and, and_true, not_true_eq_false, not_false_eq_true, e3, e6, h80]
  · obtain ⟨r81, h5⟩ := hk b hb
    have es := r_sOf (T := T) (b := b) (nd := D) (m := m) (k := tK T b) (by omega) (by omega) rfl
    have e : f_X11_stripesOf (nI (tK T b)) (nI D) m = some (nI (sN T D b), m) := es
    have l1 : nI (6 + b) < nI 6 + nI n := by rw [nI_add]; exact (q_ltp (by omega) (by omega)).mpr (by omega)
    have ix4 : ix (nI 4) = 4 := rfl
    rw [f_X11_allStripes_L8, q_l3, q_l1, e3, q_gd (by omega) (by omega), q_l6, e6, ix4, h80, if_pos l1, q_gd (by omega) (by omega), q_ix (by omega), r81, e, q_bd2, nI_add, nI_add]
    rfl
theorem cS_le2 (hD : D ≤ 13) : ∀ n, cS T D n ≤ 13 * n
  | 0 => Nat.zero_le _
  | n + 1 => by
    have ih := cS_le2 hD n
    have h : sN T D n ≤ 13 := by
      unfold sN
      split
      · omega
      · split <;> omega
    show cS T D n + sN T D n ≤ _
    omega
theorem r_wit : f_X11_within (nI v2) (0 : Int32) (nI D - (1 : Int32)) m = some (nI (if v2 < D then 1 else 0), m) ∨ 2147483648 ≤ v2 ∨ 2147483648 ≤ D := by
  rcases Nat.lt_or_ge v2 2147483648 with hv | hv
  · rcases Nat.lt_or_ge D 2147483648 with hD | hD
    · left
      unfold f_X11_within
      rw [if_neg (nI_pos (by show _ < 2147483648; omega)), q_l1]
      by_cases h0 : D = 0
      · subst h0
        have e : nI 0 - nI 1 = mo := by decide
        rw [e, if_pos (by rw [q_mol hv]; trivial), if_neg (by omega)]; rfl
      · rw [q_sub1 (by omega)]
        by_cases h : v2 < D
        · rw [if_neg (fun e => absurd ((q_ltp (by omega) (by omega)).mp e) (by omega)), if_pos h]
        · rw [if_pos ((q_ltp (by omega) (by omega)).mpr (by omega)), if_neg h]; rfl
    · exact Or.inr (Or.inr hD)
  · exact Or.inr (Or.inl hv)
theorem r_isIn2 (hs : s < 2147483648) (hd : d < 32) : f_X11_isIn (nI s) (nI d) m = some (nI (if s.testBit d = true then 1 else 0), m) := by
  have e := q_tb hs hd
  unfold f_X11_isIn
  rw [q_l31, q_l1, e]
  by_cases h : s.testBit d = true
  · rw [if_pos h, if_pos rfl]
  · rw [if_neg h, if_neg (by decide)]; rfl
theorem cb_no (h : ¬ gI m 1 6 = 0) : f_X0_closeBlock u m = some m := by
  unfold f_X0_closeBlock
  rw [if_neg h]
theorem l88_no (h : ¬ gI m 1 6 = 0) : f_X0_blockLine_L88 u (k + 1) v m = some m := by
  rw [f_X0_blockLine_L88, if_neg h, cb_no h, q_bd1]
  split <;> rfl
theorem BkF_t (h1 : frBC u B m mc) (h2 : frBR B m2 mr) (h : BkF u B mc mr oc or') : BkF u B m m2 oc or' := by
  obtain ⟨F, mc2, mr2, b1, b2, b3, b4, b5, b6, b7, b8⟩ := h
  exact ⟨F, mc2, mr2, b1, b2, b3, b4, frBC_t h1 b5, b6, b7, frBR_t h2 b8⟩
theorem BkE_t (h1 : frBC u B m mc) (h2 : frBR B m2 mr) (k1 : gI mc (u + 1) B = gI m (u + 1) B) (k2 : gI mr 81 (6 + B) = gI m2 81 (6 + B)) (ha : a ≤ b) (h : BkE q u D B T b mc mr oc or') : BkE q u D B T a m m2 oc or' := by
  obtain ⟨s, M, a1, mc2, mr2, b1, b2, b3, b4, b5, b6, b7, b8, b9, b10, ⟨c1, c2, c3, c4⟩, ⟨d1, d2, d3, d4⟩, b13, b14, b15⟩ := h
  exact ⟨s, M, a1, mc2, mr2, by omega, b2, b3, b4, b5, b6, b7, b8, b9, b10, ⟨c1, c2.trans k1, c3, c4⟩, ⟨d1, d2.trans k2, d3, d4⟩, b13, frBC_t h1 b14, frBR_t h2 b15⟩
theorem sbM_cg {M2 : Nat → Nat} : ∀ n, (∀ i, i < n → M i = M2 i) → sbM M n = sbM M2 n
  | 0, _ => rfl
  | n + 1, h => by
    show sbM M n ||| 2 ^ M n = sbM M2 n ||| 2 ^ M2 n
    rw [sbM_cg n (fun i hi => h i (by omega)), h n (by omega)]
/-- a fault in a block -/
theorem bk_now {v1 : Nat} (hq : TW q) (ha : a ≤ q.1) (h : CTk q a m) (h0 : gI m 1 6 = 0) (hR : RTk q a m2) (h1 : 1 ≤ v1) (h2 : v1 ≤ 5) (hf : frBC u B mc m) (hf2 : frBR B mr m2) : ∃ F mc2 mr2, 0 < F ∧ F < 100000 ∧ f_X7_fail (nI v1) m = some mc2 ∧ gI mc2 1 6 = nI F ∧ frBC u B mc mc2 ∧ f_X11_fails (nI v1) m2 = some (nI 0, mr2) ∧ gI mr2 78 9 = nI F ∧ frBR B mr mr2 := by
  have hq1 := hq.1
  exact ⟨v1 + 16 * a, _, _, by omega, by omega, c_fail h h0, g_eq, frBC_s hf (by omega), r_fails hR, g_eq, frBR_s hf2 (by omega)⟩
theorem blkL (hu : u = 3 ∨ u = 10) (hq : TW q) (hB6 : B < 6) (hD : D ≤ 13) (hK : ∀ b, b ≤ B → tK T b ≤ 3) : ∀ (w s : Nat) (M : Nat → Nat) (a : Nat) (mc mr : Mm) (fu fv : Nat), 6 - s ≤ w → w < fu → w < fv → BkS q u D B s M a mc mr → (∀ b, b ≤ B → gI mc (u + 1) b = nI (tK T b)) → (∀ b, b ≤ B → gI mr 81 (6 + b) = nI (tK T b)) → BkF u B mc mr (f_X0_blockLine_L88 u fu (nI s) mc) (f_X11_readsBlock_L117 fv (nI (6 + B)) (nI (sbM M s)) mr) ∨ BkE q u D B T a mc mr (f_X0_blockLine_L88 u fu (nI s) mc) (f_X11_readsBlock_L117 fv (nI (6 + B)) (nI (sbM M s)) mr) := by
  intro w
  induction w with
  | zero =>
    intro s M a mc mr fu fv h1 h2 h3 h4
    have := h4.2.2.2.2.2.1
    omega
  | succ w ih =>
    intro s M a mc mr fu fv hw hfu hfv hS hKc hKr
    obtain ⟨ha, ⟨hc, h0⟩, hr, ⟨c0, c2, cs, cm⟩, ⟨r0, r2, rs, rm⟩, hs5, hMD, hMi⟩ := hS
    obtain ⟨fu', rfl⟩ : ∃ x, fu = x + 1 := ⟨fu - 1, by omega⟩
    obtain ⟨fv', rfl⟩ : ∃ x, fv = x + 1 := ⟨fv - 1, by omega⟩
    have hq1 := hq.1
    have hC := tkC_le (q := q) (a := a)
    have hK2 := kr_le hC
    have hv := tkV_lt (q := q) (a := a)
    have h13 : ∀ i, i < s → M i < 13 := fun i hi => Nat.lt_of_lt_of_le (hMD i hi) hD
    have hsb := sbM_lt s h13
    have i3 : ix (3 : Int32) = 3 := rfl
    have i4 : ix (4 : Int32) = 4 := rfl
    have n5 : ¬ (5 : Int32) < nI s := fun e => absurd ((q_ltp (a := 5) (by omega) (by omega)).mp e) (by omega)
    rw [f_X0_blockLine_L88, if_neg n5, if_pos h0, f_X11_readsBlock_L117, q_gd (by omega) (by omega), q_ix (by omega), rs]
    by_cases k3 : tkC q a = 3
    · have e3 : gI mc 1 2 = (3 : Int32) := by rw [hc.2.1, k3]; rfl
      have e2 : gI mr 78 6 = (2 : Int32) := by rw [hr.2.2.2.1, (kr_2 hC).mpr k3]; rfl
      have cv := hc.2.2.2.2
      have rv := hr.2.2.2.2.2 k3
      have hin := tkC_in (q := q) (a := a) (by omega)
      have hnx := nxT_lt (q := q) (a := a) (by omega)
      have hnl := nxT_le ha
      have wit : f_X11_within (nI (tkV q a)) (0 : Int32) (nI D - (1 : Int32)) mr = some (nI (if tkV q a < D then 1 else 0), mr) := by
        rcases r_wit (v2 := tkV q a) (D := D) (m := mr) with h | h | h
        · exact h
        · omega
        · omega
      rw [if_pos e3, if_pos e2]
      -- the reference goes one way
      have eJ : (if nI s < (2 : Int32) then f_X11_readsBlock_J135 (fun w1 w2 m => f_X11_readsBlock_L117 fv' w1 w2 m) (nI (6 + B)) (nI (sbM M s)) mr else f_X11_readsBlock_J135 (fun w1 w2 m => f_X11_readsBlock_L117 fv' w1 w2 m) (nI (6 + B)) (nI (sbM M s)) mr) = f_X11_readsBlock_J135 (fun w1 w2 m => f_X11_readsBlock_L117 fv' w1 w2 m) (nI (6 + B)) (nI (sbM M s)) mr := by
        split <;> rfl
      rw [eJ]
      unfold f_X11_readsBlock_J135 f_X0_blockDisk
      rw [if_pos e2, i3, r0, rv, wit, q_bd2, c2, q_gd (by omega) (by omega), cv, c0, q_ix (by omega), cs]
      by_cases hvD : tkV q a < D
      · have etb := q_tb (s := sbM M s) (d := tkV q a) (by omega) (by omega)
        have eIn := r_isIn2 (m := mr) (s := sbM M s) (d := tkV q a) (by omega) (by omega)
        rw [if_pos ((q_ltp (by omega) (by omega)).mpr hvD), if_pos hvD, if_neg (by decide), c_bits2 hB6 cs hs5 cm h13, q_bd2, cv, q_l31, q_l1, etb, rv, eIn, q_bd2]
        by_cases hbit : (sbM M s).testBit (tkV q a) = true
        · left
          rw [if_pos hbit, if_neg (by decide), if_neg (by decide), bd1_id, q_l3, fails_gd hr]
          obtain ⟨F, mc2, mr2, b1, b2, b3, b4, b5, b6, b7, b8⟩ := bk_now (v1 := 3) hq ha hc h0 hr (by omega) (by omega) (frBC_r (u := u) (B := B)) (frBR_r (B := B))
          obtain ⟨fu2, rfl⟩ : ∃ x, fu' = x + 1 := ⟨fu' - 1, by omega⟩
          rw [b3, b6, q_bd1, l88_no (F_nz b1 b2 b4)]
          exact ⟨F, mc2, mr2, b1, b2, rfl, b4, b5, rfl, b7, b8⟩
        · rw [if_neg hbit, if_pos (show nI 0 = (0 : Int32) from rfl), if_pos (show nI 0 = (0 : Int32) from rfl)]
          unfold f_X11_readsBlock_J185
          rw [i3, r0, rv, ← q_l1, wit, if_pos hvD, q_bd2, if_neg (show ¬ nI 1 = (0 : Int32) by decide), q_gd (by omega) (by omega), q_ix (by omega), rs]
          by_cases hs : s = 5
          · left
            rw [hs, if_neg (by decide), if_pos (by rfl), bd1_id, q_l5, fails_gd hr]
            obtain ⟨F, mc2, mr2, b1, b2, b3, b4, b5, b6, b7, b8⟩ := bk_now (v1 := 5) hq ha hc h0 hr (by omega) (by omega) (frBC_r (u := u) (B := B)) (frBR_r (B := B))
            obtain ⟨fu2, rfl⟩ : ∃ x, fu' = x + 1 := ⟨fu' - 1, by omega⟩
            rw [b3, b6, q_bd1, l88_no (F_nz b1 b2 b4)]
            exact ⟨F, mc2, mr2, b1, b2, rfl, b4, b5, rfl, b7, b8⟩
          · have e5 : nI B * (5 : Int32) + nI s = nI (5 * B + s) := by rw [q_l5, q_m5a, nI_add]
            have e6 : (5 : Int32) * nI (6 + B) + nI s = nI (30 + (5 * B + s)) := by rw [q_l5, q_m5b, nI_add, show 5 * (6 + B) + s = 30 + (5 * B + s) from by omega]
            have hc2 : CTk q a (sI (sI mc (u + 3) (5 * B + s) (nI (tkV q a))) (u + 2) B (nI (s + 1))) := CTk_s (CTk_s hc (by omega)) (by omega)
            have hr2 : RTk q a (sI (sI mr 83 (30 + (5 * B + s)) (nI (tkV q a))) 82 (6 + B) (nI (s + 1))) := RTk_s (RTk_s hr (by omega)) (by omega)
            obtain ⟨mc2, d1, d2, d3⟩ := c_adv2 hc2 hq ha
            obtain ⟨mr2, t1, t2, t3⟩ := r_next2 hr2 hq ha
            have fc : frBC u B mc mc2 := frBC_m (frBC_s (frBC_s frBC_r (by omega)) (by omega)) d3
            have fr' : frBR B mr mr2 := frBR_m (frBR_s (frBR_s frBR_r (by omega)) (by omega)) t3
            have gc : ∀ b i, ¬ (b = 1 ∧ 2 ≤ i ∧ i ≤ 5) → ¬ (b = u + 2 ∧ i = B) → ¬ (b = u + 3 ∧ i = 5 * B + s) → gI mc2 b i = gI mc b i := fun b i k1 k2 k3 => by
              rw [mc_g d3 (by omega), g_ne (by omega), g_ne (by omega)]
            have gr : ∀ b i, ¬ (b = 78 ∧ (i = 4 ∨ i = 5 ∨ i = 6 ∨ i = 8)) → ¬ (b = 82 ∧ i = 6 + B) → ¬ (b = 83 ∧ i = 30 + (5 * B + s)) → gI mr2 b i = gI mr b i := fun b i k1 k2 k3 => by
              rw [mv_g t3 (by omega), g_ne (by omega), g_ne (by omega)]
            obtain ⟨M2, hM2s, hM2⟩ : ∃ M2 : Nat → Nat, M2 s = tkV q a ∧ ∀ i, i ≠ s → M2 i = M i := ⟨fun i => if i = s then tkV q a else M i, if_pos rfl, fun i h => if_neg h⟩
            have es : sbM M2 (s + 1) = sbM M s ||| 2 ^ tkV q a := by
              show sbM M2 s ||| 2 ^ M2 s = _
              rw [hM2s, sbM_cg s (fun i hi => hM2 i (by omega))]
            have hnb : ∀ i, i < s → M i ≠ tkV q a := fun i hi e => hbit ((sbM_bit s).mpr ⟨i, hi, e⟩)
            have hS2 : BkS q u D B (s + 1) M2 (nxT q a) mc2 mr2 := by
              refine ⟨hnl, ⟨d2, (gc _ _ (by omega) (by omega) (by omega)).trans h0⟩, t2, ⟨(gc _ _ (by omega) (by omega) (by omega)).trans c0, (gc _ _ (by omega) (by omega) (by omega)).trans c2, ?_, fun i hi => ?_⟩, ⟨(gr _ _ (by omega) (by omega) (by omega)).trans r0, (gr _ _ (by omega) (by omega) (by omega)).trans r2, ?_, fun i hi => ?_⟩, by omega, fun i hi => ?_, fun i j hi hj => ?_⟩
              · rw [mc_g d3 (by omega), g_eq]
              · by_cases e : i = s
                · rw [e, hM2s, mc_g d3 (by omega), g_ne (by omega), g_eq]
                · rw [hM2 i e, gc _ _ (by omega) (by omega) (by omega)]
                  exact cm i (by omega)
              · rw [mv_g t3 (by omega), g_eq]
              · by_cases e : i = s
                · rw [e, hM2s, mv_g t3 (by omega), g_ne (by omega), g_eq]
                · rw [hM2 i e, gr _ _ (by omega) (by omega) (by omega)]
                  exact rm i (by omega)
              · by_cases e : i = s
                · rw [e, hM2s]; exact hvD
                · rw [hM2 i e]; exact hMD i (by omega)
              · by_cases e : i = s
                · by_cases e2 : j = s
                  · intro _; rw [e, e2]
                  · rw [e, hM2s, hM2 j e2]
                    intro h; exact absurd h.symm (hnb j (by omega))
                · by_cases e2 : j = s
                  · rw [e2, hM2 i e, hM2s]
                    intro h; exact absurd h (hnb i (by omega))
                  · rw [hM2 i e, hM2 j e2]
                    exact hMi i j (by omega) (by omega)
            have hI := ih (s + 1) M2 (nxT q a) mc2 mr2 fu' fv' (by omega) (by omega) (by omega) hS2 (fun b hb => (gc _ _ (by omega) (by omega) (by omega)).trans (hKc b hb)) (fun b hb => (gr _ _ (by omega) (by omega) (by omega)).trans (hKr b hb))
            rw [es] at hI
            have g78 : gI (sI mr 83 (30 + (5 * B + s)) (nI (tkV q a))) 78 8 = nI (tkV q a) := by rw [g_ne (by omega)]; exact rv
            have g82 : gI (sI mr 83 (30 + (5 * B + s)) (nI (tkV q a))) 82 (6 + B) = nI s := by rw [g_ne (by omega)]; exact rs
            have esh := q_shl (d := tkV q a) (by omega)
            rw [if_pos (show nI s < (5 : Int32) from (q_ltp (b := 5) (by omega) (by omega)).mpr (by omega)), if_neg (show ¬ nI s = (5 : Int32) from fun e => hs ((q_eq (b := 5) (by omega) (by omega)).mp e)), e5, e6, q_gd (by omega) (by omega), q_ix (by omega), q_stI, q_gd (by omega) (by omega), q_stI, q_l1, nI_add, bd1_id, d1, q_bd1, q_gd (by omega) (by omega), q_gd (by omega) (by omega), q_ix (by omega), rv, q_stI, q_gd (by omega) (by omega), q_gd (by omega) (by omega), q_stI, g82, nI_add, t1, q_bd1, g78, q_l31, esh, q_or]
            exact hI.imp (BkF_t fc fr') (BkE_t fc fr' (gc _ _ (by omega) (by omega) (by omega)) (gr _ _ (by omega) (by omega) (by omega)) (by omega))
      · left
        rw [if_neg (fun e => hvD ((q_ltp (by omega) (by omega)).mp e)), if_neg hvD, if_pos (by rfl), bd1_id]
        unfold f_X11_readsBlock_J185
        rw [i3, r0, rv, wit, if_neg hvD, q_bd2, if_pos (by rfl), q_l4, fails_gd hr]
        obtain ⟨F, mc2, mr2, b1, b2, b3, b4, b5, b6, b7, b8⟩ := bk_now (v1 := 4) hq ha hc h0 hr (by omega) (by omega) (frBC_r (u := u) (B := B)) (frBR_r (B := B))
        obtain ⟨fu2, rfl⟩ : ∃ x, fu' = x + 1 := ⟨fu' - 1, by omega⟩
        rw [b3, b6, q_bd1, l88_no (F_nz b1 b2 b4)]
        exact ⟨F, mc2, mr2, b1, b2, rfl, b4, b5, rfl, b7, b8⟩
    · have e3 : ¬ gI mc 1 2 = (3 : Int32) := by rw [hc.2.1]; exact fun e => k3 ((q_eq (b := 3) (by omega) (by omega)).mp e)
      have e2 : ¬ gI mr 78 6 = (2 : Int32) := by rw [hr.2.2.2.1]; exact fun e => k3 ((kr_2 hC).mp ((q_eq (b := 2) (by omega) (by omega)).mp e))
      rw [if_neg e3, bd1_id, if_neg e2]
      unfold f_X0_closeBlock
      rw [if_pos h0, c2, q_gd (by omega) (by omega), q_ix (by omega), cs]
      by_cases s2 : s < 2
      · left
        have l2 : nI s < (2 : Int32) := (q_ltp (b := 2) (by omega) (by omega)).mpr s2
        rw [if_pos l2, if_pos l2, bd1_id, q_l1]
        unfold f_X11_readsBlock_J135
        rw [if_neg e2, q_l1, fails_gd hr]
        exact bk_now (v1 := 1) hq ha hc h0 hr (by omega) (by omega) frBC_r frBR_r
      · have l2 : ¬ nI s < (2 : Int32) := fun e => s2 ((q_ltp (b := 2) (by omega) (by omega)).mp e)
        have s59 : f_X7_isSign 59 mc = _ := c_sign (s := 59) hc hq ha (by omega)
        have hr2 : RTk q a (sI mr 80 4 (nI (B + 1))) := RTk_s hr (by omega)
        have t59 : f_X11_isSign 59 (sI mr 80 4 (nI (B + 1))) = _ := r_sign (s := 59) hr2 hq ha (by omega)
        have fr0 : frBR B mr (sI mr 80 4 (nI (B + 1))) := frBR_s frBR_r (by omega)
        rw [if_neg l2, if_neg l2, s59, q_bd2, i4, r2, q_l1, nI_add, q_stI, t59, q_bd2]
        by_cases hp : siP q a 59
        · have hk1 : ∀ b, b < B + 1 → gI mc (u + 1) b = nI (tK T b) ∧ tK T b ≤ 3 := fun b hb => ⟨hKc b (by omega), hK b (by omega)⟩
          have hk2 : ∀ b, b < B + 1 → gI (sI mr 80 4 (nI (B + 1))) 81 (6 + b) = nI (tK T b) ∧ tK T b ≤ 3 := fun b hb => ⟨by rw [g_ne (by omega)]; exact hKr b (by omega), hK b (by omega)⟩
          have cs2 := cS_le2 (T := T) hD (B + 1)
          have g803 : gI (sI mr 80 4 (nI (B + 1))) 80 3 = nI D := by rw [g_ne (by omega)]; exact r0
          rw [if_neg (fun e => b01.mp e hp), if_neg (fun e => b01.mp e hp), c2, c0, nI_add, c_sAll2 (T := T) (by omega) hk1 hD, q_bd2, i3, g803, r_sAll2 (T := T) (by omega) g_eq hk2 hD, q_bd2]
          by_cases h40 : 40 < cS T D (B + 1)
          · left
            have l40 : (40 : Int32) < nI (cS T D (B + 1)) := (q_ltp (a := 40) (by omega) (by omega)).mpr h40
            rw [if_pos l40, if_pos l40, bd1_id, q_l5, fails_gd hr2]
            exact bk_now (v1 := 5) hq ha hc h0 hr2 (by omega) (by omega) frBC_r fr0
          · right
            have l40 : ¬ (40 : Int32) < nI (cS T D (B + 1)) := fun e => h40 ((q_ltp (a := 40) (by omega) (by omega)).mp e)
            have hc2 : CTk q a (sI mc u 2 (nI (B + 1))) := CTk_s hc (by omega)
            obtain ⟨mc2, d1, d2, d3⟩ := c_adv2 hc2 hq ha
            obtain ⟨mr2, t1, t2, t3⟩ := r_closes hr2 hq ha hp
            have hnx := nxT_lt (q := q) (a := a) (by rw [hp.1]; decide)
            have gc : ∀ b i, ¬ (b = 1 ∧ 2 ≤ i ∧ i ≤ 5) → ¬ (b = u ∧ i = 2) → gI mc2 b i = gI mc b i := fun b i k1 k2 => by
              rw [mc_g d3 (by omega), g_ne (by omega)]
            have gr : ∀ b i, ¬ (b = 78 ∧ (i = 4 ∨ i = 5 ∨ i = 6 ∨ i = 8)) → ¬ (b = 80 ∧ i = 4) → gI mr2 b i = gI mr b i := fun b i k1 k2 => by
              rw [mv_g t3 (by omega), g_ne (by omega)]
            rw [if_neg l40, if_neg l40, c2, nI_add, q_stI, bd1_id, d1, cl_gd hr2 hq ha, t1]
            exact ⟨s, M, nxT q a, mc2, mr2, hnx, nxT_le ha, rfl, rfl, ⟨d2, (gc _ _ (by omega) (by omega)).trans h0⟩, t2, by omega, hs5, hMD, hMi, ⟨by rw [mc_g d3 (by omega), g_eq], gc _ _ (by omega) (by omega), (gc _ _ (by omega) (by omega)).trans cs, fun i hi => (gc _ _ (by omega) (by omega)).trans (cm i hi)⟩, ⟨by rw [mv_g t3 (by omega), g_eq], gr _ _ (by omega) (by omega), (gr _ _ (by omega) (by omega)).trans rs, fun i hi => (gr _ _ (by omega) (by omega)).trans (rm i hi)⟩, by omega, frBC_m (frBC_s frBC_r (by omega)) d3, frBR_m fr0 t3⟩
        · left
          rw [if_pos (b01.mpr hp), if_pos (b01.mpr hp), bd1_id, cl_gd hr2 hq ha, r_closesBad hr2 hq ha hp, c_fail hc h0]
          exact ⟨1 + 16 * a, _, _, by omega, by omega, rfl, g_eq, frBC_s frBC_r (by omega), rfl, g_eq, frBR_s fr0 (by omega)⟩
end Block
