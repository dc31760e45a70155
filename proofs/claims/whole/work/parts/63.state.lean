/-! MATH HALF: what is asked of a state, in the class and in the reference -/
/-- the disk on which a unit is now -/
def dnow (Λ : Lv) (S : Sv) (x : Nat) : Int32 := if S.2.1 x = nI 2 then mo else if S.2.1 x = nI 0 then nI (yK Λ x) else oI (yQ Λ (x / 5))
def WS (Λ : Lv) (S : Sv) : Prop := ∀ x, vx Λ x → (S.2.1 x = nI 0 ∨ (S.2.1 x = nI 1 ∧ 0 < yQ Λ (x / 5)) ∨ S.2.1 x = nI 2)
/-- one of a stripe is away at most -/
def WA (Λ : Lv) (S : Sv) : Prop := ∀ k u v, k < yS Λ → u < yZ Λ k → v < yZ Λ k → S.2.1 (5 * k + u) = nI 1 → S.2.1 (5 * k + v) = nI 1 → u = v
theorem n10 : ¬ (nI 1 = nI 0) := by decide
theorem n12 : ¬ (nI 1 = nI 2) := by decide
theorem n02 : ¬ (nI 0 = nI 2) := by decide
theorem n20 : ¬ (nI 2 = nI 0) := by decide
theorem n21 : ¬ (nI 2 = nI 1) := by decide
theorem n01 : ¬ (nI 0 = nI 1) := by decide
theorem dnow_cases {Λ : Lv} {S : Sv} {x : Nat} (hW : WL1 Λ) (hS : WS Λ S) (hx : vx Λ x) : (S.2.1 x = nI 2 ∧ dnow Λ S x = mo) ∨ (S.2.1 x ≠ nI 2 ∧ ∃ d, d < yD Λ ∧ dnow Λ S x = nI d) := by
  unfold dnow
  rcases hS x hx with h | ⟨h, h2⟩ | h
  · right
    rw [h, if_neg n02, if_pos rfl]
    exact ⟨n02, _, hW.2.2.2.2 x hx, rfl⟩
  · right
    rw [h, if_neg n12, if_neg n10, q_oIp h2]
    have := (hW.2.2.2.1 (x / 5) hx.1).2.2.2
    exact ⟨n12, _, by omega, rfl⟩
  · left
    rw [h, if_pos rfl]
    exact ⟨rfl, rfl⟩
def lostC (Λ : Lv) (S : Sv) (k : Nat) : Nat := ct (fun u => S.2.1 (5 * k + u) = nI 2) (yZ Λ k)
def awU (Λ : Lv) (S : Sv) (k : Nat) : Int32 := fo (fun u => S.2.1 (5 * k + u) = nI 1) (yZ Λ k)
def loU (Λ : Lv) (S : Sv) (k : Nat) : Nat := fs (fun u => S.2.1 (5 * k + u) = nI 2) (yZ Λ k)
def loB (Λ : Lv) (S : Sv) (k : Nat) : Nat := lb (fun u => S.2.1 (5 * k + u) = nI 2) (yZ Λ k)
/-- the disks on which units of a stripe are now, as bits -/
def dnB (Λ : Lv) (S : Sv) (k : Nat) : Nat → Nat
  | 0 => 0
  | n + 1 => if dnow Λ S (5 * k + n) = mo then dnB Λ S k n else dnB Λ S k n ||| 2 ^ ix (dnow Λ S (5 * k + n))
abbrev upP (S : Sv) (d : Nat) : Prop := (S.1 >>> (nI d &&& nI 31)) &&& nI 1 = nI 1
theorem upP_not {S : Sv} {d : Nat} (h : ¬ upP S d) : (S.1 >>> (nI d &&& nI 31)) &&& nI 1 = nI 0 := by
  rcases and1 (S.1 >>> (nI d &&& nI 31)) with h1 | h1
  · exact h1
  · exact absurd h1 h
section Cls
variable {Λ : Lv} {a x k d : Nat} {S : Sv} {m : Mm}
theorem c_dnow (ha : 54 ≤ a) (hC : RelC Λ m) (hW : WL1 Λ) (hx : vx Λ x) : f_X6_diskNow a (nI x) (pS a S m) = some (dnow Λ S x, pS a S m) := by
  obtain ⟨c0, c1, c2, c27, c28, c29, c30, c31, c32, c33, c34, c35, c36, c37, c38, c39⟩ := hC
  have h1 := vy_lt hW hx
  have h2 := hx.1
  have h3 := hW.2.1
  simp (maxSteps := 500000) (disch := first | assumption | omega) only [f_X6_diskNow, q_l0, q_l1, q_l2, q_l3, q_l4, q_l5, q_l6, q_l7, q_l8, q_l9, q_l10, q_l11, q_l12, q_l13, q_l14, q_l15, q_l16, q_l20, q_l21, q_l22, q_l24, q_l25, q_l26, q_l27, q_l28, q_l29, q_l30, q_l31, q_l32, q_l40, q_l48, q_l57, q_l80, q_l97, q_l100, q_l120, q_l122, q_l126, q_l160, q_l200, q_l214, q_l255, q_l256, q_l374, q_l400, q_l999, q_l1000, q_l9999, q_l99, q_l99999, q_nm, q_gd, q_gd2, q_ix, q_lt, q_eq, q_m5a, q_m5b, q_m40b, q_m8a, q_m8b, q_m16b, q_m374b, q_m160b, q_m10a, q_div5, q_rem5, nI_add, q_moe, q_moe2, q_mol, q_mol2, q_mor, q_bd2, q_bd1, q_stI, q_oI0, if_true, if_false, ite_true, ite_false, ↓reduceIte, Nat.lt_irrefl, Nat.not_lt_zero, Nat.add_zero, Nat.zero_add, Nat.reduceEqDiff, Nat.reduceLeDiff, Nat.reduceLT, Nat.reduceAdd, Bool.false_eq_true, and_self, and_false, false_and, true_and, and_true, not_true_eq_false, not_false_eq_true, pS_wh, pS_low, c33, c30]
  unfold dnow
  split
  · rfl
  · split <;> rfl
theorem c_lostBits (ha : 54 ≤ a) (hC : RelC Λ m) (hW : WL1 Λ) (hk : k < yS Λ) : f_X6_lostBits a (nI k) (pS a S m) = some (nI (loB Λ S k), pS a S m) := by
  obtain ⟨c0, c1, c2, c27, c28, c29, c30, c31, c32, c33, c34, c35, c36, c37, c38, c39⟩ := hC
  have h3 := hW.2.1
  have h5 := (hW.2.2.2.1 k hk).2.1
  refine lp0 (fun j u => f_X6_lostBits_L4 a j (nI k) (nI (lb (fun u => S.2.1 (5 * k + u) = nI 2) u)) (nI u) (pS a S m)) (yZ Λ k) _ (fun j => ?_) (fun j u hu => ?_) (by omega)
  · simp (maxSteps := 500000) (disch := first | assumption | omega) only [f_X6_lostBits_L4, q_l0, q_l1, q_l2, q_l3, q_l4, q_l5, q_l6, q_l7, q_l8, q_l9, q_l10, q_l11, q_l12, q_l13, q_l14, q_l15, q_l16, q_l20, q_l21, q_l22, q_l24, q_l25, q_l26, q_l27, q_l28, q_l29, q_l30, q_l31, q_l32, q_l40, q_l48, q_l57, q_l80, q_l97, q_l100, q_l120, q_l122, q_l126, q_l160, q_l200, q_l214, q_l255, q_l256, q_l374, q_l400, q_l999, q_l1000, q_l9999, q_l99, q_l99999, q_nm, q_gd, q_gd2, q_ix, q_lt, q_eq, q_m5a, q_m5b, q_m40b, q_m8a, q_m8b, q_m16b, q_m374b, q_m160b, q_m10a, q_div5, q_rem5, nI_add, q_moe, q_moe2, q_mol, q_mol2, q_mor, q_bd2, q_bd1, q_stI, q_oI0, if_true, if_false, ite_true, ite_false, ↓reduceIte, Nat.lt_irrefl, Nat.not_lt_zero, Nat.add_zero, Nat.zero_add, Nat.reduceEqDiff, Nat.reduceLeDiff, Nat.reduceLT, Nat.reduceAdd, Bool.false_eq_true, and_self, and_false, false_and, true_and, and_true, not_true_eq_false, not_false_eq_true, pS_low, c27]
    rfl
  · simp (maxSteps := 500000) (disch := first | assumption | omega) only [f_X6_lostBits_L4, q_l0, q_l1, q_l2, q_l3, q_l4, q_l5, q_l6, q_l7, q_l8, q_l9, q_l10, q_l11, q_l12, q_l13, q_l14, q_l15, q_l16, q_l20, q_l21, q_l22, q_l24, q_l25, q_l26, q_l27, q_l28, q_l29, q_l30, q_l31, q_l32, q_l40, q_l48, q_l57, q_l80, q_l97, q_l100, q_l120, q_l122, q_l126, q_l160, q_l200, q_l214, q_l255, q_l256, q_l374, q_l400, q_l999, q_l1000, q_l9999, q_l99, q_l99999, q_nm, q_gd, q_gd2, q_ix, q_lt, q_eq, q_m5a, q_m5b, q_m40b, q_m8a, q_m8b, q_m16b, q_m374b, q_m160b, q_m10a, q_div5, q_rem5, nI_add, q_moe, q_moe2, q_mol, q_mol2, q_mor, q_bd2, q_bd1, q_stI, q_oI0, if_true, if_false, ite_true, ite_false, ↓reduceIte, Nat.lt_irrefl, Nat.not_lt_zero, Nat.add_zero, Nat.zero_add, Nat.reduceEqDiff, Nat.reduceLeDiff, Nat.reduceLT, Nat.reduceAdd, Bool.false_eq_true, and_self, and_false, false_and, true_and, and_true, not_true_eq_false, not_false_eq_true, pS_low, pS_wh, c27, hu, q_shl, q_or, lb]
    by_cases h : S.2.1 (5 * k + u) = nI 2
    · simp only [h, if_true, reduceIte]
    · simp only [h, if_false, reduceIte]
theorem c_awayUnit (ha : 54 ≤ a) (hC : RelC Λ m) (hW : WL1 Λ) (hk : k < yS Λ) : f_X6_awayUnit a (nI k) (pS a S m) = some (awU Λ S k, pS a S m) := by
  obtain ⟨c0, c1, c2, c27, c28, c29, c30, c31, c32, c33, c34, c35, c36, c37, c38, c39⟩ := hC
  have h3 := hW.2.1
  have h5 := (hW.2.2.2.1 k hk).2.1
  refine lpf (fun j u => f_X6_awayUnit_L2 a j (nI k) (nI u) (pS a S m)) (fun u => S.2.1 (5 * k + u) = nI 1) (yZ Λ k) _ (fun j hn => ?_) (fun j u hu hp hf => ?_) (fun j u hu hp => ?_) (by omega)
  · simp (maxSteps := 500000) (disch := first | assumption | omega) only [f_X6_awayUnit_L2, q_l0, q_l1, q_l2, q_l3, q_l4, q_l5, q_l6, q_l7, q_l8, q_l9, q_l10, q_l11, q_l12, q_l13, q_l14, q_l15, q_l16, q_l20, q_l21, q_l22, q_l24, q_l25, q_l26, q_l27, q_l28, q_l29, q_l30, q_l31, q_l32, q_l40, q_l48, q_l57, q_l80, q_l97, q_l100, q_l120, q_l122, q_l126, q_l160, q_l200, q_l214, q_l255, q_l256, q_l374, q_l400, q_l999, q_l1000, q_l9999, q_l99, q_l99999, q_nm, q_gd, q_gd2, q_ix, q_lt, q_eq, q_m5a, q_m5b, q_m40b, q_m8a, q_m8b, q_m16b, q_m374b, q_m160b, q_m10a, q_div5, q_rem5, nI_add, q_moe, q_moe2, q_mol, q_mol2, q_mor, q_bd2, q_bd1, q_stI, q_oI0, if_true, if_false, ite_true, ite_false, ↓reduceIte, Nat.lt_irrefl, Nat.not_lt_zero, Nat.add_zero, Nat.zero_add, Nat.reduceEqDiff, Nat.reduceLeDiff, Nat.reduceLT, Nat.reduceAdd, Bool.false_eq_true, and_self, and_false, false_and, true_and, and_true, not_true_eq_false, not_false_eq_true, pS_low, c27]
    unfold awU fo
    rw [fs_end hn, if_neg (Nat.lt_irrefl _)]
  · simp (maxSteps := 500000) (disch := first | assumption | omega) only [f_X6_awayUnit_L2, q_l0, q_l1, q_l2, q_l3, q_l4, q_l5, q_l6, q_l7, q_l8, q_l9, q_l10, q_l11, q_l12, q_l13, q_l14, q_l15, q_l16, q_l20, q_l21, q_l22, q_l24, q_l25, q_l26, q_l27, q_l28, q_l29, q_l30, q_l31, q_l32, q_l40, q_l48, q_l57, q_l80, q_l97, q_l100, q_l120, q_l122, q_l126, q_l160, q_l200, q_l214, q_l255, q_l256, q_l374, q_l400, q_l999, q_l1000, q_l9999, q_l99, q_l99999, q_nm, q_gd, q_gd2, q_ix, q_lt, q_eq, q_m5a, q_m5b, q_m40b, q_m8a, q_m8b, q_m16b, q_m374b, q_m160b, q_m10a, q_div5, q_rem5, nI_add, q_moe, q_moe2, q_mol, q_mol2, q_mor, q_bd2, q_bd1, q_stI, q_oI0, if_true, if_false, ite_true, ite_false, ↓reduceIte, Nat.lt_irrefl, Nat.not_lt_zero, Nat.add_zero, Nat.zero_add, Nat.reduceEqDiff, Nat.reduceLeDiff, Nat.reduceLT, Nat.reduceAdd, Bool.false_eq_true, and_self, and_false, false_and, true_and, and_true, not_true_eq_false, not_false_eq_true, pS_low, pS_wh, c27, hu, hp]
    unfold awU fo
    rw [hf, if_pos hu]
  · simp (maxSteps := 500000) (disch := first | assumption | omega) only [f_X6_awayUnit_L2, q_l0, q_l1, q_l2, q_l3, q_l4, q_l5, q_l6, q_l7, q_l8, q_l9, q_l10, q_l11, q_l12, q_l13, q_l14, q_l15, q_l16, q_l20, q_l21, q_l22, q_l24, q_l25, q_l26, q_l27, q_l28, q_l29, q_l30, q_l31, q_l32, q_l40, q_l48, q_l57, q_l80, q_l97, q_l100, q_l120, q_l122, q_l126, q_l160, q_l200, q_l214, q_l255, q_l256, q_l374, q_l400, q_l999, q_l1000, q_l9999, q_l99, q_l99999, q_nm, q_gd, q_gd2, q_ix, q_lt, q_eq, q_m5a, q_m5b, q_m40b, q_m8a, q_m8b, q_m16b, q_m374b, q_m160b, q_m10a, q_div5, q_rem5, nI_add, q_moe, q_moe2, q_mol, q_mol2, q_mor, q_bd2, q_bd1, q_stI, q_oI0, if_true, if_false, ite_true, ite_false, ↓reduceIte, Nat.lt_irrefl, Nat.not_lt_zero, Nat.add_zero, Nat.zero_add, Nat.reduceEqDiff, Nat.reduceLeDiff, Nat.reduceLT, Nat.reduceAdd, Bool.false_eq_true, and_self, and_false, false_and, true_and, and_true, not_true_eq_false, not_false_eq_true, pS_low, pS_wh, c27, hu, hp]
theorem c_isUp (hd : d < 32) : f_X6_isUp a (nI d) (pS a S m) = some (nI (if (S.1 >>> (nI d &&& nI 31)) &&& nI 1 = nI 1 then 1 else 0), pS a S m) := by
  simp (maxSteps := 500000) (disch := first | assumption | omega) only [f_X6_isUp, q_l0, q_l1, q_l2, q_l3, q_l4, q_l5, q_l6, q_l7, q_l8, q_l9, q_l10, q_l11, q_l12, q_l13, q_l14, q_l15, q_l16, q_l20, q_l21, q_l22, q_l24, q_l25, q_l26, q_l27, q_l28, q_l29, q_l30, q_l31, q_l32, q_l40, q_l48, q_l57, q_l80, q_l97, q_l100, q_l120, q_l122, q_l126, q_l160, q_l200, q_l214, q_l255, q_l256, q_l374, q_l400, q_l999, q_l1000, q_l9999, q_l99, q_l99999, q_nm, q_gd, q_gd2, q_ix, q_lt, q_eq, q_m5a, q_m5b, q_m40b, q_m8a, q_m8b, q_m16b, q_m374b, q_m160b, q_m10a, q_div5, q_rem5, nI_add, q_moe, q_moe2, q_mol, q_mol2, q_mor, q_bd2, q_bd1, q_stI, q_oI0, if_true, if_false, ite_true, ite_false, ↓reduceIte, Nat.lt_irrefl, Nat.not_lt_zero, Nat.add_zero, Nat.zero_add, Nat.reduceEqDiff, Nat.reduceLeDiff, Nat.reduceLT, Nat.reduceAdd, Bool.false_eq_true, and_self, and_false, false_and, true_and, and_true, not_true_eq_false, not_false_eq_true, pS_up]
  rcases and1 (S.1 >>> (nI d &&& nI 31)) with h | h
  · simp only [h, if_true, n01, if_false, reduceIte]
  · simp only [h, if_true, n10, if_false, reduceIte]
theorem c_isUpN : f_X6_isUp a mo (pS a S m) = some (nI 0, pS a S m) := by
  simp (maxSteps := 500000) (disch := first | assumption | omega) only [f_X6_isUp, q_l0, q_l1, q_l2, q_l3, q_l4, q_l5, q_l6, q_l7, q_l8, q_l9, q_l10, q_l11, q_l12, q_l13, q_l14, q_l15, q_l16, q_l20, q_l21, q_l22, q_l24, q_l25, q_l26, q_l27, q_l28, q_l29, q_l30, q_l31, q_l32, q_l40, q_l48, q_l57, q_l80, q_l97, q_l100, q_l120, q_l122, q_l126, q_l160, q_l200, q_l214, q_l255, q_l256, q_l374, q_l400, q_l999, q_l1000, q_l9999, q_l99, q_l99999, q_nm, q_gd, q_gd2, q_ix, q_lt, q_eq, q_m5a, q_m5b, q_m40b, q_m8a, q_m8b, q_m16b, q_m374b, q_m160b, q_m10a, q_div5, q_rem5, nI_add, q_moe, q_moe2, q_mol, q_mol2, q_mor, q_bd2, q_bd1, q_stI, q_oI0, if_true, if_false, ite_true, ite_false, ↓reduceIte, Nat.lt_irrefl, Nat.not_lt_zero, Nat.add_zero, Nat.zero_add, Nat.reduceEqDiff, Nat.reduceLeDiff, Nat.reduceLT, Nat.reduceAdd, Bool.false_eq_true, and_self, and_false, false_and, true_and, and_true, not_true_eq_false, not_false_eq_true, pS_up]
theorem loB_lt (hW : WL1 Λ) (hk : k < yS Λ) : loB Λ S k < 32 := by
  have h5 := (hW.2.2.2.1 k hk).2.1
  have h := lb_lt (fun u => S.2.1 (5 * k + u) = nI 2) (yZ Λ k)
  have h6 : 2 ^ yZ Λ k ≤ 2 ^ 5 := Nat.pow_le_pow_right (by decide) h5
  unfold loB
  omega
theorem pc_loB (hW : WL1 Λ) (hk : k < yS Λ) : pc (loB Λ S k) = lostC Λ S k := by
  have h5 := (hW.2.2.2.1 k hk).2.1
  exact pc_lb _ (by omega)
theorem lostC_le (hW : WL1 Λ) (hk : k < yS Λ) : lostC Λ S k ≤ 5 := by
  have h5 := (hW.2.2.2.1 k hk).2.1
  have := ct_le (fun u => S.2.1 (5 * k + u) = nI 2) (yZ Λ k)
  unfold lostC
  omega
theorem c_lostMany (ha : 54 ≤ a) (hC : RelC Λ m) (hW : WL1 Λ) (hk : k < yS Λ) : f_X6_lostMany a (nI k) (pS a S m) = some (nI (lostC Λ S k), pS a S m) := by
  have h := loB_lt (S := S) hW hk
  unfold f_X6_lostMany
  rw [c_lostBits ha hC hW hk, q_bd2, f_bc, q_bd2, bc_pc _ (by omega), pc_loB hW hk]
theorem c_isDead (ha : 54 ≤ a) (hC : RelC Λ m) (hW : WL1 Λ) (hk : k < yS Λ) : f_X6_isDead a (nI k) (pS a S m) = some (nI (if 1 < lostC Λ S k then 1 else 0), pS a S m) := by
  have h := dead_pc _ (loB_lt (S := S) hW hk)
  rw [pc_loB hW hk] at h
  unfold f_X6_isDead
  rw [c_lostBits ha hC hW hk, q_bd2]
  simp only [q_l0, q_l1, q_l2, q_l3, q_l4, q_l5, q_l6, q_l7, q_l8, q_l9, q_l10, q_l11, q_l12, q_l13, q_l14, q_l15, q_l16, q_l20, q_l21, q_l22, q_l24, q_l25, q_l26, q_l27, q_l28, q_l29, q_l30, q_l31, q_l32, q_l40, q_l48, q_l57, q_l80, q_l97, q_l100, q_l120, q_l122, q_l126, q_l160, q_l200, q_l214, q_l255, q_l256, q_l374, q_l400, q_l999, q_l1000, q_l9999, q_l99, q_l99999, q_nm, q_gd, q_gd2, q_ix, q_lt, q_eq, q_m5a, q_m5b, q_m40b, q_m8a, q_m8b, q_m16b, q_m374b, q_m160b, q_m10a, q_div5, q_rem5, nI_add, q_moe, q_moe2, q_mol, q_mol2, q_mor, q_bd2, q_bd1, q_stI, q_oI0, if_true, if_false, ite_true, ite_false, ↓reduceIte, Nat.lt_irrefl, Nat.not_lt_zero, Nat.add_zero, Nat.zero_add, Nat.reduceEqDiff, Nat.reduceLeDiff, Nat.reduceLT, Nat.reduceAdd, Bool.false_eq_true, and_self, and_false, false_and, true_and, and_true, not_true_eq_false, not_false_eq_true]
  by_cases h2 : lostC Λ S k ≤ 1
  · rw [if_pos (h.mpr h2), if_neg (by omega)]
  · rw [if_neg (fun e => h2 (h.mp e)), if_pos (by omega)]
theorem c_disksNow (ha : 54 ≤ a) (hC : RelC Λ m) (hW : WL1 Λ) (hS : WS Λ S) (hk : k < yS Λ) : f_X6_disksNow a (nI k) (pS a S m) = some (nI (dnB Λ S k (yZ Λ k)), pS a S m) := by
  have hC2 := hC
  obtain ⟨c0, c1, c2, c27, c28, c29, c30, c31, c32, c33, c34, c35, c36, c37, c38, c39⟩ := hC2
  have h3 := hW.2.1
  have h4 := hW.1
  have h5 := (hW.2.2.2.1 k hk).2.1
  refine lp0 (fun j u => f_X6_disksNow_L4 a j (nI k) (nI (dnB Λ S k u)) (nI u) (pS a S m)) (yZ Λ k) _ (fun j => ?_) (fun j u hu => ?_) (by omega)
  · simp (maxSteps := 500000) (disch := first | assumption | omega) only [f_X6_disksNow_L4, q_l0, q_l1, q_l2, q_l3, q_l4, q_l5, q_l6, q_l7, q_l8, q_l9, q_l10, q_l11, q_l12, q_l13, q_l14, q_l15, q_l16, q_l20, q_l21, q_l22, q_l24, q_l25, q_l26, q_l27, q_l28, q_l29, q_l30, q_l31, q_l32, q_l40, q_l48, q_l57, q_l80, q_l97, q_l100, q_l120, q_l122, q_l126, q_l160, q_l200, q_l214, q_l255, q_l256, q_l374, q_l400, q_l999, q_l1000, q_l9999, q_l99, q_l99999, q_nm, q_gd, q_gd2, q_ix, q_lt, q_eq, q_m5a, q_m5b, q_m40b, q_m8a, q_m8b, q_m16b, q_m374b, q_m160b, q_m10a, q_div5, q_rem5, nI_add, q_moe, q_moe2, q_mol, q_mol2, q_mor, q_bd2, q_bd1, q_stI, q_oI0, if_true, if_false, ite_true, ite_false, ↓reduceIte, Nat.lt_irrefl, Nat.not_lt_zero, Nat.add_zero, Nat.zero_add, Nat.reduceEqDiff, Nat.reduceLeDiff, Nat.reduceLT, Nat.reduceAdd, Bool.false_eq_true, and_self, and_false, false_and, true_and, and_true, not_true_eq_false, not_false_eq_true, pS_low, c27]
  · have hv := vx_mk hW hk hu
    simp (maxSteps := 500000) (disch := first | assumption | omega) only [f_X6_disksNow_L4, q_l0, q_l1, q_l2, q_l3, q_l4, q_l5, q_l6, q_l7, q_l8, q_l9, q_l10, q_l11, q_l12, q_l13, q_l14, q_l15, q_l16, q_l20, q_l21, q_l22, q_l24, q_l25, q_l26, q_l27, q_l28, q_l29, q_l30, q_l31, q_l32, q_l40, q_l48, q_l57, q_l80, q_l97, q_l100, q_l120, q_l122, q_l126, q_l160, q_l200, q_l214, q_l255, q_l256, q_l374, q_l400, q_l999, q_l1000, q_l9999, q_l99, q_l99999, q_nm, q_gd, q_gd2, q_ix, q_lt, q_eq, q_m5a, q_m5b, q_m40b, q_m8a, q_m8b, q_m16b, q_m374b, q_m160b, q_m10a, q_div5, q_rem5, nI_add, q_moe, q_moe2, q_mol, q_mol2, q_mor, q_bd2, q_bd1, q_stI, q_oI0, if_true, if_false, ite_true, ite_false, ↓reduceIte, Nat.lt_irrefl, Nat.not_lt_zero, Nat.add_zero, Nat.zero_add, Nat.reduceEqDiff, Nat.reduceLeDiff, Nat.reduceLT, Nat.reduceAdd, Bool.false_eq_true, and_self, and_false, false_and, true_and, and_true, not_true_eq_false, not_false_eq_true, pS_low, pS_wh, c27, hu, c_dnow ha hC hW hv, dnB]
    rcases dnow_cases hW hS hv with ⟨h1, h2⟩ | ⟨h1, d, hd, h2⟩
    · simp only [h2, if_true, reduceIte]
    · simp (maxSteps := 500000) (disch := first | assumption | omega) only [h2, q_l0, q_l1, q_l2, q_l3, q_l4, q_l5, q_l6, q_l7, q_l8, q_l9, q_l10, q_l11, q_l12, q_l13, q_l14, q_l15, q_l16, q_l20, q_l21, q_l22, q_l24, q_l25, q_l26, q_l27, q_l28, q_l29, q_l30, q_l31, q_l32, q_l40, q_l48, q_l57, q_l80, q_l97, q_l100, q_l120, q_l122, q_l126, q_l160, q_l200, q_l214, q_l255, q_l256, q_l374, q_l400, q_l999, q_l1000, q_l9999, q_l99, q_l99999, q_nm, q_gd, q_gd2, q_ix, q_lt, q_eq, q_m5a, q_m5b, q_m40b, q_m8a, q_m8b, q_m16b, q_m374b, q_m160b, q_m10a, q_div5, q_rem5, nI_add, q_moe, q_moe2, q_mol, q_mol2, q_mor, q_bd2, q_bd1, q_stI, q_oI0, if_true, if_false, ite_true, ite_false, ↓reduceIte, Nat.lt_irrefl, Nat.not_lt_zero, Nat.add_zero, Nat.zero_add, Nat.reduceEqDiff, Nat.reduceLeDiff, Nat.reduceLT, Nat.reduceAdd, Bool.false_eq_true, and_self, and_false, false_and, true_and, and_true, not_true_eq_false, not_false_eq_true, q_shl, q_or]
theorem dnB_bit (hW : WL1 Λ) (hS : WS Λ S) (hk : k < yS Λ) : ∀ n, n ≤ yZ Λ k → ∀ d, ((dnB Λ S k n).testBit d = true ↔ ∃ u, u < n ∧ dnow Λ S (5 * k + u) = nI d ∧ d < yD Λ)
  | 0, _, d => by
    simp [dnB]
  | n + 1, hn, d => by
    have ih := dnB_bit hW hS hk n (by omega) d
    have h4 := hW.1
    unfold dnB
    rcases dnow_cases hW hS (vx_mk hW hk (u := n) (by omega)) with ⟨h1, h2⟩ | ⟨h1, e, he, h2⟩
    · rw [if_pos h2, ih]
      constructor
      · rintro ⟨u, h3, h4⟩
        exact ⟨u, by omega, h4⟩
      · rintro ⟨u, h3, h5, h6⟩
        by_cases hu : u = n
        · subst hu
          rw [h2] at h5
          rw [q_moe2 (by omega)] at h5
          exact h5.elim
        · exact ⟨u, by omega, h5, h6⟩
    · rw [h2, if_neg (by rw [q_moe (by omega)]; exact fun h => h), q_ix (by omega), Nat.testBit_or, Nat.testBit_two_pow, Bool.or_eq_true, ih, decide_eq_true_eq]
      constructor
      · rintro (⟨u, h3, h4⟩ | rfl)
        · exact ⟨u, by omega, h4⟩
        · exact ⟨n, by omega, h2, he⟩
      · rintro ⟨u, h3, h5, h6⟩
        by_cases hu : u = n
        · subst hu
          rw [h2, q_eq (by omega) (by omega)] at h5
          exact Or.inr h5
        · exact Or.inl ⟨u, by omega, h5, h6⟩
theorem dnB_lt (hW : WL1 Λ) (hS : WS Λ S) (hk : k < yS Λ) {n : Nat} (hn : n ≤ yZ Λ k) : dnB Λ S k n < 8192 := by
  refine Nat.lt_pow_two_of_testBit (n := 13) _ (fun j hj => ?_)
  have h := dnB_bit hW hS hk n hn j
  have h4 := hW.1
  cases hb : (dnB Λ S k n).testBit j
  · rfl
  · obtain ⟨u, _, _, h6⟩ := h.mp hb
    omega
end Cls
section Ref
variable {Λ : Lv} {x k d : Nat} {S : Sv} {m : Mm}
theorem r_dnow (hR : RelR Λ m) (hW : WL1 Λ) (hS : WS Λ S) (hx : vx Λ x) : f_X11_diskNow (nI x) (pR Λ S m) = some (dnow Λ S x, pR Λ S m) := by
  obtain ⟨r80, r99, r108, r100, r102, r101, r103, r104, r105, r106, r109, r107⟩ := hR
  have h1 := vy_lt hW hx
  have h2 := hx.1
  have h3 := hW.2.1
  simp (maxSteps := 500000) (disch := first | assumption | omega) only [f_X11_diskNow, q_l0, q_l1, q_l2, q_l3, q_l4, q_l5, q_l6, q_l7, q_l8, q_l9, q_l10, q_l11, q_l12, q_l13, q_l14, q_l15, q_l16, q_l20, q_l21, q_l22, q_l24, q_l25, q_l26, q_l27, q_l28, q_l29, q_l30, q_l31, q_l32, q_l40, q_l48, q_l57, q_l80, q_l97, q_l100, q_l120, q_l122, q_l126, q_l160, q_l200, q_l214, q_l255, q_l256, q_l374, q_l400, q_l999, q_l1000, q_l9999, q_l99, q_l99999, q_nm, q_gd, q_gd2, q_ix, q_lt, q_eq, q_m5a, q_m5b, q_m40b, q_m8a, q_m8b, q_m16b, q_m374b, q_m160b, q_m10a, q_div5, q_rem5, nI_add, q_moe, q_moe2, q_mol, q_mol2, q_mor, q_bd2, q_bd1, q_stI, q_oI0, if_true, if_false, ite_true, ite_false, ↓reduceIte, Nat.lt_irrefl, Nat.not_lt_zero, Nat.add_zero, Nat.zero_add, Nat.reduceEqDiff, Nat.reduceLeDiff, Nat.reduceLT, Nat.reduceAdd, Bool.false_eq_true, and_self, and_false, false_and, true_and, and_true, not_true_eq_false, not_false_eq_true, pR_wh, pR_oth, r103, r105, dnow]
  rcases hS x hx with h | ⟨h, h4⟩ | h
  · simp only [h, n02, n01, if_true, if_false, reduceIte]
  · simp only [h, n12, n10, if_true, if_false, reduceIte]
  · simp only [h, if_true, reduceIte]
theorem r_lostIn (hR : RelR Λ m) (hW : WL1 Λ) (hk : k < yS Λ) : f_X11_lostIn (nI k) (pR Λ S m) = some (nI (lostC Λ S k), pR Λ S m) := by
  obtain ⟨r80, r99, r108, r100, r102, r101, r103, r104, r105, r106, r109, r107⟩ := hR
  have h3 := hW.2.1
  have h5 := (hW.2.2.2.1 k hk).2.1
  refine lp0 (fun j u => f_X11_lostIn_L4 j (nI k) (nI (ct (fun u => S.2.1 (5 * k + u) = nI 2) u)) (nI u) (pR Λ S m)) (yZ Λ k) _ (fun j => ?_) (fun j u hu => ?_) (by omega)
  · simp (maxSteps := 500000) (disch := first | assumption | omega) only [f_X11_lostIn_L4, q_l0, q_l1, q_l2, q_l3, q_l4, q_l5, q_l6, q_l7, q_l8, q_l9, q_l10, q_l11, q_l12, q_l13, q_l14, q_l15, q_l16, q_l20, q_l21, q_l22, q_l24, q_l25, q_l26, q_l27, q_l28, q_l29, q_l30, q_l31, q_l32, q_l40, q_l48, q_l57, q_l80, q_l97, q_l100, q_l120, q_l122, q_l126, q_l160, q_l200, q_l214, q_l255, q_l256, q_l374, q_l400, q_l999, q_l1000, q_l9999, q_l99, q_l99999, q_nm, q_gd, q_gd2, q_ix, q_lt, q_eq, q_m5a, q_m5b, q_m40b, q_m8a, q_m8b, q_m16b, q_m374b, q_m160b, q_m10a, q_div5, q_rem5, nI_add, q_moe, q_moe2, q_mol, q_mol2, q_mor, q_bd2, q_bd1, q_stI, q_oI0, if_true, if_false, ite_true, ite_false, ↓reduceIte, Nat.lt_irrefl, Nat.not_lt_zero, Nat.add_zero, Nat.zero_add, Nat.reduceEqDiff, Nat.reduceLeDiff, Nat.reduceLT, Nat.reduceAdd, Bool.false_eq_true, and_self, and_false, false_and, true_and, and_true, not_true_eq_false, not_false_eq_true, pR_oth, r100]
    rfl
  · simp (maxSteps := 500000) (disch := first | assumption | omega) only [f_X11_lostIn_L4, q_l0, q_l1, q_l2, q_l3, q_l4, q_l5, q_l6, q_l7, q_l8, q_l9, q_l10, q_l11, q_l12, q_l13, q_l14, q_l15, q_l16, q_l20, q_l21, q_l22, q_l24, q_l25, q_l26, q_l27, q_l28, q_l29, q_l30, q_l31, q_l32, q_l40, q_l48, q_l57, q_l80, q_l97, q_l100, q_l120, q_l122, q_l126, q_l160, q_l200, q_l214, q_l255, q_l256, q_l374, q_l400, q_l999, q_l1000, q_l9999, q_l99, q_l99999, q_nm, q_gd, q_gd2, q_ix, q_lt, q_eq, q_m5a, q_m5b, q_m40b, q_m8a, q_m8b, q_m16b, q_m374b, q_m160b, q_m10a, q_div5, q_rem5, nI_add, q_moe, q_moe2, q_mol, q_mol2, q_mor, q_bd2, q_bd1, q_stI, q_oI0, if_true, if_false, ite_true, ite_false, ↓reduceIte, Nat.lt_irrefl, Nat.not_lt_zero, Nat.add_zero, Nat.zero_add, Nat.reduceEqDiff, Nat.reduceLeDiff, Nat.reduceLT, Nat.reduceAdd, Bool.false_eq_true, and_self, and_false, false_and, true_and, and_true, not_true_eq_false, not_false_eq_true, pR_oth, pR_wh2, r100, hu, ct]
    by_cases h : S.2.1 (5 * k + u) = nI 2
    · simp only [h, if_true, reduceIte]
    · simp only [h, if_false, reduceIte, Nat.add_zero]
theorem r_isDead (hR : RelR Λ m) (hW : WL1 Λ) (hk : k < yS Λ) : f_X11_isDead (nI k) (pR Λ S m) = some (nI (if 1 < lostC Λ S k then 1 else 0), pR Λ S m) := by
  have h := lostC_le (S := S) hW hk
  unfold f_X11_isDead
  rw [r_lostIn hR hW hk, q_bd2]
  simp (maxSteps := 500000) (disch := first | assumption | omega) only [q_l0, q_l1, q_l2, q_l3, q_l4, q_l5, q_l6, q_l7, q_l8, q_l9, q_l10, q_l11, q_l12, q_l13, q_l14, q_l15, q_l16, q_l20, q_l21, q_l22, q_l24, q_l25, q_l26, q_l27, q_l28, q_l29, q_l30, q_l31, q_l32, q_l40, q_l48, q_l57, q_l80, q_l97, q_l100, q_l120, q_l122, q_l126, q_l160, q_l200, q_l214, q_l255, q_l256, q_l374, q_l400, q_l999, q_l1000, q_l9999, q_l99, q_l99999, q_nm, q_gd, q_gd2, q_ix, q_lt, q_eq, q_m5a, q_m5b, q_m40b, q_m8a, q_m8b, q_m16b, q_m374b, q_m160b, q_m10a, q_div5, q_rem5, nI_add, q_moe, q_moe2, q_mol, q_mol2, q_mor, q_bd2, q_bd1, q_stI, q_oI0, if_true, if_false, ite_true, ite_false, ↓reduceIte, Nat.lt_irrefl, Nat.not_lt_zero, Nat.add_zero, Nat.zero_add, Nat.reduceEqDiff, Nat.reduceLeDiff, Nat.reduceLT, Nat.reduceAdd, Bool.false_eq_true, and_self, and_false, false_and, true_and, and_true, not_true_eq_false, not_false_eq_true]
  split <;> rfl
theorem r_awayIn (hR : RelR Λ m) (hW : WL1 Λ) (hk : k < yS Λ) : f_X11_awayIn (nI k) (pR Λ S m) = some (awU Λ S k, pR Λ S m) := by
  obtain ⟨r80, r99, r108, r100, r102, r101, r103, r104, r105, r106, r109, r107⟩ := hR
  have h3 := hW.2.1
  have h5 := (hW.2.2.2.1 k hk).2.1
  refine lpf (fun j u => f_X11_awayIn_L2 j (nI k) (nI u) (pR Λ S m)) (fun u => S.2.1 (5 * k + u) = nI 1) (yZ Λ k) _ (fun j hn => ?_) (fun j u hu hp hf => ?_) (fun j u hu hp => ?_) (by omega)
  · simp (maxSteps := 500000) (disch := first | assumption | omega) only [f_X11_awayIn_L2, q_l0, q_l1, q_l2, q_l3, q_l4, q_l5, q_l6, q_l7, q_l8, q_l9, q_l10, q_l11, q_l12, q_l13, q_l14, q_l15, q_l16, q_l20, q_l21, q_l22, q_l24, q_l25, q_l26, q_l27, q_l28, q_l29, q_l30, q_l31, q_l32, q_l40, q_l48, q_l57, q_l80, q_l97, q_l100, q_l120, q_l122, q_l126, q_l160, q_l200, q_l214, q_l255, q_l256, q_l374, q_l400, q_l999, q_l1000, q_l9999, q_l99, q_l99999, q_nm, q_gd, q_gd2, q_ix, q_lt, q_eq, q_m5a, q_m5b, q_m40b, q_m8a, q_m8b, q_m16b, q_m374b, q_m160b, q_m10a, q_div5, q_rem5, nI_add, q_moe, q_moe2, q_mol, q_mol2, q_mor, q_bd2, q_bd1, q_stI, q_oI0, if_true, if_false, ite_true, ite_false, ↓reduceIte, Nat.lt_irrefl, Nat.not_lt_zero, Nat.add_zero, Nat.zero_add, Nat.reduceEqDiff, Nat.reduceLeDiff, Nat.reduceLT, Nat.reduceAdd, Bool.false_eq_true, and_self, and_false, false_and, true_and, and_true, not_true_eq_false, not_false_eq_true, pR_oth, r100]
    unfold awU fo
    rw [fs_end hn, if_neg (Nat.lt_irrefl _)]
  · simp (maxSteps := 500000) (disch := first | assumption | omega) only [f_X11_awayIn_L2, q_l0, q_l1, q_l2, q_l3, q_l4, q_l5, q_l6, q_l7, q_l8, q_l9, q_l10, q_l11, q_l12, q_l13, q_l14, q_l15, q_l16, q_l20, q_l21, q_l22, q_l24, q_l25, q_l26, q_l27, q_l28, q_l29, q_l30, q_l31, q_l32, q_l40, q_l48, q_l57, q_l80, q_l97, q_l100, q_l120, q_l122, q_l126, q_l160, q_l200, q_l214, q_l255, q_l256, q_l374, q_l400, q_l999, q_l1000, q_l9999, q_l99, q_l99999, q_nm, q_gd, q_gd2, q_ix, q_lt, q_eq, q_m5a, q_m5b, q_m40b, q_m8a, q_m8b, q_m16b, q_m374b, q_m160b, q_m10a, q_div5, q_rem5, nI_add, q_moe, q_moe2, q_mol, q_mol2, q_mor, q_bd2, q_bd1, q_stI, q_oI0, if_true, if_false, ite_true, ite_false, ↓reduceIte, Nat.lt_irrefl, Nat.not_lt_zero, Nat.add_zero, Nat.zero_add, Nat.reduceEqDiff, Nat.reduceLeDiff, Nat.reduceLT, Nat.reduceAdd, Bool.false_eq_true, and_self, and_false, false_and, true_and, and_true, not_true_eq_false, not_false_eq_true, pR_oth, pR_wh2, r100, hu, hp]
    unfold awU fo
    rw [hf, if_pos hu]
  · simp (maxSteps := 500000) (disch := first | assumption | omega) only [f_X11_awayIn_L2, q_l0, q_l1, q_l2, q_l3, q_l4, q_l5, q_l6, q_l7, q_l8, q_l9, q_l10, q_l11, q_l12, q_l13, q_l14, q_l15, q_l16, q_l20, q_l21, q_l22, q_l24, q_l25, q_l26, q_l27, q_l28, q_l29, q_l30, q_l31, q_l32, q_l40, q_l48, q_l57, q_l80, q_l97, q_l100, q_l120, q_l122, q_l126, q_l160, q_l200, q_l214, q_l255, q_l256, q_l374, q_l400, q_l999, q_l1000, q_l9999, q_l99, q_l99999, q_nm, q_gd, q_gd2, q_ix, q_lt, q_eq, q_m5a, q_m5b, q_m40b, q_m8a, q_m8b, q_m16b, q_m374b, q_m160b, q_m10a, q_div5, q_rem5, nI_add, q_moe, q_moe2, q_mol, q_mol2, q_mor, q_bd2, q_bd1, q_stI, q_oI0, if_true, if_false, ite_true, ite_false, ↓reduceIte, Nat.lt_irrefl, Nat.not_lt_zero, Nat.add_zero, Nat.zero_add, Nat.reduceEqDiff, Nat.reduceLeDiff, Nat.reduceLT, Nat.reduceAdd, Bool.false_eq_true, and_self, and_false, false_and, true_and, and_true, not_true_eq_false, not_false_eq_true, pR_oth, pR_wh2, r100, hu, hp]
theorem r_isUp (hd : d < 32) : f_X11_isUp (nI d) (pR Λ S m) = some (nI (if (S.1 >>> (nI d &&& nI 31)) &&& nI 1 = nI 1 then 1 else 0), pR Λ S m) := by
  simp (maxSteps := 500000) (disch := first | assumption | omega) only [f_X11_isUp, f_X11_isIn, q_l0, q_l1, q_l2, q_l3, q_l4, q_l5, q_l6, q_l7, q_l8, q_l9, q_l10, q_l11, q_l12, q_l13, q_l14, q_l15, q_l16, q_l20, q_l21, q_l22, q_l24, q_l25, q_l26, q_l27, q_l28, q_l29, q_l30, q_l31, q_l32, q_l40, q_l48, q_l57, q_l80, q_l97, q_l100, q_l120, q_l122, q_l126, q_l160, q_l200, q_l214, q_l255, q_l256, q_l374, q_l400, q_l999, q_l1000, q_l9999, q_l99, q_l99999, q_nm, q_gd, q_gd2, q_ix, q_lt, q_eq, q_m5a, q_m5b, q_m40b, q_m8a, q_m8b, q_m16b, q_m374b, q_m160b, q_m10a, q_div5, q_rem5, nI_add, q_moe, q_moe2, q_mol, q_mol2, q_mor, q_bd2, q_bd1, q_stI, q_oI0, if_true, if_false, ite_true, ite_false, ↓reduceIte, Nat.lt_irrefl, Nat.not_lt_zero, Nat.add_zero, Nat.zero_add, Nat.reduceEqDiff, Nat.reduceLeDiff, Nat.reduceLT, Nat.reduceAdd, Bool.false_eq_true, and_self, and_false, false_and, true_and, and_true, not_true_eq_false, not_false_eq_true, pR_up]
  rcases and1 (S.1 >>> (nI d &&& nI 31)) with h | h
  · simp (maxSteps := 500000) (disch := first | assumption | omega) only [h, n01, q_l0, q_l1, q_l2, q_l3, q_l4, q_l5, q_l6, q_l7, q_l8, q_l9, q_l10, q_l11, q_l12, q_l13, q_l14, q_l15, q_l16, q_l20, q_l21, q_l22, q_l24, q_l25, q_l26, q_l27, q_l28, q_l29, q_l30, q_l31, q_l32, q_l40, q_l48, q_l57, q_l80, q_l97, q_l100, q_l120, q_l122, q_l126, q_l160, q_l200, q_l214, q_l255, q_l256, q_l374, q_l400, q_l999, q_l1000, q_l9999, q_l99, q_l99999, q_nm, q_gd, q_gd2, q_ix, q_lt, q_eq, q_m5a, q_m5b, q_m40b, q_m8a, q_m8b, q_m16b, q_m374b, q_m160b, q_m10a, q_div5, q_rem5, nI_add, q_moe, q_moe2, q_mol, q_mol2, q_mor, q_bd2, q_bd1, q_stI, q_oI0, if_true, if_false, ite_true, ite_false, ↓reduceIte, Nat.lt_irrefl, Nat.not_lt_zero, Nat.add_zero, Nat.zero_add, Nat.reduceEqDiff, Nat.reduceLeDiff, Nat.reduceLT, Nat.reduceAdd, Bool.false_eq_true, and_self, and_false, false_and, true_and, and_true, not_true_eq_false, not_false_eq_true]
  · simp (maxSteps := 500000) (disch := first | assumption | omega) only [h, q_l0, q_l1, q_l2, q_l3, q_l4, q_l5, q_l6, q_l7, q_l8, q_l9, q_l10, q_l11, q_l12, q_l13, q_l14, q_l15, q_l16, q_l20, q_l21, q_l22, q_l24, q_l25, q_l26, q_l27, q_l28, q_l29, q_l30, q_l31, q_l32, q_l40, q_l48, q_l57, q_l80, q_l97, q_l100, q_l120, q_l122, q_l126, q_l160, q_l200, q_l214, q_l255, q_l256, q_l374, q_l400, q_l999, q_l1000, q_l9999, q_l99, q_l99999, q_nm, q_gd, q_gd2, q_ix, q_lt, q_eq, q_m5a, q_m5b, q_m40b, q_m8a, q_m8b, q_m16b, q_m374b, q_m160b, q_m10a, q_div5, q_rem5, nI_add, q_moe, q_moe2, q_mol, q_mol2, q_mor, q_bd2, q_bd1, q_stI, q_oI0, if_true, if_false, ite_true, ite_false, ↓reduceIte, Nat.lt_irrefl, Nat.not_lt_zero, Nat.add_zero, Nat.zero_add, Nat.reduceEqDiff, Nat.reduceLeDiff, Nat.reduceLT, Nat.reduceAdd, Bool.false_eq_true, and_self, and_false, false_and, true_and, and_true, not_true_eq_false, not_false_eq_true]
end Ref
