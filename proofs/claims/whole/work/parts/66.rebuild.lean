/-! MATH HALF: rebuild, home -/
def setW (S : Sv) (x : Nat) (v : Int32) : Sv := (S.1, upd S.2.1 x v, S.2.2)
/-- the unit that is rebuilt in a stripe, where it goes -/
def rbX (Λ : Lv) (S : Sv) (k : Nat) : Nat := 5 * k + loU Λ S k
abbrev rbC (Λ : Lv) (S : Sv) (k : Nat) : Prop := lostC Λ S k = 1 ∧ (upP S (yK Λ (rbX Λ S k)) ∨ (0 < yQ Λ k ∧ upP S (yQ Λ k - 1) ∧ awU Λ S k = mo))
def rbW (Λ : Lv) (S : Sv) (k : Nat) : Sv := setW S (rbX Λ S k) (if upP S (yK Λ (rbX Λ S k)) then nI 0 else nI 1)
def rbS (Λ : Lv) (S : Sv) (k : Nat) : Sv := ldA Λ (rbW Λ S k) k (yZ Λ k)
/-- after so many stripes: how many are done, how it is -/
def rbL (Λ : Lv) (S : Sv) (many : Nat) : Nat → Nat × Sv
  | 0 => (0, S)
  | k + 1 => if (rbL Λ S many k).1 < many ∧ rbC Λ (rbL Λ S many k).2 k then ((rbL Λ S many k).1 + 1, rbS Λ (rbL Λ S many k).2 k) else rbL Λ S many k
section Rb
variable {Λ : Lv} {a x k d n i N many : Nat} {S T : Sv} {m : Mm} {t v : Int32}
theorem loU_lt (h : lostC Λ S k = 1) : loU Λ S k < yZ Λ k := ct_one (by unfold lostC at h; omega)
theorem loU_is (h : lostC Λ S k = 1) : S.2.1 (rbX Λ S k) = nI 2 := fs_is (fun u => S.2.1 (5 * k + u) = nI 2) (yZ Λ k) (loU_lt h)
theorem rbL_le : (rbL Λ S many k).1 ≤ k := by
  induction k with
  | zero => exact Nat.le_refl _
  | succ k ih =>
    unfold rbL
    split
    · dsimp only; omega
    · omega
theorem rbL_stop (h : ¬ (rbL Λ S many k).1 < many) : ∀ n, k ≤ n → rbL Λ S many n = rbL Λ S many k := by
  intro n
  induction n with
  | zero => intro h1; have : k = 0 := by omega
            subst this; rfl
  | succ n ih =>
    intro h1
    rcases Nat.lt_or_ge n k with h2 | h2
    · have : k = n + 1 := by omega
      subst this; rfl
    · have e := ih h2
      conv => lhs; unfold rbL
      rw [e, if_neg (fun h3 => h h3.1)]
theorem awU_cases (k : Nat) : (awU Λ S k = mo ∧ ∀ u, u < yZ Λ k → S.2.1 (5 * k + u) ≠ nI 1) ∨ ∃ u, u < yZ Λ k ∧ awU Λ S k = nI u ∧ S.2.1 (5 * k + u) = nI 1 := by
  unfold awU fo
  by_cases h : fs (fun u => S.2.1 (5 * k + u) = nI 1) (yZ Λ k) < yZ Λ k
  · right
    rw [if_pos h]
    exact ⟨_, h, rfl, fs_is (fun u => S.2.1 (5 * k + u) = nI 1) _ h⟩
  · left
    rw [if_neg h]
    exact ⟨rfl, fun u hu => fs_not (fun u => S.2.1 (5 * k + u) = nI 1) (yZ Λ k) u (by omega)⟩
theorem WS_rbS (hW : WL1 Λ) (hk : k < yS Λ) (hS : WS Λ S) (hA : WA Λ S) (hc : rbC Λ S k) : WS Λ (rbS Λ S k) ∧ WA Λ (rbS Λ S k) := by
  have hlt := loU_lt hc.1
  have h5 := (hW.2.2.2.1 k hk).2.1
  have e1 : rbX Λ S k / 5 = k := by unfold rbX; omega
  constructor
  · refine WS_c ldA_2 ?_
    intro x hx
    unfold rbW setW upd
    dsimp only
    by_cases h1 : x = rbX Λ S k
    · rw [if_pos h1]
      by_cases h2 : upP S (yK Λ (rbX Λ S k))
      · rw [if_pos h2]; exact Or.inl rfl
      · rw [if_neg h2]
        rcases hc.2 with h3 | h3
        · exact absurd h3 h2
        · exact Or.inr (Or.inl ⟨rfl, by rw [h1, e1]; exact h3.1⟩)
    · rw [if_neg h1]; exact hS x hx
  · refine WA_c ldA_2 ?_
    intro k2 u v hk2 hu hv h1 h2
    unfold rbW setW upd at h1 h2
    dsimp only at h1 h2
    have h6 := (hW.2.2.2.1 k2 hk2).2.1
    by_cases h7 : k2 = k
    · subst h7
      by_cases h8 : upP S (yK Λ (rbX Λ S k2))
      · rw [if_pos h8] at h1 h2
        by_cases h9 : 5 * k2 + u = rbX Λ S k2
        · rw [if_pos h9] at h1; exact absurd h1 n01
        · by_cases h10 : 5 * k2 + v = rbX Λ S k2
          · rw [if_pos h10] at h2; exact absurd h2 n01
          · rw [if_neg h9] at h1
            rw [if_neg h10] at h2
            exact hA k2 u v hk2 hu hv h1 h2
      · rcases hc.2 with h3 | h3
        · exact absurd h3 h8
        · rcases awU_cases (Λ := Λ) (S := S) k2 with ⟨_, h11⟩ | ⟨w, hw, h11, _⟩
          · by_cases h9 : 5 * k2 + u = rbX Λ S k2
            · by_cases h10 : 5 * k2 + v = rbX Λ S k2
              · omega
              · rw [if_neg h10] at h2; exact absurd h2 (h11 v hv)
            · rw [if_neg h9] at h1; exact absurd h1 (h11 u hu)
          · rw [h3.2.2, q_moe2 (by omega)] at h11
            exact h11.elim
    · have h9 : 5 * k2 + u ≠ rbX Λ S k := by unfold rbX; omega
      have h10 : 5 * k2 + v ≠ rbX Λ S k := by unfold rbX; omega
      rw [if_neg h9] at h1
      rw [if_neg h10] at h2
      exact hA k2 u v hk2 hu hv h1 h2
theorem WS_rbL (hW : WL1 Λ) (hS : WS Λ S) (hA : WA Λ S) : ∀ n, n ≤ yS Λ → WS Λ (rbL Λ S many n).2 ∧ WA Λ (rbL Λ S many n).2
  | 0, _ => ⟨hS, hA⟩
  | n + 1, h => by
    have ih := WS_rbL hW hS hA n (by omega)
    unfold rbL
    split
    · rename_i h1
      exact WS_rbS hW (by omega) ih.1 ih.2 h1.2
    · exact ih
theorem c_onlyLost (ha : 54 ≤ a) (hC : RelC Λ m) (hW : WL1 Λ) (hk : k < yS Λ) : f_X6_onlyLost a (nI k) (pS a S m) = some (if lostC Λ S k = 1 then nI (rbX Λ S k) else mo, pS a S m) := by
  have h3 := hW.2.1
  have h5 := (hW.2.2.2.1 k hk).2.1
  have hlt := loB_lt (S := S) hW hk
  have ho := only_pc _ hlt
  rw [pc_loB hW hk] at ho
  unfold f_X6_onlyLost
  rw [c_lostBits ha hC hW hk, q_bd2]
  refine lpf (fun j u => f_X6_onlyLost_L8 a j (nI k) (nI (loB Λ S k)) (nI u) (pS a S m)) (fun u => loB Λ S k = 2 ^ u) 5 _ (fun j hn => ?_) (fun j u hu hp hf => ?_) (fun j u hu hp => ?_) (by omega)
  · rw [fs_end hn] at ho
    simp (maxSteps := 500000) (disch := first | assumption | omega) only [f_X6_onlyLost_L8, q_l0, q_l1, q_l2, q_l3, q_l4, q_l5, q_l6, q_l7, q_l8, q_l9, q_l10, q_l11, q_l12, q_l13, q_l14, q_l15, q_l16, q_l20, q_l21, q_l22, q_l24, q_l25, q_l26, q_l27, q_l28, q_l29, q_l30, q_l31, q_l32, q_l40, q_l48, q_l57, q_l80, q_l97, q_l100, q_l120, q_l122, q_l126, q_l160, q_l200, q_l214, q_l255, q_l256, q_l374, q_l400, q_l999, q_l1000, q_l9999, q_l99, q_l99999, q_nm, q_gd, q_gd2, q_ix, q_lt, q_eq, q_m5a, q_m5b, q_m40b, q_m8a, q_m8b, q_m16b, q_m374b, q_m160b, q_m10a, q_div5, q_rem5, nI_add, q_moe, q_moe2, q_mol, q_mol2, q_mor, q_bd2, q_bd1, q_stI, q_oI0, if_true, if_false, ite_true, ite_false, ↓reduceIte, Nat.lt_irrefl, Nat.not_lt_zero, Nat.add_zero, Nat.zero_add, Nat.reduceEqDiff, Nat.reduceLeDiff, Nat.reduceLT, Nat.reduceAdd, Bool.false_eq_true, and_self, and_false, false_and, true_and, and_true, not_true_eq_false, not_false_eq_true]
    by_cases h1 : lostC Λ S k = 1
    · rw [if_pos h1] at ho
      have h2 := loU_lt h1
      have h4 : (loB Λ S k).testBit (loU Λ S k) = true := (lb_bit _ _ _).mpr ⟨h2, loU_is h1⟩
      exact absurd h4 (by
        have := fs_not (fun u => (loB Λ S k).testBit u = true) 5 (loU Λ S k) (by omega)
        exact this)
    · rw [if_neg h1]
  · have hb : (2 : Nat) ^ u < 2147483648 := by
      have : (2 : Nat) ^ u ≤ 2 ^ 5 := Nat.pow_le_pow_right (by decide) (by omega)
      omega
    simp (maxSteps := 500000) (disch := first | assumption | omega) only [f_X6_onlyLost_L8, q_l0, q_l1, q_l2, q_l3, q_l4, q_l5, q_l6, q_l7, q_l8, q_l9, q_l10, q_l11, q_l12, q_l13, q_l14, q_l15, q_l16, q_l20, q_l21, q_l22, q_l24, q_l25, q_l26, q_l27, q_l28, q_l29, q_l30, q_l31, q_l32, q_l40, q_l48, q_l57, q_l80, q_l97, q_l100, q_l120, q_l122, q_l126, q_l160, q_l200, q_l214, q_l255, q_l256, q_l374, q_l400, q_l999, q_l1000, q_l9999, q_l99, q_l99999, q_nm, q_gd, q_gd2, q_ix, q_lt, q_eq, q_m5a, q_m5b, q_m40b, q_m8a, q_m8b, q_m16b, q_m374b, q_m160b, q_m10a, q_div5, q_rem5, nI_add, q_moe, q_moe2, q_mol, q_mol2, q_mor, q_bd2, q_bd1, q_stI, q_oI0, if_true, if_false, ite_true, ite_false, ↓reduceIte, Nat.lt_irrefl, Nat.not_lt_zero, Nat.add_zero, Nat.zero_add, Nat.reduceEqDiff, Nat.reduceLeDiff, Nat.reduceLT, Nat.reduceAdd, Bool.false_eq_true, and_self, and_false, false_and, true_and, and_true, not_true_eq_false, not_false_eq_true, hu, q_shl, hp]
    rw [hf] at ho
    by_cases h1 : lostC Λ S k = 1
    · rw [if_pos h1] at ho ⊢
      have h2 := loU_lt h1
      have e : fs (fun u => (loB Λ S k).testBit u = true) 5 = loU Λ S k := by
        refine fs_eq (by omega) ((lb_bit _ _ _).mpr ⟨h2, loU_is h1⟩) (fun j hj hb => ?_)
        have := ((lb_bit _ _ _).mp hb).2
        exact fs_not (fun u => S.2.1 (5 * k + u) = nI 2) (yZ Λ k) j hj this
      rw [e] at ho
      unfold rbX
      rw [← ho]
    · rw [if_neg h1] at ho; omega
  · have hb : (2 : Nat) ^ u < 2147483648 := by
      have : (2 : Nat) ^ u ≤ 2 ^ 5 := Nat.pow_le_pow_right (by decide) (by omega)
      omega
    simp (maxSteps := 500000) (disch := first | assumption | omega) only [f_X6_onlyLost_L8, q_l0, q_l1, q_l2, q_l3, q_l4, q_l5, q_l6, q_l7, q_l8, q_l9, q_l10, q_l11, q_l12, q_l13, q_l14, q_l15, q_l16, q_l20, q_l21, q_l22, q_l24, q_l25, q_l26, q_l27, q_l28, q_l29, q_l30, q_l31, q_l32, q_l40, q_l48, q_l57, q_l80, q_l97, q_l100, q_l120, q_l122, q_l126, q_l160, q_l200, q_l214, q_l255, q_l256, q_l374, q_l400, q_l999, q_l1000, q_l9999, q_l99, q_l99999, q_nm, q_gd, q_gd2, q_ix, q_lt, q_eq, q_m5a, q_m5b, q_m40b, q_m8a, q_m8b, q_m16b, q_m374b, q_m160b, q_m10a, q_div5, q_rem5, nI_add, q_moe, q_moe2, q_mol, q_mol2, q_mor, q_bd2, q_bd1, q_stI, q_oI0, if_true, if_false, ite_true, ite_false, ↓reduceIte, Nat.lt_irrefl, Nat.not_lt_zero, Nat.add_zero, Nat.zero_add, Nat.reduceEqDiff, Nat.reduceLeDiff, Nat.reduceLT, Nat.reduceAdd, Bool.false_eq_true, and_self, and_false, false_and, true_and, and_true, not_true_eq_false, not_false_eq_true, hu, q_shl, hp]
theorem rbX_vx (hW : WL1 Λ) (hk : k < yS Λ) (h : lostC Λ S k = 1) : vx Λ (rbX Λ S k) := vx_mk hW hk (loU_lt h)
theorem c_rebuiltTo (ha : 54 ≤ a) (hC : RelC Λ m) (hW : WL1 Λ) (hk : k < yS Λ) (h1 : lostC Λ S k = 1) : f_X6_rebuiltTo a (nI (rbX Λ S k)) (pS a S m) = some (if upP S (yK Λ (rbX Λ S k)) then nI 0 else if rbC Λ S k then nI 1 else nI 2, pS a S m) := by
  have hC2 := hC
  obtain ⟨c0, c1, c2, c27, c28, c29, c30, c31, c32, c33, c34, c35, c36, c37, c38, c39⟩ := hC2
  have hv := rbX_vx hW hk h1
  have h2 := vy_lt hW hv
  have h3 := hW.2.1
  have h4 := hW.1
  have h5 := (hW.2.2.2.1 k hk)
  have h6 := loU_lt h1
  have e1 : rbX Λ S k / 5 = k := by unfold rbX; omega
  have hK := hW.2.2.2.2 _ hv
  simp (maxSteps := 500000) (disch := first | assumption | omega) only [f_X6_rebuiltTo, q_l0, q_l1, q_l2, q_l3, q_l4, q_l5, q_l6, q_l7, q_l8, q_l9, q_l10, q_l11, q_l12, q_l13, q_l14, q_l15, q_l16, q_l20, q_l21, q_l22, q_l24, q_l25, q_l26, q_l27, q_l28, q_l29, q_l30, q_l31, q_l32, q_l40, q_l48, q_l57, q_l80, q_l97, q_l100, q_l120, q_l122, q_l126, q_l160, q_l200, q_l214, q_l255, q_l256, q_l374, q_l400, q_l999, q_l1000, q_l9999, q_l99, q_l99999, q_nm, q_gd, q_gd2, q_ix, q_lt, q_eq, q_m5a, q_m5b, q_m40b, q_m8a, q_m8b, q_m16b, q_m374b, q_m160b, q_m10a, q_div5, q_rem5, nI_add, q_moe, q_moe2, q_mol, q_mol2, q_mor, q_bd2, q_bd1, q_stI, q_oI0, if_true, if_false, ite_true, ite_false, ↓reduceIte, Nat.lt_irrefl, Nat.not_lt_zero, Nat.add_zero, Nat.zero_add, Nat.reduceEqDiff, Nat.reduceLeDiff, Nat.reduceLT, Nat.reduceAdd, Bool.false_eq_true, and_self, and_false, false_and, true_and, and_true, not_true_eq_false, not_false_eq_true, pS_low, c33, c_isUp (S := S) (a := a) (m := m) (d := yK Λ (rbX Λ S k)) (by omega), e1, c30]
  by_cases hu : upP S (yK Λ (rbX Λ S k))
  · simp (maxSteps := 500000) (disch := first | assumption | omega) only [hu, upP, q_l0, q_l1, q_l2, q_l3, q_l4, q_l5, q_l6, q_l7, q_l8, q_l9, q_l10, q_l11, q_l12, q_l13, q_l14, q_l15, q_l16, q_l20, q_l21, q_l22, q_l24, q_l25, q_l26, q_l27, q_l28, q_l29, q_l30, q_l31, q_l32, q_l40, q_l48, q_l57, q_l80, q_l97, q_l100, q_l120, q_l122, q_l126, q_l160, q_l200, q_l214, q_l255, q_l256, q_l374, q_l400, q_l999, q_l1000, q_l9999, q_l99, q_l99999, q_nm, q_gd, q_gd2, q_ix, q_lt, q_eq, q_m5a, q_m5b, q_m40b, q_m8a, q_m8b, q_m16b, q_m374b, q_m160b, q_m10a, q_div5, q_rem5, nI_add, q_moe, q_moe2, q_mol, q_mol2, q_mor, q_bd2, q_bd1, q_stI, q_oI0, if_true, if_false, ite_true, ite_false, ↓reduceIte, Nat.lt_irrefl, Nat.not_lt_zero, Nat.add_zero, Nat.zero_add, Nat.reduceEqDiff, Nat.reduceLeDiff, Nat.reduceLT, Nat.reduceAdd, Bool.false_eq_true, and_self, and_false, false_and, true_and, and_true, not_true_eq_false, not_false_eq_true]
  · by_cases hq : yQ Λ k = 0
    · have hrb : ¬ rbC Λ S k := fun h => by
        rcases h.2 with h | h
        · exact hu h
        · omega
      simp (maxSteps := 500000) (disch := first | assumption | omega) only [hu, hrb, hq, q_l0, q_l1, q_l2, q_l3, q_l4, q_l5, q_l6, q_l7, q_l8, q_l9, q_l10, q_l11, q_l12, q_l13, q_l14, q_l15, q_l16, q_l20, q_l21, q_l22, q_l24, q_l25, q_l26, q_l27, q_l28, q_l29, q_l30, q_l31, q_l32, q_l40, q_l48, q_l57, q_l80, q_l97, q_l100, q_l120, q_l122, q_l126, q_l160, q_l200, q_l214, q_l255, q_l256, q_l374, q_l400, q_l999, q_l1000, q_l9999, q_l99, q_l99999, q_nm, q_gd, q_gd2, q_ix, q_lt, q_eq, q_m5a, q_m5b, q_m40b, q_m8a, q_m8b, q_m16b, q_m374b, q_m160b, q_m10a, q_div5, q_rem5, nI_add, q_moe, q_moe2, q_mol, q_mol2, q_mor, q_bd2, q_bd1, q_stI, q_oI0, if_true, if_false, ite_true, ite_false, ↓reduceIte, Nat.lt_irrefl, Nat.not_lt_zero, Nat.add_zero, Nat.zero_add, Nat.reduceEqDiff, Nat.reduceLeDiff, Nat.reduceLT, Nat.reduceAdd, Bool.false_eq_true, and_self, and_false, false_and, true_and, and_true, not_true_eq_false, not_false_eq_true, c_isUpN]
    · by_cases hu2 : upP S (yQ Λ k - 1)
      · by_cases hm : awU Λ S k = mo
        · have hrb : rbC Λ S k := ⟨h1, Or.inr ⟨by omega, hu2, hm⟩⟩
          have hu3 := c_isUp (S := S) (a := a) (m := m) (d := yQ Λ k - 1) (by omega)
          rw [if_pos hu2] at hu3
          rw [if_pos hrb]
          simp (maxSteps := 500000) (disch := first | assumption | omega) only [hu, q_l0, q_l1, q_l2, q_l3, q_l4, q_l5, q_l6, q_l7, q_l8, q_l9, q_l10, q_l11, q_l12, q_l13, q_l14, q_l15, q_l16, q_l20, q_l21, q_l22, q_l24, q_l25, q_l26, q_l27, q_l28, q_l29, q_l30, q_l31, q_l32, q_l40, q_l48, q_l57, q_l80, q_l97, q_l100, q_l120, q_l122, q_l126, q_l160, q_l200, q_l214, q_l255, q_l256, q_l374, q_l400, q_l999, q_l1000, q_l9999, q_l99, q_l99999, q_nm, q_gd, q_gd2, q_ix, q_lt, q_eq, q_m5a, q_m5b, q_m40b, q_m8a, q_m8b, q_m16b, q_m374b, q_m160b, q_m10a, q_div5, q_rem5, nI_add, q_moe, q_moe2, q_mol, q_mol2, q_mor, q_bd2, q_bd1, q_stI, q_oI0, if_true, if_false, ite_true, ite_false, ↓reduceIte, Nat.lt_irrefl, Nat.not_lt_zero, Nat.add_zero, Nat.zero_add, Nat.reduceEqDiff, Nat.reduceLeDiff, Nat.reduceLT, Nat.reduceAdd, Bool.false_eq_true, and_self, and_false, false_and, true_and, and_true, not_true_eq_false, not_false_eq_true, q_oIp, hu3, c_awayUnit ha hC hW hk, hm]
        · have hrb : ¬ rbC Λ S k := fun h => by
            rcases h.2 with h | h
            · exact hu h
            · exact hm h.2.2
          have hu3 := c_isUp (S := S) (a := a) (m := m) (d := yQ Λ k - 1) (by omega)
          rw [if_pos hu2] at hu3
          rw [if_neg hrb]
          simp (maxSteps := 500000) (disch := first | assumption | omega) only [hu, q_l0, q_l1, q_l2, q_l3, q_l4, q_l5, q_l6, q_l7, q_l8, q_l9, q_l10, q_l11, q_l12, q_l13, q_l14, q_l15, q_l16, q_l20, q_l21, q_l22, q_l24, q_l25, q_l26, q_l27, q_l28, q_l29, q_l30, q_l31, q_l32, q_l40, q_l48, q_l57, q_l80, q_l97, q_l100, q_l120, q_l122, q_l126, q_l160, q_l200, q_l214, q_l255, q_l256, q_l374, q_l400, q_l999, q_l1000, q_l9999, q_l99, q_l99999, q_nm, q_gd, q_gd2, q_ix, q_lt, q_eq, q_m5a, q_m5b, q_m40b, q_m8a, q_m8b, q_m16b, q_m374b, q_m160b, q_m10a, q_div5, q_rem5, nI_add, q_moe, q_moe2, q_mol, q_mol2, q_mor, q_bd2, q_bd1, q_stI, q_oI0, if_true, if_false, ite_true, ite_false, ↓reduceIte, Nat.lt_irrefl, Nat.not_lt_zero, Nat.add_zero, Nat.zero_add, Nat.reduceEqDiff, Nat.reduceLeDiff, Nat.reduceLT, Nat.reduceAdd, Bool.false_eq_true, and_self, and_false, false_and, true_and, and_true, not_true_eq_false, not_false_eq_true, q_oIp, hu3, c_awayUnit ha hC hW hk, hm]
      · have hrb : ¬ rbC Λ S k := fun h => by
          rcases h.2 with h | h
          · exact hu h
          · exact hu2 h.2.1
        have hu3 := c_isUp (S := S) (a := a) (m := m) (d := yQ Λ k - 1) (by omega)
        rw [if_neg hu2] at hu3
        rw [if_neg hrb]
        simp (maxSteps := 500000) (disch := first | assumption | omega) only [hu, q_l0, q_l1, q_l2, q_l3, q_l4, q_l5, q_l6, q_l7, q_l8, q_l9, q_l10, q_l11, q_l12, q_l13, q_l14, q_l15, q_l16, q_l20, q_l21, q_l22, q_l24, q_l25, q_l26, q_l27, q_l28, q_l29, q_l30, q_l31, q_l32, q_l40, q_l48, q_l57, q_l80, q_l97, q_l100, q_l120, q_l122, q_l126, q_l160, q_l200, q_l214, q_l255, q_l256, q_l374, q_l400, q_l999, q_l1000, q_l9999, q_l99, q_l99999, q_nm, q_gd, q_gd2, q_ix, q_lt, q_eq, q_m5a, q_m5b, q_m40b, q_m8a, q_m8b, q_m16b, q_m374b, q_m160b, q_m10a, q_div5, q_rem5, nI_add, q_moe, q_moe2, q_mol, q_mol2, q_mor, q_bd2, q_bd1, q_stI, q_oI0, if_true, if_false, ite_true, ite_false, ↓reduceIte, Nat.lt_irrefl, Nat.not_lt_zero, Nat.add_zero, Nat.zero_add, Nat.reduceEqDiff, Nat.reduceLeDiff, Nat.reduceLT, Nat.reduceAdd, Bool.false_eq_true, and_self, and_false, false_and, true_and, and_true, not_true_eq_false, not_false_eq_true, q_oIp, hu3]
theorem c_rebuildUnits (ha : 54 ≤ a) (hC : RelC Λ m) (hW : WL1 Λ) (hS : WS Λ S) (hA : WA Λ S) (hm : many < 2147483648) : f_X6_rebuildUnits a (nI many) (pS a S m) = some (nI (rbL Λ S many (yS Λ)).1, pS a (rbL Λ S many (yS Λ)).2 m) := by
  have hC2 := hC
  obtain ⟨c0, c1, c2, c27, c28, c29, c30, c31, c32, c33, c34, c35, c36, c37, c38, c39⟩ := hC2
  have h3 := hW.2.1
  refine lpE0 (fun j k => f_X6_rebuildUnits_L4 a j (nI many) (nI (rbL Λ S many k).1) (nI k) (pS a (rbL Λ S many k).2 m)) (yS Λ) _ (fun j => ?_) (fun j k hk => ?_) (by omega)
  · have hle := rbL_le (Λ := Λ) (S := S) (many := many) (k := yS Λ)
    simp (maxSteps := 500000) (disch := first | assumption | omega) only [f_X6_rebuildUnits_L4, q_l0, q_l1, q_l2, q_l3, q_l4, q_l5, q_l6, q_l7, q_l8, q_l9, q_l10, q_l11, q_l12, q_l13, q_l14, q_l15, q_l16, q_l20, q_l21, q_l22, q_l24, q_l25, q_l26, q_l27, q_l28, q_l29, q_l30, q_l31, q_l32, q_l40, q_l48, q_l57, q_l80, q_l97, q_l100, q_l120, q_l122, q_l126, q_l160, q_l200, q_l214, q_l255, q_l256, q_l374, q_l400, q_l999, q_l1000, q_l9999, q_l99, q_l99999, q_nm, q_gd, q_gd2, q_ix, q_lt, q_eq, q_m5a, q_m5b, q_m40b, q_m8a, q_m8b, q_m16b, q_m374b, q_m160b, q_m10a, q_div5, q_rem5, nI_add, q_moe, q_moe2, q_mol, q_mol2, q_mor, q_bd2, q_bd1, q_stI, q_oI0, if_true, if_false, ite_true, ite_false, ↓reduceIte, Nat.lt_irrefl, Nat.not_lt_zero, Nat.add_zero, Nat.zero_add, Nat.reduceEqDiff, Nat.reduceLeDiff, Nat.reduceLT, Nat.reduceAdd, Bool.false_eq_true, and_self, and_false, false_and, true_and, and_true, not_true_eq_false, not_false_eq_true, pS_low, c1]
  · have hle := rbL_le (Λ := Λ) (S := S) (many := many) (k := k)
    have hWS := WS_rbL (many := many) hW hS hA k (by omega)
    by_cases hd : (rbL Λ S many k).1 < many
    · left
      simp (maxSteps := 500000) (disch := first | assumption | omega) only [f_X6_rebuildUnits_L4, q_l0, q_l1, q_l2, q_l3, q_l4, q_l5, q_l6, q_l7, q_l8, q_l9, q_l10, q_l11, q_l12, q_l13, q_l14, q_l15, q_l16, q_l20, q_l21, q_l22, q_l24, q_l25, q_l26, q_l27, q_l28, q_l29, q_l30, q_l31, q_l32, q_l40, q_l48, q_l57, q_l80, q_l97, q_l100, q_l120, q_l122, q_l126, q_l160, q_l200, q_l214, q_l255, q_l256, q_l374, q_l400, q_l999, q_l1000, q_l9999, q_l99, q_l99999, q_nm, q_gd, q_gd2, q_ix, q_lt, q_eq, q_m5a, q_m5b, q_m40b, q_m8a, q_m8b, q_m16b, q_m374b, q_m160b, q_m10a, q_div5, q_rem5, nI_add, q_moe, q_moe2, q_mol, q_mol2, q_mor, q_bd2, q_bd1, q_stI, q_oI0, if_true, if_false, ite_true, ite_false, ↓reduceIte, Nat.lt_irrefl, Nat.not_lt_zero, Nat.add_zero, Nat.zero_add, Nat.reduceEqDiff, Nat.reduceLeDiff, Nat.reduceLT, Nat.reduceAdd, Bool.false_eq_true, and_self, and_false, false_and, true_and, and_true, not_true_eq_false, not_false_eq_true, pS_low, c1, hk, hd, c_onlyLost ha hC hW hk]
      by_cases h1 : lostC Λ (rbL Λ S many k).2 k = 1
      · have hv := rbX_vx hW hk h1
        have h2 := vy_lt hW hv
        rw [if_pos h1]
        simp (maxSteps := 500000) (disch := first | assumption | omega) only [q_l0, q_l1, q_l2, q_l3, q_l4, q_l5, q_l6, q_l7, q_l8, q_l9, q_l10, q_l11, q_l12, q_l13, q_l14, q_l15, q_l16, q_l20, q_l21, q_l22, q_l24, q_l25, q_l26, q_l27, q_l28, q_l29, q_l30, q_l31, q_l32, q_l40, q_l48, q_l57, q_l80, q_l97, q_l100, q_l120, q_l122, q_l126, q_l160, q_l200, q_l214, q_l255, q_l256, q_l374, q_l400, q_l999, q_l1000, q_l9999, q_l99, q_l99999, q_nm, q_gd, q_gd2, q_ix, q_lt, q_eq, q_m5a, q_m5b, q_m40b, q_m8a, q_m8b, q_m16b, q_m374b, q_m160b, q_m10a, q_div5, q_rem5, nI_add, q_moe, q_moe2, q_mol, q_mol2, q_mor, q_bd2, q_bd1, q_stI, q_oI0, if_true, if_false, ite_true, ite_false, ↓reduceIte, Nat.lt_irrefl, Nat.not_lt_zero, Nat.add_zero, Nat.zero_add, Nat.reduceEqDiff, Nat.reduceLeDiff, Nat.reduceLT, Nat.reduceAdd, Bool.false_eq_true, and_self, and_false, false_and, true_and, and_true, not_true_eq_false, not_false_eq_true, c_rebuiltTo ha hC hW hk h1]
        by_cases hc : rbC Λ (rbL Λ S many k).2 k
        · have e : rbL Λ S many (k + 1) = ((rbL Λ S many k).1 + 1, rbS Λ (rbL Λ S many k).2 k) := by
            conv => lhs; unfold rbL
            rw [if_pos ⟨hd, hc⟩]
          have hw2 : WS Λ (rbW Λ (rbL Λ S many k).2 k) := by
            have := (WS_rbS hW hk hWS.1 hWS.2 hc).1
            exact WS_c (T := rbW Λ (rbL Λ S many k).2 k) (S := rbS Λ (rbL Λ S many k).2 k) (by unfold rbS; rw [ldA_2]) this
          rw [e]
          dsimp only
          have ht := c_loadThere ha hC hW hw2 hk
          unfold rbW setW at ht
          by_cases hu : upP (rbL Λ S many k).2 (yK Λ (rbX Λ (rbL Λ S many k).2 k))
          · rw [if_pos hu] at ht ⊢
            unfold f_X6_rebuildUnits_J43
            simp (maxSteps := 500000) (disch := first | assumption | omega) only [q_l0, q_l1, q_l2, q_l3, q_l4, q_l5, q_l6, q_l7, q_l8, q_l9, q_l10, q_l11, q_l12, q_l13, q_l14, q_l15, q_l16, q_l20, q_l21, q_l22, q_l24, q_l25, q_l26, q_l27, q_l28, q_l29, q_l30, q_l31, q_l32, q_l40, q_l48, q_l57, q_l80, q_l97, q_l100, q_l120, q_l122, q_l126, q_l160, q_l200, q_l214, q_l255, q_l256, q_l374, q_l400, q_l999, q_l1000, q_l9999, q_l99, q_l99999, q_nm, q_gd, q_gd2, q_ix, q_lt, q_eq, q_m5a, q_m5b, q_m40b, q_m8a, q_m8b, q_m16b, q_m374b, q_m160b, q_m10a, q_div5, q_rem5, nI_add, q_moe, q_moe2, q_mol, q_mol2, q_mor, q_bd2, q_bd1, q_stI, q_oI0, if_true, if_false, ite_true, ite_false, ↓reduceIte, Nat.lt_irrefl, Nat.not_lt_zero, Nat.add_zero, Nat.zero_add, Nat.reduceEqDiff, Nat.reduceLeDiff, Nat.reduceLT, Nat.reduceAdd, Bool.false_eq_true, and_self, and_false, false_and, true_and, and_true, not_true_eq_false, not_false_eq_true, n02, pS_swh, ht]
            unfold rbS rbW setW
            rw [if_pos hu]
          · rw [if_neg hu] at ht ⊢
            rw [if_pos hc]
            unfold f_X6_rebuildUnits_J43
            simp (maxSteps := 500000) (disch := first | assumption | omega) only [q_l0, q_l1, q_l2, q_l3, q_l4, q_l5, q_l6, q_l7, q_l8, q_l9, q_l10, q_l11, q_l12, q_l13, q_l14, q_l15, q_l16, q_l20, q_l21, q_l22, q_l24, q_l25, q_l26, q_l27, q_l28, q_l29, q_l30, q_l31, q_l32, q_l40, q_l48, q_l57, q_l80, q_l97, q_l100, q_l120, q_l122, q_l126, q_l160, q_l200, q_l214, q_l255, q_l256, q_l374, q_l400, q_l999, q_l1000, q_l9999, q_l99, q_l99999, q_nm, q_gd, q_gd2, q_ix, q_lt, q_eq, q_m5a, q_m5b, q_m40b, q_m8a, q_m8b, q_m16b, q_m374b, q_m160b, q_m10a, q_div5, q_rem5, nI_add, q_moe, q_moe2, q_mol, q_mol2, q_mor, q_bd2, q_bd1, q_stI, q_oI0, if_true, if_false, ite_true, ite_false, ↓reduceIte, Nat.lt_irrefl, Nat.not_lt_zero, Nat.add_zero, Nat.zero_add, Nat.reduceEqDiff, Nat.reduceLeDiff, Nat.reduceLT, Nat.reduceAdd, Bool.false_eq_true, and_self, and_false, false_and, true_and, and_true, not_true_eq_false, not_false_eq_true, n12, pS_swh, ht]
            unfold rbS rbW setW
            rw [if_neg hu]
        · have e : rbL Λ S many (k + 1) = rbL Λ S many k := by
            conv => lhs; unfold rbL
            rw [if_neg (fun h => hc h.2)]
          have hu : ¬ upP (rbL Λ S many k).2 (yK Λ (rbX Λ (rbL Λ S many k).2 k)) := fun h => hc ⟨h1, Or.inl h⟩
          rw [if_neg hu, if_neg hc, e]
          unfold f_X6_rebuildUnits_J43
          simp (maxSteps := 500000) (disch := first | assumption | omega) only [q_l0, q_l1, q_l2, q_l3, q_l4, q_l5, q_l6, q_l7, q_l8, q_l9, q_l10, q_l11, q_l12, q_l13, q_l14, q_l15, q_l16, q_l20, q_l21, q_l22, q_l24, q_l25, q_l26, q_l27, q_l28, q_l29, q_l30, q_l31, q_l32, q_l40, q_l48, q_l57, q_l80, q_l97, q_l100, q_l120, q_l122, q_l126, q_l160, q_l200, q_l214, q_l255, q_l256, q_l374, q_l400, q_l999, q_l1000, q_l9999, q_l99, q_l99999, q_nm, q_gd, q_gd2, q_ix, q_lt, q_eq, q_m5a, q_m5b, q_m40b, q_m8a, q_m8b, q_m16b, q_m374b, q_m160b, q_m10a, q_div5, q_rem5, nI_add, q_moe, q_moe2, q_mol, q_mol2, q_mor, q_bd2, q_bd1, q_stI, q_oI0, if_true, if_false, ite_true, ite_false, ↓reduceIte, Nat.lt_irrefl, Nat.not_lt_zero, Nat.add_zero, Nat.zero_add, Nat.reduceEqDiff, Nat.reduceLeDiff, Nat.reduceLT, Nat.reduceAdd, Bool.false_eq_true, and_self, and_false, false_and, true_and, and_true, not_true_eq_false, not_false_eq_true]
      · have e : rbL Λ S many (k + 1) = rbL Λ S many k := by
          conv => lhs; unfold rbL
          rw [if_neg (fun h => h1 h.2.1)]
        rw [if_neg h1, e]
        unfold f_X6_rebuildUnits_J43
        simp (maxSteps := 500000) (disch := first | assumption | omega) only [q_l0, q_l1, q_l2, q_l3, q_l4, q_l5, q_l6, q_l7, q_l8, q_l9, q_l10, q_l11, q_l12, q_l13, q_l14, q_l15, q_l16, q_l20, q_l21, q_l22, q_l24, q_l25, q_l26, q_l27, q_l28, q_l29, q_l30, q_l31, q_l32, q_l40, q_l48, q_l57, q_l80, q_l97, q_l100, q_l120, q_l122, q_l126, q_l160, q_l200, q_l214, q_l255, q_l256, q_l374, q_l400, q_l999, q_l1000, q_l9999, q_l99, q_l99999, q_nm, q_gd, q_gd2, q_ix, q_lt, q_eq, q_m5a, q_m5b, q_m40b, q_m8a, q_m8b, q_m16b, q_m374b, q_m160b, q_m10a, q_div5, q_rem5, nI_add, q_moe, q_moe2, q_mol, q_mol2, q_mor, q_bd2, q_bd1, q_stI, q_oI0, if_true, if_false, ite_true, ite_false, ↓reduceIte, Nat.lt_irrefl, Nat.not_lt_zero, Nat.add_zero, Nat.zero_add, Nat.reduceEqDiff, Nat.reduceLeDiff, Nat.reduceLT, Nat.reduceAdd, Bool.false_eq_true, and_self, and_false, false_and, true_and, and_true, not_true_eq_false, not_false_eq_true]
    · right
      rw [rbL_stop hd (yS Λ) (by omega)]
      simp (maxSteps := 500000) (disch := first | assumption | omega) only [f_X6_rebuildUnits_L4, q_l0, q_l1, q_l2, q_l3, q_l4, q_l5, q_l6, q_l7, q_l8, q_l9, q_l10, q_l11, q_l12, q_l13, q_l14, q_l15, q_l16, q_l20, q_l21, q_l22, q_l24, q_l25, q_l26, q_l27, q_l28, q_l29, q_l30, q_l31, q_l32, q_l40, q_l48, q_l57, q_l80, q_l97, q_l100, q_l120, q_l122, q_l126, q_l160, q_l200, q_l214, q_l255, q_l256, q_l374, q_l400, q_l999, q_l1000, q_l9999, q_l99, q_l99999, q_nm, q_gd, q_gd2, q_ix, q_lt, q_eq, q_m5a, q_m5b, q_m40b, q_m8a, q_m8b, q_m16b, q_m374b, q_m160b, q_m10a, q_div5, q_rem5, nI_add, q_moe, q_moe2, q_mol, q_mol2, q_mor, q_bd2, q_bd1, q_stI, q_oI0, if_true, if_false, ite_true, ite_false, ↓reduceIte, Nat.lt_irrefl, Nat.not_lt_zero, Nat.add_zero, Nat.zero_add, Nat.reduceEqDiff, Nat.reduceLeDiff, Nat.reduceLT, Nat.reduceAdd, Bool.false_eq_true, and_self, and_false, false_and, true_and, and_true, not_true_eq_false, not_false_eq_true, pS_low, c1, hk, hd]
end Rb
