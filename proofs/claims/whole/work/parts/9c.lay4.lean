/-! MATH HALF: a stripe laid by the class -/
theorem lpI {σ α : Type} (F : Nat → Nat → σ → Option α) (I : Nat → σ → Prop) (n : Nat) (R : Option α → Prop) (he : ∀ k s, I n s → R (F (k + 1) n s)) (hs : ∀ k u s, u < n → I u s → ∃ s', I (u + 1) s' ∧ F (k + 1) u s = F k (u + 1) s') : ∀ k u s, u ≤ n → n < u + k → I u s → R (F k u s) := by
  intro k
  induction k with
  | zero => intro u s h1 h2; omega
  | succ k ih =>
    intro u s h1 h2 h3
    by_cases e : u = n
    · subst e; exact he k s h3
    · obtain ⟨s', h4, h5⟩ := hs k u s (by omega) h3
      rw [h5]
      exact ih (u + 1) s' (by omega) (by omega) h4
/-- the law's own cells aside, all as it was -/
def lwS (t : Nat) (m m2 : Mm) : Prop := m2.2 = m.2 ∧ ∀ b i, ¬ (b = t + 4 ∧ i = 3) → b ≠ t + 6 → m2.1 b i = m.1 b i
/-- the class's law gives the parity -/
def LawC (t : Nat) (P : Pv) (m : Mm) : Prop := ∀ m', m'.1 (t + 4) 1 = m.1 (t + 4) 1 → (∀ i, m'.1 (t + 5) i = m.1 (t + 5) i) → ∀ k z d b, k < 40 → 2 ≤ z → z ≤ 5 → d < 13 → b < 6 → ∃ m2, f_X3_parityOf (t + 4) (nI k) (nI z) (nI d) (nI b) m' = some (nI (P k z d b), m2) ∧ lwS t m' m2
def BCn (Λ : Lv) (n : Nat) (β : Bv) : Prop := β 0 0 = nI (yD Λ) ∧ β 0 1 = nI n ∧ NDi Λ (5 * n) β ∧ (∀ k, k < n → β 1 k = nI (yZ Λ k) ∧ β 2 k = nI (yP Λ k) ∧ β 3 k = nI (yB Λ k) ∧ β 6 k = nI (yM Λ k)) ∧ (∀ x, vx Λ x → x / 5 < n → β 7 x = nI (yK Λ x) ∧ β 8 x = nI (yH Λ x)) ∧ ∀ d, d < 13 → β 11 d = nI (ct (fun k => onK Λ k d) n) ∧ β 12 d = nI (ct (fun k => yK Λ (5 * k + yP Λ k) = d) n) ∧ β 13 d = nI 0
section Lay4
variable {T Λ : Lv} {P : Pv} {nd a b k p u x n d i j A c c2 t : Nat} {q q2 : Nat → Nat} {β γ : Bv} {m m2 : Mm} {v : Int32}
theorem q_md (h0 : 0 < b) (ha : a < 2147483648) (hb : b < 2147483648) : nI a - nI a / nI b * nI b = nI (a % b) := by
  rw [pk_div ha h0 hb, pk_mul]
  have h1 : a / b * b ≤ a := Nat.div_mul_le_self a b
  rw [pk_sub h1]
  congr 1
  have := Nat.div_add_mod a b
  rw [Nat.mul_comm] at this
  omega
theorem q_nz1 {α : Type} {A : Option α} (h0 : 0 < n) (hn : n < 2147483648) : gd (nz (nI n)) A = A := by
  unfold gd nz
  have : ¬ nI n = 0 := fun e => by
    rw [q_l0, q_eq (by omega) (by omega)] at e
    omega
  rw [if_pos (by simpa using this)]
theorem c_diskIn (hC : ToC t T m) (h : okT T P nd) (hb : b < tB T) (hp : p < sN T nd b) (hu : u < tZ T b) : f_X8_diskIn t (nI b) (nI u) (nI p) (nI nd) m = some (nI (dIn T nd b p u), m) := by
  have h6 := h.1.2.2.1
  have h5 := h.1.2.2.2.2.2.2.1 b hb
  have hM := h.1.2.2.2.2.2.2.2.1 b u hb hu
  have h13 := h.2.1
  have hle := h.2.2.1
  have c1 := hC.2.2.2.1 b hb
  have c3 := hC.2.2.2.2.2 b u hb hu
  unfold f_X8_diskIn dIn
  unfold sN at hp
  by_cases k1 : tK T b = 1
  · have k0 : ¬ tK T b = 0 := by omega
    rw [if_neg k0, if_pos k1] at hp
    have e := q_md (a := tM T (5 * b + u) + p) (b := nd) (by omega) (by omega) (by omega)
    have hn0 : 0 < nd := by omega
    simp (maxSteps := 500000) (disch := first | assumption | omega) only [q_l0, q_l1, q_l2, q_l3, q_l4, q_l5, q_l6, q_l7, q_l8, q_l9, q_l10, q_l11, q_l12, q_l13, q_l14, q_l15, q_l16, q_l20, q_l21, q_l22, q_l24, q_l25, q_l26, q_l27, q_l28, q_l29, q_l30, q_l31, q_l32, q_l40, q_l48, q_l57, q_l80, q_l97, q_l100, q_l120, q_l122, q_l126, q_l160, q_l200, q_l214, q_l255, q_l256, q_l374, q_l400, q_l999, q_l1000, q_l9999, q_l99, q_l99999, q_nm, q_gd, q_gd2, q_ix, q_lt, q_eq, q_m5a, q_m5b, q_m40b, q_m8a, q_m8b, q_m16b, q_m374b, q_m160b, q_m10a, q_div5, q_rem5, nI_add, q_moe, q_moe2, q_mol, q_mol2, q_mor, q_bd2, q_bd1, q_stI, q_oI0, if_true, if_false, ite_true, ite_false, ↓reduceIte, Nat.lt_irrefl, Nat.not_lt_zero, Nat.add_zero, Nat.zero_add, Nat.reduceEqDiff, Nat.reduceLeDiff, Nat.reduceLT, Nat.reduceAdd, Bool.false_eq_true, and_self, and_false, false_and, true_and, and_true, not_true_eq_false, not_false_eq_true, c1, c3, k1, q_nz1, e, hn0]
  · by_cases k2 : tK T b = 2
    · by_cases p1 : p = 1
      · have e1 : nI nd - nI 1 = nI (nd - 1) := pk_sub (by omega)
        have e2 : nI (nd - 1) - nI (tM T (5 * b + u)) = nI (nd - 1 - tM T (5 * b + u)) := pk_sub (by omega)
        simp (maxSteps := 500000) (disch := first | assumption | omega) only [f_X8_diskIn_J35, q_l0, q_l1, q_l2, q_l3, q_l4, q_l5, q_l6, q_l7, q_l8, q_l9, q_l10, q_l11, q_l12, q_l13, q_l14, q_l15, q_l16, q_l20, q_l21, q_l22, q_l24, q_l25, q_l26, q_l27, q_l28, q_l29, q_l30, q_l31, q_l32, q_l40, q_l48, q_l57, q_l80, q_l97, q_l100, q_l120, q_l122, q_l126, q_l160, q_l200, q_l214, q_l255, q_l256, q_l374, q_l400, q_l999, q_l1000, q_l9999, q_l99, q_l99999, q_nm, q_gd, q_gd2, q_ix, q_lt, q_eq, q_m5a, q_m5b, q_m40b, q_m8a, q_m8b, q_m16b, q_m374b, q_m160b, q_m10a, q_div5, q_rem5, nI_add, q_moe, q_moe2, q_mol, q_mol2, q_mor, q_bd2, q_bd1, q_stI, q_oI0, if_true, if_false, ite_true, ite_false, ↓reduceIte, Nat.lt_irrefl, Nat.not_lt_zero, Nat.add_zero, Nat.zero_add, Nat.reduceEqDiff, Nat.reduceLeDiff, Nat.reduceLT, Nat.reduceAdd, Bool.false_eq_true, and_self, and_false, false_and, true_and, and_true, not_true_eq_false, not_false_eq_true, c1, c3, k1, k2, p1, e1, e2]
      · have hp2 : p < 2147483648 := by
          split at hp <;> omega
        simp (maxSteps := 500000) (disch := first | assumption | omega) only [f_X8_diskIn_J35, q_l0, q_l1, q_l2, q_l3, q_l4, q_l5, q_l6, q_l7, q_l8, q_l9, q_l10, q_l11, q_l12, q_l13, q_l14, q_l15, q_l16, q_l20, q_l21, q_l22, q_l24, q_l25, q_l26, q_l27, q_l28, q_l29, q_l30, q_l31, q_l32, q_l40, q_l48, q_l57, q_l80, q_l97, q_l100, q_l120, q_l122, q_l126, q_l160, q_l200, q_l214, q_l255, q_l256, q_l374, q_l400, q_l999, q_l1000, q_l9999, q_l99, q_l99999, q_nm, q_gd, q_gd2, q_ix, q_lt, q_eq, q_m5a, q_m5b, q_m40b, q_m8a, q_m8b, q_m16b, q_m374b, q_m160b, q_m10a, q_div5, q_rem5, nI_add, q_moe, q_moe2, q_mol, q_mol2, q_mor, q_bd2, q_bd1, q_stI, q_oI0, if_true, if_false, ite_true, ite_false, ↓reduceIte, Nat.lt_irrefl, Nat.not_lt_zero, Nat.add_zero, Nat.zero_add, Nat.reduceEqDiff, Nat.reduceLeDiff, Nat.reduceLT, Nat.reduceAdd, Bool.false_eq_true, and_self, and_false, false_and, true_and, and_true, not_true_eq_false, not_false_eq_true, c1, c3, k1, k2, p1]
    · simp (maxSteps := 500000) (disch := first | assumption | omega) only [f_X8_diskIn_J35, q_l0, q_l1, q_l2, q_l3, q_l4, q_l5, q_l6, q_l7, q_l8, q_l9, q_l10, q_l11, q_l12, q_l13, q_l14, q_l15, q_l16, q_l20, q_l21, q_l22, q_l24, q_l25, q_l26, q_l27, q_l28, q_l29, q_l30, q_l31, q_l32, q_l40, q_l48, q_l57, q_l80, q_l97, q_l100, q_l120, q_l122, q_l126, q_l160, q_l200, q_l214, q_l255, q_l256, q_l374, q_l400, q_l999, q_l1000, q_l9999, q_l99, q_l99999, q_nm, q_gd, q_gd2, q_ix, q_lt, q_eq, q_m5a, q_m5b, q_m40b, q_m8a, q_m8b, q_m16b, q_m374b, q_m160b, q_m10a, q_div5, q_rem5, nI_add, q_moe, q_moe2, q_mol, q_mol2, q_mor, q_bd2, q_bd1, q_stI, q_oI0, if_true, if_false, ite_true, ite_false, ↓reduceIte, Nat.lt_irrefl, Nat.not_lt_zero, Nat.add_zero, Nat.zero_add, Nat.reduceEqDiff, Nat.reduceLeDiff, Nat.reduceLT, Nat.reduceAdd, Bool.false_eq_true, and_self, and_false, false_and, true_and, and_true, not_true_eq_false, not_false_eq_true, c1, c3, k1, k2]
theorem ct_X (h1 : WL1 Λ) (hy : WLy Λ) (hx : dat Λ x) : ct (dat Λ) x < 160 := by
  have := hx.1.1
  have h2 := ct_step (p := dat Λ) (n := 5 * yS Λ) hx (by omega)
  rw [← hy.1] at h2
  have := h1.2.2.1
  omega
/-- the data of a stripe numbered -/
theorem c_num (h1 : WL1 Λ) (hy : WLy Λ) (hn : n < yS Λ) (b1 : β 1 n = nI (yZ Λ n)) (b2 : β 2 n = nI (yP Λ n)) (hN : NDi Λ (5 * n) β) : ∃ γ, f_X4_numberData A (nI n) (pB A β m) = some (pB A γ m) ∧ NDi Λ (5 * (n + 1)) γ ∧ ∀ c i, c ≠ 9 → c ≠ 10 → ¬ (c = 0 ∧ i = 2) → γ c i = β c i := by
  have h5 := h1.2.2.2.1 n hn
  have h40 := h1.2.1
  have hZ : ∀ u, u < yZ Λ n → vx Λ (5 * n + u) := fun u hu => vx_mk h1 hn hu
  unfold f_X4_numberData
  rw [q_l0]
  refine lpI (fun j u γ => f_X4_numberData_L2 A j (nI n) (nI u) (pB A γ m)) (fun u γ => NDi Λ (5 * n + u) γ ∧ ∀ c i, c ≠ 9 → c ≠ 10 → ¬ (c = 0 ∧ i = 2) → γ c i = β c i) (yZ Λ n) (fun o => ∃ γ, o = some (pB A γ m) ∧ NDi Λ (5 * (n + 1)) γ ∧ ∀ c i, c ≠ 9 → c ≠ 10 → ¬ (c = 0 ∧ i = 2) → γ c i = β c i) (fun j γ hI => ?_) (fun j u γ hu hI => ?_) FU 0 β (by omega) (by show _ < 0 + 4096; omega) ⟨hN, fun _ _ _ _ _ => rfl⟩
  · obtain ⟨hI, hf⟩ := hI
    refine ⟨γ, ?_, ?_, hf⟩
    · have g1 : γ 1 n = nI (yZ Λ n) := (hf 1 n (by decide) (by decide) (by omega)).trans b1
      simp (maxSteps := 500000) (disch := first | assumption | omega) only [f_X4_numberData_L2, q_l0, q_l1, q_l2, q_l3, q_l4, q_l5, q_l6, q_l7, q_l8, q_l9, q_l10, q_l11, q_l12, q_l13, q_l14, q_l15, q_l16, q_l20, q_l21, q_l22, q_l24, q_l25, q_l26, q_l27, q_l28, q_l29, q_l30, q_l31, q_l32, q_l40, q_l48, q_l57, q_l80, q_l97, q_l100, q_l120, q_l122, q_l126, q_l160, q_l200, q_l214, q_l255, q_l256, q_l374, q_l400, q_l999, q_l1000, q_l9999, q_l99, q_l99999, q_nm, q_gd, q_gd2, q_ix, q_lt, q_eq, q_m5a, q_m5b, q_m40b, q_m8a, q_m8b, q_m16b, q_m374b, q_m160b, q_m10a, q_div5, q_rem5, nI_add, q_moe, q_moe2, q_mol, q_mol2, q_mor, q_bd2, q_bd1, q_stI, q_oI0, if_true, if_false, ite_true, ite_false, ↓reduceIte, Nat.lt_irrefl, Nat.not_lt_zero, Nat.add_zero, Nat.zero_add, Nat.reduceEqDiff, Nat.reduceLeDiff, Nat.reduceLT, Nat.reduceAdd, Bool.false_eq_true, and_self, and_false, false_and, true_and, and_true, not_true_eq_false, not_false_eq_true, pB_g, pB_g0, g1]
    · have e : ct (dat Λ) (5 * (n + 1)) = ct (dat Λ) (5 * n + yZ Λ n) := by
        refine ct_ext (by omega) (fun i h2 h3 h4 => ?_)
        have q1 : i / 5 = n := by omega
        have := h4.1.2
        rw [q1] at this
        omega
      refine ⟨by rw [e]; exact hI.1, fun x hx hx2 => hI.2.1 x hx ?_, fun i hi => hI.2.2 i (by rw [e] at hi; exact hi)⟩
      have := hx.2
      by_cases q1 : x / 5 = n
      · rw [q1] at this
        omega
      · omega
  · obtain ⟨hI, hf⟩ := hI
    have g1 : γ 1 n = nI (yZ Λ n) := (hf 1 n (by decide) (by decide) (by omega)).trans b1
    have g2 : γ 2 n = nI (yP Λ n) := (hf 2 n (by decide) (by decide) (by omega)).trans b2
    have hv := hZ u hu
    have q1 : (5 * n + u) / 5 = n := by omega
    have q2 : (5 * n + u) % 5 = u := by omega
    have h02 := hI.1
    by_cases hp : u = yP Λ n
    · refine ⟨up2 γ 9 (5 * n + u) mo, ⟨ND_par (x := 5 * n + u) hy hI hv (by rw [q1, q2]; exact hp), fun c i k1 k2 k3 => ?_⟩, ?_⟩
      · rw [up_ne (by omega)]; exact hf c i k1 k2 k3
      · have hp' : u = yP Λ n := hp
        simp (maxSteps := 500000) (disch := first | assumption | omega) only [f_X4_numberData_L2, q_l0, q_l1, q_l2, q_l3, q_l4, q_l5, q_l6, q_l7, q_l8, q_l9, q_l10, q_l11, q_l12, q_l13, q_l14, q_l15, q_l16, q_l20, q_l21, q_l22, q_l24, q_l25, q_l26, q_l27, q_l28, q_l29, q_l30, q_l31, q_l32, q_l40, q_l48, q_l57, q_l80, q_l97, q_l100, q_l120, q_l122, q_l126, q_l160, q_l200, q_l214, q_l255, q_l256, q_l374, q_l400, q_l999, q_l1000, q_l9999, q_l99, q_l99999, q_nm, q_gd, q_gd2, q_ix, q_lt, q_eq, q_m5a, q_m5b, q_m40b, q_m8a, q_m8b, q_m16b, q_m374b, q_m160b, q_m10a, q_div5, q_rem5, nI_add, q_moe, q_moe2, q_mol, q_mol2, q_mor, q_bd2, q_bd1, q_stI, q_oI0, if_true, if_false, ite_true, ite_false, ↓reduceIte, Nat.lt_irrefl, Nat.not_lt_zero, Nat.add_zero, Nat.zero_add, Nat.reduceEqDiff, Nat.reduceLeDiff, Nat.reduceLT, Nat.reduceAdd, Bool.false_eq_true, and_self, and_false, false_and, true_and, and_true, not_true_eq_false, not_false_eq_true, q_nm, pB_g, pB_g0, pB_s, pB_s0, up_ne, g1, g2, hu, ← hp]
    · have hd : dat Λ (5 * n + u) := ⟨hv, by rw [q1, q2]; exact hp⟩
      have hc := ct_X h1 hy hd
      refine ⟨_, ⟨ND_dat (x := 5 * n + u) h1 hy hI hv (by rw [q1, q2]; exact hp), fun c i k1 k2 k3 => ?_⟩, ?_⟩
      · rw [up_ne (by omega), up_ne (by omega), up_ne (by omega), up_ne (by omega)]; exact hf c i k1 k2 k3
      · simp (maxSteps := 500000) (disch := first | assumption | omega) only [f_X4_numberData_L2, q_l0, q_l1, q_l2, q_l3, q_l4, q_l5, q_l6, q_l7, q_l8, q_l9, q_l10, q_l11, q_l12, q_l13, q_l14, q_l15, q_l16, q_l20, q_l21, q_l22, q_l24, q_l25, q_l26, q_l27, q_l28, q_l29, q_l30, q_l31, q_l32, q_l40, q_l48, q_l57, q_l80, q_l97, q_l100, q_l120, q_l122, q_l126, q_l160, q_l200, q_l214, q_l255, q_l256, q_l374, q_l400, q_l999, q_l1000, q_l9999, q_l99, q_l99999, q_nm, q_gd, q_gd2, q_ix, q_lt, q_eq, q_m5a, q_m5b, q_m40b, q_m8a, q_m8b, q_m16b, q_m374b, q_m160b, q_m10a, q_div5, q_rem5, nI_add, q_moe, q_moe2, q_mol, q_mol2, q_mor, q_bd2, q_bd1, q_stI, q_oI0, if_true, if_false, ite_true, ite_false, ↓reduceIte, Nat.lt_irrefl, Nat.not_lt_zero, Nat.add_zero, Nat.zero_add, Nat.reduceEqDiff, Nat.reduceLeDiff, Nat.reduceLT, Nat.reduceAdd, Bool.false_eq_true, and_self, and_false, false_and, true_and, and_true, not_true_eq_false, not_false_eq_true, pB_g, pB_g0, pB_s, pB_s0, up_ne, g1, g2, hu, hp, h02]
end Lay4
