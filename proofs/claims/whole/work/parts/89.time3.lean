/-! MATH HALF: time, the reference's ticks -/
/-- room when the spare and the first n units have taken theirs -/
def rU (Λ : Lv) (d k : Nat) (r : Nat → Nat) (n : Nat) : Nat → Nat := fun i => if i + 1 = yQ Λ k ∨ (∃ u, u < n ∧ yK Λ (5 * k + u) = i ∧ i ≠ d) then r i - 1 else r i
def wq (q : Nat → Bool) (n : Nat) (h : Nat → Int32) : Nat → Int32 := fun i => if i < n then nI (if q i = true then 1 else 0) else h i
section Ti3
variable {Λ T : Lv} {a b x k d o n i N K z c B t u w v p s M W : Nat} {S F : Sv} {m m2 m3 : Mm} {x1 x2 x3 st : Int32} {g h0 vl : Nat → Int32} {q : Nat → Bool} {y : Int64} {r r2 : Nat → Nat}
theorem bz_ex (hk : k < yS Λ) : bz Λ d k i ↔ (i + 1 = yQ Λ k ∨ (∃ u, u < yZ Λ k ∧ yK Λ (5 * k + u) = i ∧ i ≠ d)) := by
  constructor
  · rintro (h | ⟨h1, h2⟩)
    · exact Or.inl h
    · exact Or.inr ⟨_, h1, uOn_is h1, h2⟩
  · rintro (h | ⟨u, h1, h2, h3⟩)
    · exact Or.inl h
    · refine Or.inr ⟨?_, h3⟩
      rcases Nat.lt_or_ge (uOn Λ k i) (yZ Λ k) with h | h
      · exact h
      · exact absurd h2 (fs_not (fun u => yK Λ (5 * k + u) = i) (yZ Λ k) u (by unfold uOn at h; omega))
theorem r_fits (hR : RelR Λ m) (hW : WL1 Λ) (hW2 : WL2 Λ) (hd : d < yD Λ) (hk : k < yS Λ) (hQ : 0 < yQ Λ k) (hr : ∀ i, r i ≤ 9) {h1 : Nat → Int32} : (ftP Λ d k r → f_X11_fitsIn (nI k) (nI d) (wr 123 (rm r g) (wr 122 h1 m)) = some (nI 1, wr 123 (rm (fun i => if bz Λ d k i then r i - 1 else r i) g) (wr 122 h1 m))) ∧ (¬ ftP Λ d k r → f_X11_fitsIn (nI k) (nI d) (wr 123 (rm r g) (wr 122 h1 m)) = some (nI 0, wr 123 (rm r g) (wr 122 h1 m))) := by
  have h40 := hW.2.1
  have h13 := hW.1
  have h5 := hW.2.2.2.1 k hk
  have hRg : ∀ g, RelR Λ (wr 123 g (wr 122 h1 m)) := fun g => RelR_wr (by omega) (RelR_wr (by omega) hR)
  have r103 : ∀ g, gI (wr 123 g (wr 122 h1 m)) 103 k = nI (yQ Λ k - 1) := fun g => by
    rw [(hRg g).2.2.2.2.2.2.1 k hk, q_oIp hQ]
  have r100 : ∀ g, gI (wr 123 g (wr 122 h1 m)) 100 k = nI (yZ Λ k) := fun g => (hRg g).2.2.2.1 k hk
  have r105 : ∀ g u, u < yZ Λ k → gI (wr 123 g (wr 122 h1 m)) 105 (5 * k + u) = nI (yK Λ (5 * k + u)) := fun g u hu => (hRg g).2.2.2.2.2.2.2.2.1 _ (vx_mk hW hk hu)
  have hK : ∀ u, u < yZ Λ k → yK Λ (5 * k + u) < yD Λ := fun u hu => hW.2.2.2.2 _ (vx_mk hW hk hu)
  have hg : ∀ r i, i < 13 → gI (wr 123 (rm r g) (wr 122 h1 m)) 123 i = nI (r i) := fun r i hi => by rw [wr_s]; unfold rm; rw [if_pos hi]
  have hset : ∀ r i y, i < 13 → sI (wr 123 (rm r g) (wr 122 h1 m)) 123 i (nI y) = wr 123 (rm (fun j => if j = i then y else r j) g) (wr 122 h1 m) := fun r i y hi => by
    rw [wr_sI]
    congr 1
    funext j
    unfold upd rm
    dsimp only
    by_cases h : j = i
    · subst h; rw [if_pos rfl, if_pos hi, if_pos rfl]
    · rw [if_neg h]
      by_cases h2 : j < 13
      · rw [if_pos h2, if_pos h2, if_neg h]
      · rw [if_neg h2, if_neg h2]
  -- the last loop: each takes
  have take : (∀ u, u < yZ Λ k → yK Λ (5 * k + u) ≠ d → 0 < r (yK Λ (5 * k + u))) → f_X11_fitsIn_L85 FU (nI k) (nI d) (nI 0) (wr 123 (rm (rU Λ d k r 0) g) (wr 122 h1 m)) = some (nI 1, wr 123 (rm (rU Λ d k r (yZ Λ k)) g) (wr 122 h1 m)) := fun hpos => by
    refine lp0 (fun j u => f_X11_fitsIn_L85 j (nI k) (nI d) (nI u) (wr 123 (rm (rU Λ d k r u) g) (wr 122 h1 m))) (yZ Λ k) _ (fun j => ?_) (fun j u hu => ?_) (by omega)
    · simp (maxSteps := 500000) (disch := first | assumption | omega) only [f_X11_fitsIn_L85, q_l0, q_l1, q_l2, q_l3, q_l4, q_l5, q_l6, q_l7, q_l8, q_l9, q_l10, q_l11, q_l12, q_l13, q_l14, q_l15, q_l16, q_l20, q_l21, q_l22, q_l24, q_l25, q_l26, q_l27, q_l28, q_l29, q_l30, q_l31, q_l32, q_l40, q_l48, q_l57, q_l80, q_l97, q_l100, q_l120, q_l122, q_l126, q_l160, q_l200, q_l214, q_l255, q_l256, q_l374, q_l400, q_l999, q_l1000, q_l9999, q_l99, q_l99999, q_nm, q_gd, q_gd2, q_ix, q_lt, q_eq, q_m5a, q_m5b, q_m40b, q_m8a, q_m8b, q_m16b, q_m374b, q_m160b, q_m10a, q_div5, q_rem5, nI_add, q_moe, q_moe2, q_mol, q_mol2, q_mor, q_bd2, q_bd1, q_stI, q_oI0, if_true, if_false, ite_true, ite_false, ↓reduceIte, Nat.lt_irrefl, Nat.not_lt_zero, Nat.add_zero, Nat.zero_add, Nat.reduceEqDiff, Nat.reduceLeDiff, Nat.reduceLT, Nat.reduceAdd, Bool.false_eq_true, and_self, and_false, false_and, true_and, and_true, not_true_eq_false, not_false_eq_true, r100]
    · have hKu := hK u hu
      have hv := vy_lt hW (vx_mk hW hk hu)
      by_cases p1 : yK Λ (5 * k + u) = d
      · have e : rU Λ d k r (u + 1) = rU Λ d k r u := by
          funext i
          unfold rU
          by_cases h : i + 1 = yQ Λ k ∨ (∃ u', u' < u ∧ yK Λ (5 * k + u') = i ∧ i ≠ d)
          · rw [if_pos h, if_pos (by
              rcases h with h | ⟨u', h1, h2⟩
              · exact Or.inl h
              · exact Or.inr ⟨u', by omega, h2⟩)]
          · rw [if_neg h, if_neg (fun h2 => h (by
              rcases h2 with h2 | ⟨u', h3, h4, h5⟩
              · exact Or.inl h2
              · have : u' ≠ u := fun e => h5 (by rw [← h4, e]; exact p1)
                exact Or.inr ⟨u', by omega, h4, h5⟩))]
        rw [e]
        simp (maxSteps := 500000) (disch := first | assumption | omega) only [f_X11_fitsIn_L85, q_l0, q_l1, q_l2, q_l3, q_l4, q_l5, q_l6, q_l7, q_l8, q_l9, q_l10, q_l11, q_l12, q_l13, q_l14, q_l15, q_l16, q_l20, q_l21, q_l22, q_l24, q_l25, q_l26, q_l27, q_l28, q_l29, q_l30, q_l31, q_l32, q_l40, q_l48, q_l57, q_l80, q_l97, q_l100, q_l120, q_l122, q_l126, q_l160, q_l200, q_l214, q_l255, q_l256, q_l374, q_l400, q_l999, q_l1000, q_l9999, q_l99, q_l99999, q_nm, q_gd, q_gd2, q_ix, q_lt, q_eq, q_m5a, q_m5b, q_m40b, q_m8a, q_m8b, q_m16b, q_m374b, q_m160b, q_m10a, q_div5, q_rem5, nI_add, q_moe, q_moe2, q_mol, q_mol2, q_mor, q_bd2, q_bd1, q_stI, q_oI0, if_true, if_false, ite_true, ite_false, ↓reduceIte, Nat.lt_irrefl, Nat.not_lt_zero, Nat.add_zero, Nat.zero_add, Nat.reduceEqDiff, Nat.reduceLeDiff, Nat.reduceLT, Nat.reduceAdd, Bool.false_eq_true, and_self, and_false, false_and, true_and, and_true, not_true_eq_false, not_false_eq_true, r100, hu, r105, p1]
      · have hp := hpos u hu p1
        have h9 := hr (yK Λ (5 * k + u))
        have e1 : rU Λ d k r u (yK Λ (5 * k + u)) = r (yK Λ (5 * k + u)) := by
          unfold rU
          refine if_neg (fun h => ?_)
          rcases h with h | ⟨u', h3, h4, _⟩
          · exact hW2.2 k u hk hu h
          · have := hW2.1 k u' u hk (by omega) hu h4
            omega
        have e2 : (fun j => if j = yK Λ (5 * k + u) then r (yK Λ (5 * k + u)) - 1 else rU Λ d k r u j) = rU Λ d k r (u + 1) := by
          funext i
          by_cases h : i = yK Λ (5 * k + u)
          · subst h
            rw [if_pos rfl]
            unfold rU
            rw [if_pos (Or.inr ⟨u, by omega, rfl, p1⟩)]
          · rw [if_neg h]
            unfold rU
            by_cases h6 : i + 1 = yQ Λ k ∨ (∃ u', u' < u ∧ yK Λ (5 * k + u') = i ∧ i ≠ d)
            · rw [if_pos h6, if_pos (by
                rcases h6 with h6 | ⟨u', h1, h2⟩
                · exact Or.inl h6
                · exact Or.inr ⟨u', by omega, h2⟩)]
            · rw [if_neg h6, if_neg (fun h2 => h6 (by
                rcases h2 with h2 | ⟨u', h3, h4, h5⟩
                · exact Or.inl h2
                · have : u' ≠ u := fun e => h (by rw [← h4, e])
                  exact Or.inr ⟨u', by omega, h4, h5⟩))]
        have e3 := hg (rU Λ d k r u) (yK Λ (5 * k + u)) (by omega)
        rw [e1] at e3
        have e4 := hset (rU Λ d k r u) (yK Λ (5 * k + u)) (r (yK Λ (5 * k + u)) - 1) (by omega)
        rw [e2] at e4
        simp (maxSteps := 500000) (disch := first | assumption | omega) only [f_X11_fitsIn_L85, q_l0, q_l1, q_l2, q_l3, q_l4, q_l5, q_l6, q_l7, q_l8, q_l9, q_l10, q_l11, q_l12, q_l13, q_l14, q_l15, q_l16, q_l20, q_l21, q_l22, q_l24, q_l25, q_l26, q_l27, q_l28, q_l29, q_l30, q_l31, q_l32, q_l40, q_l48, q_l57, q_l80, q_l97, q_l100, q_l120, q_l122, q_l126, q_l160, q_l200, q_l214, q_l255, q_l256, q_l374, q_l400, q_l999, q_l1000, q_l9999, q_l99, q_l99999, q_nm, q_gd, q_gd2, q_ix, q_lt, q_eq, q_m5a, q_m5b, q_m40b, q_m8a, q_m8b, q_m16b, q_m374b, q_m160b, q_m10a, q_div5, q_rem5, nI_add, q_moe, q_moe2, q_mol, q_mol2, q_mor, q_bd2, q_bd1, q_stI, q_oI0, if_true, if_false, ite_true, ite_false, ↓reduceIte, Nat.lt_irrefl, Nat.not_lt_zero, Nat.add_zero, Nat.zero_add, Nat.reduceEqDiff, Nat.reduceLeDiff, Nat.reduceLT, Nat.reduceAdd, Bool.false_eq_true, and_self, and_false, false_and, true_and, and_true, not_true_eq_false, not_false_eq_true, r100, hu, r105, p1, e3, q_sub1, e4]
  have hfin : rU Λ d k r (yZ Λ k) = fun i => if bz Λ d k i then r i - 1 else r i := by
    funext i
    unfold rU
    by_cases h : bz Λ d k i
    · rw [if_pos h, if_pos ((bz_ex hk).mp h)]
    · rw [if_neg h, if_neg (fun h2 => h ((bz_ex hk).mpr h2))]
  rw [hfin] at take
  -- the spare first
  have hsp : 0 < r (yQ Λ k - 1) → (fun j => if j = yQ Λ k - 1 then r (yQ Λ k - 1) - 1 else r j) = rU Λ d k r 0 := fun _ => by
    funext i
    unfold rU
    by_cases h : i = yQ Λ k - 1
    · subst h
      rw [if_pos rfl, if_pos (Or.inl (by omega))]
    · rw [if_neg h, if_neg (fun h2 => by
        rcases h2 with h2 | ⟨u, h3, _⟩
        · omega
        · omega)]
  -- the middle loop
  have hmid := lpx (fun j u => f_X11_fitsIn_L18 j (nI k) (nI d) (nI u) (wr 123 (rm r g) (wr 122 h1 m))) (fun u => yK Λ (5 * k + u) ≠ d ∧ r (yK Λ (5 * k + u)) = 0) 0 (yZ Λ k) (some (nI 0, wr 123 (rm r g) (wr 122 h1 m))) (f_X11_fitsIn_L85 FU (nI k) (nI d) (nI 0) (sI (wr 123 (rm r g) (wr 122 h1 m)) 123 (yQ Λ k - 1) (nI (r (yQ Λ k - 1)) - nI 1))) (by omega) (by omega) (fun j => by
    have e3 := hg r (yQ Λ k - 1) (by omega)
    simp (maxSteps := 500000) (disch := first | assumption | omega) only [f_X11_fitsIn_L18, q_l0, q_l1, q_l2, q_l3, q_l4, q_l5, q_l6, q_l7, q_l8, q_l9, q_l10, q_l11, q_l12, q_l13, q_l14, q_l15, q_l16, q_l20, q_l21, q_l22, q_l24, q_l25, q_l26, q_l27, q_l28, q_l29, q_l30, q_l31, q_l32, q_l40, q_l48, q_l57, q_l80, q_l97, q_l100, q_l120, q_l122, q_l126, q_l160, q_l200, q_l214, q_l255, q_l256, q_l374, q_l400, q_l999, q_l1000, q_l9999, q_l99, q_l99999, q_nm, q_gd, q_gd2, q_ix, q_lt, q_eq, q_m5a, q_m5b, q_m40b, q_m8a, q_m8b, q_m16b, q_m374b, q_m160b, q_m10a, q_div5, q_rem5, nI_add, q_moe, q_moe2, q_mol, q_mol2, q_mor, q_bd2, q_bd1, q_stI, q_oI0, if_true, if_false, ite_true, ite_false, ↓reduceIte, Nat.lt_irrefl, Nat.not_lt_zero, Nat.add_zero, Nat.zero_add, Nat.reduceEqDiff, Nat.reduceLeDiff, Nat.reduceLT, Nat.reduceAdd, Bool.false_eq_true, and_self, and_false, false_and, true_and, and_true, not_true_eq_false, not_false_eq_true, r100, r103, e3]) (fun j u _ hu hp => by
    have hKu := hK u hu
    have hv := vy_lt hW (vx_mk hW hk hu)
    have e3 := hg r (yK Λ (5 * k + u)) (by omega)
    rw [hp.2] at e3
    have hne : (yK Λ (5 * k + u) = d) = False := eq_false hp.1
    simp (maxSteps := 500000) (disch := first | assumption | omega) only [f_X11_fitsIn_L18, q_l0, q_l1, q_l2, q_l3, q_l4, q_l5, q_l6, q_l7, q_l8, q_l9, q_l10, q_l11, q_l12, q_l13, q_l14, q_l15, q_l16, q_l20, q_l21, q_l22, q_l24, q_l25, q_l26, q_l27, q_l28, q_l29, q_l30, q_l31, q_l32, q_l40, q_l48, q_l57, q_l80, q_l97, q_l100, q_l120, q_l122, q_l126, q_l160, q_l200, q_l214, q_l255, q_l256, q_l374, q_l400, q_l999, q_l1000, q_l9999, q_l99, q_l99999, q_nm, q_gd, q_gd2, q_ix, q_lt, q_eq, q_m5a, q_m5b, q_m40b, q_m8a, q_m8b, q_m16b, q_m374b, q_m160b, q_m10a, q_div5, q_rem5, nI_add, q_moe, q_moe2, q_mol, q_mol2, q_mor, q_bd2, q_bd1, q_stI, q_oI0, if_true, if_false, ite_true, ite_false, ↓reduceIte, Nat.lt_irrefl, Nat.not_lt_zero, Nat.add_zero, Nat.zero_add, Nat.reduceEqDiff, Nat.reduceLeDiff, Nat.reduceLT, Nat.reduceAdd, Bool.false_eq_true, and_self, and_false, false_and, true_and, and_true, not_true_eq_false, not_false_eq_true, r100, hu, r105, hne, e3]) (fun j u _ hu hp => by
    have hKu := hK u hu
    have hv := vy_lt hW (vx_mk hW hk hu)
    have e3 := hg r (yK Λ (5 * k + u)) (by omega)
    have h9 := hr (yK Λ (5 * k + u))
    by_cases p1 : yK Λ (5 * k + u) = d
    · simp (maxSteps := 500000) (disch := first | assumption | omega) only [f_X11_fitsIn_L18, q_l0, q_l1, q_l2, q_l3, q_l4, q_l5, q_l6, q_l7, q_l8, q_l9, q_l10, q_l11, q_l12, q_l13, q_l14, q_l15, q_l16, q_l20, q_l21, q_l22, q_l24, q_l25, q_l26, q_l27, q_l28, q_l29, q_l30, q_l31, q_l32, q_l40, q_l48, q_l57, q_l80, q_l97, q_l100, q_l120, q_l122, q_l126, q_l160, q_l200, q_l214, q_l255, q_l256, q_l374, q_l400, q_l999, q_l1000, q_l9999, q_l99, q_l99999, q_nm, q_gd, q_gd2, q_ix, q_lt, q_eq, q_m5a, q_m5b, q_m40b, q_m8a, q_m8b, q_m16b, q_m374b, q_m160b, q_m10a, q_div5, q_rem5, nI_add, q_moe, q_moe2, q_mol, q_mol2, q_mor, q_bd2, q_bd1, q_stI, q_oI0, if_true, if_false, ite_true, ite_false, ↓reduceIte, Nat.lt_irrefl, Nat.not_lt_zero, Nat.add_zero, Nat.zero_add, Nat.reduceEqDiff, Nat.reduceLeDiff, Nat.reduceLT, Nat.reduceAdd, Bool.false_eq_true, and_self, and_false, false_and, true_and, and_true, not_true_eq_false, not_false_eq_true, r100, hu, r105, p1]
    · have p2 : (r (yK Λ (5 * k + u)) = 0) = False := eq_false (fun h => hp ⟨p1, h⟩)
      simp (maxSteps := 500000) (disch := first | assumption | omega) only [f_X11_fitsIn_L18, q_l0, q_l1, q_l2, q_l3, q_l4, q_l5, q_l6, q_l7, q_l8, q_l9, q_l10, q_l11, q_l12, q_l13, q_l14, q_l15, q_l16, q_l20, q_l21, q_l22, q_l24, q_l25, q_l26, q_l27, q_l28, q_l29, q_l30, q_l31, q_l32, q_l40, q_l48, q_l57, q_l80, q_l97, q_l100, q_l120, q_l122, q_l126, q_l160, q_l200, q_l214, q_l255, q_l256, q_l374, q_l400, q_l999, q_l1000, q_l9999, q_l99, q_l99999, q_nm, q_gd, q_gd2, q_ix, q_lt, q_eq, q_m5a, q_m5b, q_m40b, q_m8a, q_m8b, q_m16b, q_m374b, q_m160b, q_m10a, q_div5, q_rem5, nI_add, q_moe, q_moe2, q_mol, q_mol2, q_mor, q_bd2, q_bd1, q_stI, q_oI0, if_true, if_false, ite_true, ite_false, ↓reduceIte, Nat.lt_irrefl, Nat.not_lt_zero, Nat.add_zero, Nat.zero_add, Nat.reduceEqDiff, Nat.reduceLeDiff, Nat.reduceLT, Nat.reduceAdd, Bool.false_eq_true, and_self, and_false, false_and, true_and, and_true, not_true_eq_false, not_false_eq_true, r100, hu, r105, p1, e3, p2])
  have e3 := hg r (yQ Λ k - 1) (by omega)
  have h9 := hr (yQ Λ k - 1)
  constructor
  · intro hf
    have hs := hf (yQ Λ k - 1) (by omega) (Or.inl (by omega))
    have hs0 : (r (yQ Λ k - 1) = 0) = False := eq_false (by omega)
    have hpos : ∀ u, u < yZ Λ k → yK Λ (5 * k + u) ≠ d → 0 < r (yK Λ (5 * k + u)) := fun u hu hne => hf _ (by have := hK u hu; omega) ((bz_ex hk).mpr (Or.inr ⟨u, hu, rfl, hne⟩))
    have e5 := hmid.2 (fun u _ hu hp => by have := hpos u hu hp.1; omega)
    rw [q_sub1 (by omega), hset r _ _ (by omega), hsp hs, take hpos] at e5
    simp (maxSteps := 500000) (disch := first | assumption | omega) only [f_X11_fitsIn, q_l0, q_l1, q_l2, q_l3, q_l4, q_l5, q_l6, q_l7, q_l8, q_l9, q_l10, q_l11, q_l12, q_l13, q_l14, q_l15, q_l16, q_l20, q_l21, q_l22, q_l24, q_l25, q_l26, q_l27, q_l28, q_l29, q_l30, q_l31, q_l32, q_l40, q_l48, q_l57, q_l80, q_l97, q_l100, q_l120, q_l122, q_l126, q_l160, q_l200, q_l214, q_l255, q_l256, q_l374, q_l400, q_l999, q_l1000, q_l9999, q_l99, q_l99999, q_nm, q_gd, q_gd2, q_ix, q_lt, q_eq, q_m5a, q_m5b, q_m40b, q_m8a, q_m8b, q_m16b, q_m374b, q_m160b, q_m10a, q_div5, q_rem5, nI_add, q_moe, q_moe2, q_mol, q_mol2, q_mor, q_bd2, q_bd1, q_stI, q_oI0, if_true, if_false, ite_true, ite_false, ↓reduceIte, Nat.lt_irrefl, Nat.not_lt_zero, Nat.add_zero, Nat.zero_add, Nat.reduceEqDiff, Nat.reduceLeDiff, Nat.reduceLT, Nat.reduceAdd, Bool.false_eq_true, and_self, and_false, false_and, true_and, and_true, not_true_eq_false, not_false_eq_true, r103, e3, hs0, e5]
  · intro hf
    by_cases hs : r (yQ Λ k - 1) = 0
    · rw [hs] at e3
      simp (maxSteps := 500000) (disch := first | assumption | omega) only [f_X11_fitsIn, q_l0, q_l1, q_l2, q_l3, q_l4, q_l5, q_l6, q_l7, q_l8, q_l9, q_l10, q_l11, q_l12, q_l13, q_l14, q_l15, q_l16, q_l20, q_l21, q_l22, q_l24, q_l25, q_l26, q_l27, q_l28, q_l29, q_l30, q_l31, q_l32, q_l40, q_l48, q_l57, q_l80, q_l97, q_l100, q_l120, q_l122, q_l126, q_l160, q_l200, q_l214, q_l255, q_l256, q_l374, q_l400, q_l999, q_l1000, q_l9999, q_l99, q_l99999, q_nm, q_gd, q_gd2, q_ix, q_lt, q_eq, q_m5a, q_m5b, q_m40b, q_m8a, q_m8b, q_m16b, q_m374b, q_m160b, q_m10a, q_div5, q_rem5, nI_add, q_moe, q_moe2, q_mol, q_mol2, q_mor, q_bd2, q_bd1, q_stI, q_oI0, if_true, if_false, ite_true, ite_false, ↓reduceIte, Nat.lt_irrefl, Nat.not_lt_zero, Nat.add_zero, Nat.zero_add, Nat.reduceEqDiff, Nat.reduceLeDiff, Nat.reduceLT, Nat.reduceAdd, Bool.false_eq_true, and_self, and_false, false_and, true_and, and_true, not_true_eq_false, not_false_eq_true, r103, e3]
    · have hs0 : (r (yQ Λ k - 1) = 0) = False := eq_false hs
      have e5 := hmid.1 (Classical.byContradiction fun hn => hf (fun i hi hb => by
        rcases (bz_ex hk).mp hb with h | ⟨u, h1, h2, h3⟩
        · have : i = yQ Λ k - 1 := by omega
          subst this; omega
        · rw [← h2]
          rw [← h2] at h3
          exact Classical.byContradiction fun h0 => hn ⟨u, by omega, h1, h3, by omega⟩))
      simp (maxSteps := 500000) (disch := first | assumption | omega) only [f_X11_fitsIn, q_l0, q_l1, q_l2, q_l3, q_l4, q_l5, q_l6, q_l7, q_l8, q_l9, q_l10, q_l11, q_l12, q_l13, q_l14, q_l15, q_l16, q_l20, q_l21, q_l22, q_l24, q_l25, q_l26, q_l27, q_l28, q_l29, q_l30, q_l31, q_l32, q_l40, q_l48, q_l57, q_l80, q_l97, q_l100, q_l120, q_l122, q_l126, q_l160, q_l200, q_l214, q_l255, q_l256, q_l374, q_l400, q_l999, q_l1000, q_l9999, q_l99, q_l99999, q_nm, q_gd, q_gd2, q_ix, q_lt, q_eq, q_m5a, q_m5b, q_m40b, q_m8a, q_m8b, q_m16b, q_m374b, q_m160b, q_m10a, q_div5, q_rem5, nI_add, q_moe, q_moe2, q_mol, q_mol2, q_mor, q_bd2, q_bd1, q_stI, q_oI0, if_true, if_false, ite_true, ite_false, ↓reduceIte, Nat.lt_irrefl, Nat.not_lt_zero, Nat.add_zero, Nat.zero_add, Nat.reduceEqDiff, Nat.reduceLeDiff, Nat.reduceLT, Nat.reduceAdd, Bool.false_eq_true, and_self, and_false, false_and, true_and, and_true, not_true_eq_false, not_false_eq_true, r103, e3, hs0, e5]
end Ti3
