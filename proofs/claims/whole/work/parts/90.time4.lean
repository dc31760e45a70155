/-! MATH HALF: time as a call -/
section Ti4
variable {Λ T : Lv} {a b x k d o n i N K z c B t u w v p s M W : Nat} {S F : Sv} {m m2 m3 : Mm} {x1 x2 x3 st : Int32} {g h0 vl : Nat → Int32} {q : Nat → Bool} {y : Int64} {r r2 : Nat → Nat}
theorem qc_clr (hk : k < n) (hq : q k = true) : qc (fun i => if i = k then false else q i) n + 1 = qc q n := by
  have h := ct_add1 (p := fun i => (if i = k then false else q i) = true) (q := fun i => q i = true) (n := n) (u0 := k) hk (fun i hi hne => by
    show (if i = k then false else q i) = true ↔ q i = true
    rw [if_neg hne]) (by
    show ¬ (if k = k then false else q k) = true
    rw [if_pos rfl]; decide)
  rw [if_pos hq] at h
  exact h.symm
theorem wq_clr (hk : k < n) (hkn : q k = true) {h : Nat → Int32} : upd (wq q n h) k (nI 0) = wq (fun i => if i = k then false else q i) n h := by
  funext i
  unfold upd wq
  dsimp only
  by_cases e : i = k
  · subst e; simp [hk]
  · by_cases e2 : i < n
    · simp [e, e2]
    · simp [e, e2]
theorem wr122 {h1 : Nat → Int32} : sI (wr 123 g (wr 122 h1 m)) 122 i st = wr 123 g (wr 122 (upd h1 i st) m) := by
  refine mm_ext (fun c j => ?_) rfl
  simp only [sI, wr, upd]
  by_cases h : c = 122
  · subst h; by_cases h2 : j = i <;> simp [h2]
  · simp [h]
theorem r_tick (hR : RelR Λ m) (hW : WL1 Λ) (hW2 : WL2 Λ) (hd : d < yD Λ) (hc : c ≤ 9) (hqQ : ∀ k, k < yS Λ → q k = true → 0 < yQ Λ k) {h1 : Nat → Int32} {v2 v4 : Int32} {K' : Int32 → Mm → Option (Int32 × Mm)} : f_X11_time_L187 (nI d) v2 v4 K' FU (nI (qc q (yS Λ))) (nI 0) (wr 123 (rm (fun _ => c) g) (wr 122 (wq q (yS Λ) h1) m)) = K' (nI (qc (tkN Λ d c q (yS Λ)).1 (yS Λ))) (wr 123 (rm (tkN Λ d c q (yS Λ)).2 g) (wr 122 (wq (tkN Λ d c q (yS Λ)).1 (yS Λ) h1) m)) := by
  have h40 := hW.2.1
  refine lp0 (fun j k => f_X11_time_L187 (nI d) v2 v4 K' j (nI (qc (tkN Λ d c q k).1 (yS Λ))) (nI k) (wr 123 (rm (tkN Λ d c q k).2 g) (wr 122 (wq (tkN Λ d c q k).1 (yS Λ) h1) m))) (yS Λ) _ (fun j => ?_) (fun j k hk => ?_) (by omega)
  · have r99 : gI (wr 123 (rm (tkN Λ d c q (yS Λ)).2 g) (wr 122 (wq (tkN Λ d c q (yS Λ)).1 (yS Λ) h1) m)) 99 0 = nI (yS Λ) := by rw [wr_g (by decide), wr_g (by decide)]; exact hR.2.1
    simp (maxSteps := 500000) (disch := first | assumption | omega) only [f_X11_time_L187, q_l0, q_l1, q_l2, q_l3, q_l4, q_l5, q_l6, q_l7, q_l8, q_l9, q_l10, q_l11, q_l12, q_l13, q_l14, q_l15, q_l16, q_l20, q_l21, q_l22, q_l24, q_l25, q_l26, q_l27, q_l28, q_l29, q_l30, q_l31, q_l32, q_l40, q_l48, q_l57, q_l80, q_l97, q_l100, q_l120, q_l122, q_l126, q_l160, q_l200, q_l214, q_l255, q_l256, q_l374, q_l400, q_l999, q_l1000, q_l9999, q_l99, q_l99999, q_nm, q_gd, q_gd2, q_ix, q_lt, q_eq, q_m5a, q_m5b, q_m40b, q_m8a, q_m8b, q_m16b, q_m374b, q_m160b, q_m10a, q_div5, q_rem5, nI_add, q_moe, q_moe2, q_mol, q_mol2, q_mor, q_bd2, q_bd1, q_stI, q_oI0, if_true, if_false, ite_true, ite_false, ↓reduceIte, Nat.lt_irrefl, Nat.not_lt_zero, Nat.add_zero, Nat.zero_add, Nat.reduceEqDiff, Nat.reduceLeDiff, Nat.reduceLT, Nat.reduceAdd, Bool.false_eq_true, and_self, and_false, false_and, true_and, and_true, not_true_eq_false, not_false_eq_true, r99]
  · have r99 : gI (wr 123 (rm (tkN Λ d c q k).2 g) (wr 122 (wq (tkN Λ d c q k).1 (yS Λ) h1) m)) 99 0 = nI (yS Λ) := by rw [wr_g (by decide), wr_g (by decide)]; exact hR.2.1
    have hsame := tk_same (Λ := Λ) (d := d) (c := c) (q := q) (k := k) (i := k) (Nat.le_refl _)
    have r122 : gI (wr 123 (rm (tkN Λ d c q k).2 g) (wr 122 (wq (tkN Λ d c q k).1 (yS Λ) h1) m)) 122 k = nI (if q k = true then 1 else 0) := by
      rw [wr_g (by decide), wr_s]
      unfold wq
      rw [if_pos hk, hsame]
    by_cases p1 : q k = true
    · rw [if_pos p1] at r122
      have hf := r_fits (g := g) (h1 := wq (tkN Λ d c q k).1 (yS Λ) h1) (r := (tkN Λ d c q k).2) hR hW hW2 hd hk (hqQ k hk p1) (fun i => Nat.le_trans tk_le hc)
      by_cases p2 : ftP Λ d k (tkN Λ d c q k).2
      · have et : tkN Λ d c q (k + 1) = (fun i => if i = k then false else (tkN Λ d c q k).1 i, fun i => if bz Λ d k i then (tkN Λ d c q k).2 i - 1 else (tkN Λ d c q k).2 i) := by
          conv => lhs; unfold tkN
          rw [if_pos ⟨p1, p2⟩]
        have e1 := hf.1 p2
        have hqk : (tkN Λ d c q k).1 k = true := by rw [hsame]; exact p1
        have hq1 := qc_clr (q := (tkN Λ d c q k).1) hk hqk
        have e2 : nI (qc (tkN Λ d c q k).1 (yS Λ)) + mo = nI (qc (fun i => if i = k then false else (tkN Λ d c q k).1 i) (yS Λ)) := by
          rw [← hq1]; exact pk_m1 _
        have e3 := wq_clr (h := h1) hk hqk
        rw [et]
        simp (maxSteps := 500000) (disch := first | assumption | omega) only [f_X11_time_L187, q_l0, q_l1, q_l2, q_l3, q_l4, q_l5, q_l6, q_l7, q_l8, q_l9, q_l10, q_l11, q_l12, q_l13, q_l14, q_l15, q_l16, q_l20, q_l21, q_l22, q_l24, q_l25, q_l26, q_l27, q_l28, q_l29, q_l30, q_l31, q_l32, q_l40, q_l48, q_l57, q_l80, q_l97, q_l100, q_l120, q_l122, q_l126, q_l160, q_l200, q_l214, q_l255, q_l256, q_l374, q_l400, q_l999, q_l1000, q_l9999, q_l99, q_l99999, q_nm, q_gd, q_gd2, q_ix, q_lt, q_eq, q_m5a, q_m5b, q_m40b, q_m8a, q_m8b, q_m16b, q_m374b, q_m160b, q_m10a, q_div5, q_rem5, nI_add, q_moe, q_moe2, q_mol, q_mol2, q_mor, q_bd2, q_bd1, q_stI, q_oI0, if_true, if_false, ite_true, ite_false, ↓reduceIte, Nat.lt_irrefl, Nat.not_lt_zero, Nat.add_zero, Nat.zero_add, Nat.reduceEqDiff, Nat.reduceLeDiff, Nat.reduceLT, Nat.reduceAdd, Bool.false_eq_true, and_self, and_false, false_and, true_and, and_true, not_true_eq_false, not_false_eq_true, r99, hk, r122, e1, wr122, e3, e2]
      · have et : tkN Λ d c q (k + 1) = tkN Λ d c q k := by
          conv => lhs; unfold tkN
          rw [if_neg (fun h => p2 h.2)]
        rw [et]
        simp (maxSteps := 500000) (disch := first | assumption | omega) only [f_X11_time_L187, q_l0, q_l1, q_l2, q_l3, q_l4, q_l5, q_l6, q_l7, q_l8, q_l9, q_l10, q_l11, q_l12, q_l13, q_l14, q_l15, q_l16, q_l20, q_l21, q_l22, q_l24, q_l25, q_l26, q_l27, q_l28, q_l29, q_l30, q_l31, q_l32, q_l40, q_l48, q_l57, q_l80, q_l97, q_l100, q_l120, q_l122, q_l126, q_l160, q_l200, q_l214, q_l255, q_l256, q_l374, q_l400, q_l999, q_l1000, q_l9999, q_l99, q_l99999, q_nm, q_gd, q_gd2, q_ix, q_lt, q_eq, q_m5a, q_m5b, q_m40b, q_m8a, q_m8b, q_m16b, q_m374b, q_m160b, q_m10a, q_div5, q_rem5, nI_add, q_moe, q_moe2, q_mol, q_mol2, q_mor, q_bd2, q_bd1, q_stI, q_oI0, if_true, if_false, ite_true, ite_false, ↓reduceIte, Nat.lt_irrefl, Nat.not_lt_zero, Nat.add_zero, Nat.zero_add, Nat.reduceEqDiff, Nat.reduceLeDiff, Nat.reduceLT, Nat.reduceAdd, Bool.false_eq_true, and_self, and_false, false_and, true_and, and_true, not_true_eq_false, not_false_eq_true, r99, hk, r122, hf.2 p2]
    · rw [if_neg p1] at r122
      have et : tkN Λ d c q (k + 1) = tkN Λ d c q k := by
        conv => lhs; unfold tkN
        rw [if_neg (fun h => p1 h.1)]
      rw [et]
      simp (maxSteps := 500000) (disch := first | assumption | omega) only [f_X11_time_L187, q_l0, q_l1, q_l2, q_l3, q_l4, q_l5, q_l6, q_l7, q_l8, q_l9, q_l10, q_l11, q_l12, q_l13, q_l14, q_l15, q_l16, q_l20, q_l21, q_l22, q_l24, q_l25, q_l26, q_l27, q_l28, q_l29, q_l30, q_l31, q_l32, q_l40, q_l48, q_l57, q_l80, q_l97, q_l100, q_l120, q_l122, q_l126, q_l160, q_l200, q_l214, q_l255, q_l256, q_l374, q_l400, q_l999, q_l1000, q_l9999, q_l99, q_l99999, q_nm, q_gd, q_gd2, q_ix, q_lt, q_eq, q_m5a, q_m5b, q_m40b, q_m8a, q_m8b, q_m16b, q_m374b, q_m160b, q_m10a, q_div5, q_rem5, nI_add, q_moe, q_moe2, q_mol, q_mol2, q_mor, q_bd2, q_bd1, q_stI, q_oI0, if_true, if_false, ite_true, ite_false, ↓reduceIte, Nat.lt_irrefl, Nat.not_lt_zero, Nat.add_zero, Nat.zero_add, Nat.reduceEqDiff, Nat.reduceLeDiff, Nat.reduceLT, Nat.reduceAdd, Bool.false_eq_true, and_self, and_false, false_and, true_and, and_true, not_true_eq_false, not_false_eq_true, r99, hk, r122]
theorem r_fill (h80 : gI m 80 2 = nI p) (hx : x ≤ p) (hp : p ≤ 9) {h1 : Nat → Int32} {v1 v3 v4 : Int32} {K' : Mm → Option (Int32 × Mm)} : f_X11_time_L156 v1 (nI x) v3 v4 K' FU (nI 0) (wr 123 g (wr 122 h1 m)) = K' (wr 123 (rm (fun _ => p - x) g) (wr 122 h1 m)) := by
  let R : Nat → Nat → Int32 := fun n i => if i < n then nI (p - x) else g i
  have e0 : g = R 0 := by funext i; show _ = if i < 0 then _ else _; rw [if_neg (by omega)]
  have e13 : rm (fun _ => p - x) g = R 13 := rfl
  rw [e13]
  conv => lhs; rw [e0]
  refine lp0 (fun j u => f_X11_time_L156 v1 (nI x) v3 v4 K' j (nI u) (wr 123 (R u) (wr 122 h1 m))) 13 _ (fun j => ?_) (fun j u hu => ?_) (by omega)
  · simp (maxSteps := 500000) (disch := first | assumption | omega) only [f_X11_time_L156, q_l0, q_l1, q_l2, q_l3, q_l4, q_l5, q_l6, q_l7, q_l8, q_l9, q_l10, q_l11, q_l12, q_l13, q_l14, q_l15, q_l16, q_l20, q_l21, q_l22, q_l24, q_l25, q_l26, q_l27, q_l28, q_l29, q_l30, q_l31, q_l32, q_l40, q_l48, q_l57, q_l80, q_l97, q_l100, q_l120, q_l122, q_l126, q_l160, q_l200, q_l214, q_l255, q_l256, q_l374, q_l400, q_l999, q_l1000, q_l9999, q_l99, q_l99999, q_nm, q_gd, q_gd2, q_ix, q_lt, q_eq, q_m5a, q_m5b, q_m40b, q_m8a, q_m8b, q_m16b, q_m374b, q_m160b, q_m10a, q_div5, q_rem5, nI_add, q_moe, q_moe2, q_mol, q_mol2, q_mor, q_bd2, q_bd1, q_stI, q_oI0, if_true, if_false, ite_true, ite_false, ↓reduceIte, Nat.lt_irrefl, Nat.not_lt_zero, Nat.add_zero, Nat.zero_add, Nat.reduceEqDiff, Nat.reduceLeDiff, Nat.reduceLT, Nat.reduceAdd, Bool.false_eq_true, and_self, and_false, false_and, true_and, and_true, not_true_eq_false, not_false_eq_true]
  · have e3 : upd (R u) u (nI (p - x)) = R (u + 1) := by
      funext i
      unfold upd
      show (if i = u then nI (p - x) else if i < u then nI (p - x) else g i) = if i < u + 1 then nI (p - x) else g i
      by_cases h : i = u
      · have h3 : i < u + 1 := by omega
        rw [if_pos h, if_pos h3]
      · rw [if_neg h]
        by_cases h2 : i < u
        · have h3 : i < u + 1 := by omega
          rw [if_pos h2, if_pos h3]
        · have h3 : ¬ i < u + 1 := by omega
          rw [if_neg h2, if_neg h3]
    have e80 : gI (wr 123 (R u) (wr 122 h1 m)) 80 2 = nI p := by rw [wr_g (by decide), wr_g (by decide)]; exact h80
    simp (maxSteps := 500000) (disch := first | assumption | omega) only [f_X11_time_L156, q_l0, q_l1, q_l2, q_l3, q_l4, q_l5, q_l6, q_l7, q_l8, q_l9, q_l10, q_l11, q_l12, q_l13, q_l14, q_l15, q_l16, q_l20, q_l21, q_l22, q_l24, q_l25, q_l26, q_l27, q_l28, q_l29, q_l30, q_l31, q_l32, q_l40, q_l48, q_l57, q_l80, q_l97, q_l100, q_l120, q_l122, q_l126, q_l160, q_l200, q_l214, q_l255, q_l256, q_l374, q_l400, q_l999, q_l1000, q_l9999, q_l99, q_l99999, q_nm, q_gd, q_gd2, q_ix, q_lt, q_eq, q_m5a, q_m5b, q_m40b, q_m8a, q_m8b, q_m16b, q_m374b, q_m160b, q_m10a, q_div5, q_rem5, nI_add, q_moe, q_moe2, q_mol, q_mol2, q_mor, q_bd2, q_bd1, q_stI, q_oI0, if_true, if_false, ite_true, ite_false, ↓reduceIte, Nat.lt_irrefl, Nat.not_lt_zero, Nat.add_zero, Nat.zero_add, Nat.reduceEqDiff, Nat.reduceLeDiff, Nat.reduceLT, Nat.reduceAdd, Bool.false_eq_true, and_self, and_false, false_and, true_and, and_true, not_true_eq_false, not_false_eq_true, hu, e80, pk_sub hx, wr_sI, e3]
theorem r_ticksL (hR : RelR Λ m) (hW : WL1 Λ) (hW2 : WL2 Λ) (hd : d < yD Λ) (h80 : gI m 80 2 = nI p) (hx : x < p) (hp : p ≤ 9) (hqQ : ∀ k, k < yS Λ → q k = true → 0 < yQ Λ k) {h1 : Nat → Int32} : ∃ g2 h2, f_X11_time_L146 FU (nI d) (nI x) (nI (qc q (yS Λ))) (nI 0) (wr 123 g (wr 122 (wq q (yS Λ) h1) m)) = some (nI (tkT Λ d (p - x) q), wr 123 g2 (wr 122 h2 m)) := by
  have h40 := hW.2.1
  have hc1 : 1 ≤ p - x := by omega
  obtain ⟨hT40, hT0⟩ := tkT_is (Λ := Λ) (d := d) (c := p - x) (q := q) hW hc1
  have key : ∀ n k j g1, n + k = tkT Λ d (p - x) q → n < j → ∃ g2 h2, f_X11_time_L146 j (nI d) (nI x) (nI (qc (tkI Λ d (p - x) q k) (yS Λ))) (nI k) (wr 123 g1 (wr 122 (wq (tkI Λ d (p - x) q k) (yS Λ) h1) m)) = some (nI (tkT Λ d (p - x) q), wr 123 g2 (wr 122 h2 m)) := fun n => by
    induction n with
    | zero =>
      intro k j g1 e1 e2
      have hk : k = tkT Λ d (p - x) q := by omega
      have hT0' : qc (tkI Λ d (p - x) q k) (yS Λ) = 0 := by rw [hk]; exact hT0
      obtain ⟨j3, rfl⟩ : ∃ j3, j = j3 + 1 := ⟨j - 1, by omega⟩
      refine ⟨g1, wq (tkI Λ d (p - x) q k) (yS Λ) h1, ?_⟩
      rw [← hk, hT0']
      simp (maxSteps := 500000) (disch := first | assumption | omega) only [f_X11_time_L146, q_l0, q_l1, q_l2, q_l3, q_l4, q_l5, q_l6, q_l7, q_l8, q_l9, q_l10, q_l11, q_l12, q_l13, q_l14, q_l15, q_l16, q_l20, q_l21, q_l22, q_l24, q_l25, q_l26, q_l27, q_l28, q_l29, q_l30, q_l31, q_l32, q_l40, q_l48, q_l57, q_l80, q_l97, q_l100, q_l120, q_l122, q_l126, q_l160, q_l200, q_l214, q_l255, q_l256, q_l374, q_l400, q_l999, q_l1000, q_l9999, q_l99, q_l99999, q_nm, q_gd, q_gd2, q_ix, q_lt, q_eq, q_m5a, q_m5b, q_m40b, q_m8a, q_m8b, q_m16b, q_m374b, q_m160b, q_m10a, q_div5, q_rem5, nI_add, q_moe, q_moe2, q_mol, q_mol2, q_mor, q_bd2, q_bd1, q_stI, q_oI0, if_true, if_false, ite_true, ite_false, ↓reduceIte, Nat.lt_irrefl, Nat.not_lt_zero, Nat.add_zero, Nat.zero_add, Nat.reduceEqDiff, Nat.reduceLeDiff, Nat.reduceLT, Nat.reduceAdd, Bool.false_eq_true, and_self, and_false, false_and, true_and, and_true, not_true_eq_false, not_false_eq_true]
    | succ n ih =>
      intro k j g1 e1 e2
      obtain ⟨j3, rfl⟩ : ∃ j3, j = j3 + 1 := ⟨j - 1, by omega⟩
      have hne := tkT_no (Λ := Λ) (d := d) (c := p - x) (q := q) (n := k) (by omega)
      have hpos : 0 < qc (tkI Λ d (p - x) q k) (yS Λ) := Nat.pos_of_ne_zero hne
      have hle : qc (tkI Λ d (p - x) q k) (yS Λ) ≤ yS Λ := ct_le _ _
      obtain ⟨g2, h2, f⟩ := ih (k + 1) j3 (rm (tkN Λ d (p - x) (tkI Λ d (p - x) q k) (yS Λ)).2 g1) (by omega) (by omega)
      refine ⟨g2, h2, ?_⟩
      rw [← f]
      have ef := fun v1 v3 v4 K' => r_fill (v1 := v1) (v3 := v3) (v4 := v4) (K' := K') (g := g1) (h1 := wq (tkI Λ d (p - x) q k) (yS Λ) h1) h80 (show x ≤ p by omega) hp
      have et := fun v2 v4 K' => r_tick (v2 := v2) (v4 := v4) (K' := K') (g := g1) (h1 := h1) (c := p - x) (q := tkI Λ d (p - x) q k) hR hW hW2 hd (by omega) (tkI_Q hqQ k)
      simp (maxSteps := 500000) (disch := first | assumption | omega) only [f_X11_time_L146, q_l0, q_l1, q_l2, q_l3, q_l4, q_l5, q_l6, q_l7, q_l8, q_l9, q_l10, q_l11, q_l12, q_l13, q_l14, q_l15, q_l16, q_l20, q_l21, q_l22, q_l24, q_l25, q_l26, q_l27, q_l28, q_l29, q_l30, q_l31, q_l32, q_l40, q_l48, q_l57, q_l80, q_l97, q_l100, q_l120, q_l122, q_l126, q_l160, q_l200, q_l214, q_l255, q_l256, q_l374, q_l400, q_l999, q_l1000, q_l9999, q_l99, q_l99999, q_nm, q_gd, q_gd2, q_ix, q_lt, q_eq, q_m5a, q_m5b, q_m40b, q_m8a, q_m8b, q_m16b, q_m374b, q_m160b, q_m10a, q_div5, q_rem5, nI_add, q_moe, q_moe2, q_mol, q_mol2, q_mor, q_bd2, q_bd1, q_stI, q_oI0, if_true, if_false, ite_true, ite_false, ↓reduceIte, Nat.lt_irrefl, Nat.not_lt_zero, Nat.add_zero, Nat.zero_add, Nat.reduceEqDiff, Nat.reduceLeDiff, Nat.reduceLT, Nat.reduceAdd, Bool.false_eq_true, and_self, and_false, false_and, true_and, and_true, not_true_eq_false, not_false_eq_true, hpos, ef, et]
      rfl
  exact key (tkT Λ d (p - x) q) 0 FU g (by omega) (by show _ < 4096; omega)
theorem r_waits (h : Hq Λ S m) (hW : WL1 Λ) (hd : d < yD Λ) : f_X11_time_L44 FU (nI d) (nI x) (nI 0) (nI 0) m = f_X11_time_L146 FU (nI d) (nI x) (nI (qc (tq Λ S d (yS Λ)) (yS Λ))) (nI 0) (wr 122 (wq (tq Λ S d (yS Λ)) (yS Λ) (m.1 122)) m) := by
  have h40 := hW.2.1
  have h13 := hW.1
  have e0 : m = wr 122 (wq (tq Λ S d (yS Λ)) 0 (m.1 122)) m := by
    have : wq (tq Λ S d (yS Λ)) 0 (m.1 122) = m.1 122 := by
      funext i
      unfold wq
      rw [if_neg (by omega)]
    rw [this, wr_self]
  conv => lhs; rw [e0]
  refine lp0 (fun j k => f_X11_time_L44 j (nI d) (nI x) (nI (ct (fun i => tq Λ S d (yS Λ) i = true) k)) (nI k) (wr 122 (wq (tq Λ S d (yS Λ)) k (m.1 122)) m)) (yS Λ) _ (fun j => ?_) (fun j k hk => ?_) (by omega)
  · have r99 : gI (wr 122 (wq (tq Λ S d (yS Λ)) (yS Λ) (m.1 122)) m) 99 0 = nI (yS Λ) := by rw [wr_g (by decide)]; exact h.2.1.2.1
    simp (maxSteps := 500000) (disch := first | assumption | omega) only [f_X11_time_L44, q_l0, q_l1, q_l2, q_l3, q_l4, q_l5, q_l6, q_l7, q_l8, q_l9, q_l10, q_l11, q_l12, q_l13, q_l14, q_l15, q_l16, q_l20, q_l21, q_l22, q_l24, q_l25, q_l26, q_l27, q_l28, q_l29, q_l30, q_l31, q_l32, q_l40, q_l48, q_l57, q_l80, q_l97, q_l100, q_l120, q_l122, q_l126, q_l160, q_l200, q_l214, q_l255, q_l256, q_l374, q_l400, q_l999, q_l1000, q_l9999, q_l99, q_l99999, q_nm, q_gd, q_gd2, q_ix, q_lt, q_eq, q_m5a, q_m5b, q_m40b, q_m8a, q_m8b, q_m16b, q_m374b, q_m160b, q_m10a, q_div5, q_rem5, nI_add, q_moe, q_moe2, q_mol, q_mol2, q_mor, q_bd2, q_bd1, q_stI, q_oI0, if_true, if_false, ite_true, ite_false, ↓reduceIte, Nat.lt_irrefl, Nat.not_lt_zero, Nat.add_zero, Nat.zero_add, Nat.reduceEqDiff, Nat.reduceLeDiff, Nat.reduceLT, Nat.reduceAdd, Bool.false_eq_true, and_self, and_false, false_and, true_and, and_true, not_true_eq_false, not_false_eq_true, r99]
  · have hq := Hq_wr (b := 122) (g := wq (tq Λ S d (yS Λ)) k (m.1 122)) (by omega) h
    have r99 := hq.2.1.2.1
    have g1 := r_lostIn (S := S) hq.2.1 hW hk
    have g2 := r_awayIn (S := S) hq.2.1 hW hk
    rw [hq.2.2.2] at g1 g2
    have g3 := r_unitOn hq.2.1 hW hk (show d < 100 by omega)
    have g4 := hq.2.1.2.2.2.2.2.2.1 k hk
    have hlc := lostC_le (S := S) hW hk
    have hQ2 := (hW.2.2.2.1 k hk).2.2.2
    have hu5 := uOn_lt (d := d) hW hk
    have hct := ct_le (fun i => tq Λ S d (yS Λ) i = true) k
    have upd1 : ∀ y, y = nI (if tq Λ S d (yS Λ) k = true then 1 else 0) → upd (wq (tq Λ S d (yS Λ)) k (m.1 122)) k y = wq (tq Λ S d (yS Λ)) (k + 1) (m.1 122) := fun y hy => by
      funext i
      unfold upd wq
      by_cases e : i = k
      · have e2 : i < k + 1 := by omega
        rw [if_pos e, if_pos e2, hy, e]
      · rw [if_neg e]
        by_cases e2 : i < k
        · have e3 : i < k + 1 := by omega
          rw [if_pos e2, if_pos e3]
        · have e3 : ¬ i < k + 1 := by omega
          rw [if_neg e2, if_neg e3]
    have sI122 : ∀ y, sI (wr 122 (wq (tq Λ S d (yS Λ)) k (m.1 122)) m) 122 k y = wr 122 (upd (wq (tq Λ S d (yS Λ)) k (m.1 122)) k y) m := fun y => wr_sI
    have rd : gI (wr 122 (wq (tq Λ S d (yS Λ)) (k + 1) (m.1 122)) m) 122 k = nI (if tq Λ S d (yS Λ) k = true then 1 else 0) := by
      rw [wr_s]
      unfold wq
      rw [if_pos (by omega)]
    have hct1 : ct (fun i => tq Λ S d (yS Λ) i = true) (k + 1) = ct (fun i => tq Λ S d (yS Λ) i = true) k + (if tq Λ S d (yS Λ) k = true then 1 else 0) := rfl
    by_cases hw : twP Λ S d k
    · have ht : tq Λ S d (yS Λ) k = true := decide_eq_true ⟨hk, hw⟩
      have u1 := upd1 (nI 1) (by rw [ht]; rfl)
      rw [ht] at hct1 rd
      have g5 := rUp hq (d := yQ Λ k - 1) (by omega)
      rw [if_pos hw.2.2.2.2] at g5
      rw [if_pos hw.2.2.1] at g3
      rw [q_oIp hw.2.2.2.1] at g4
      rw [hct1]
      simp (maxSteps := 500000) (disch := first | assumption | omega) only [f_X11_time_L44, f_X11_time_J118, q_l0, q_l1, q_l2, q_l3, q_l4, q_l5, q_l6, q_l7, q_l8, q_l9, q_l10, q_l11, q_l12, q_l13, q_l14, q_l15, q_l16, q_l20, q_l21, q_l22, q_l24, q_l25, q_l26, q_l27, q_l28, q_l29, q_l30, q_l31, q_l32, q_l40, q_l48, q_l57, q_l80, q_l97, q_l100, q_l120, q_l122, q_l126, q_l160, q_l200, q_l214, q_l255, q_l256, q_l374, q_l400, q_l999, q_l1000, q_l9999, q_l99, q_l99999, q_nm, q_gd, q_gd2, q_ix, q_lt, q_eq, q_m5a, q_m5b, q_m40b, q_m8a, q_m8b, q_m16b, q_m374b, q_m160b, q_m10a, q_div5, q_rem5, nI_add, q_moe, q_moe2, q_mol, q_mol2, q_mor, q_bd2, q_bd1, q_stI, q_oI0, if_true, if_false, ite_true, ite_false, ↓reduceIte, Nat.lt_irrefl, Nat.not_lt_zero, Nat.add_zero, Nat.zero_add, Nat.reduceEqDiff, Nat.reduceLeDiff, Nat.reduceLT, Nat.reduceAdd, Bool.false_eq_true, and_self, and_false, false_and, true_and, and_true, not_true_eq_false, not_false_eq_true, r99, hk, g1, hw.1, g2, hw.2.1, g3, g4, g5, sI122, rd, u1]
    · have ht : tq Λ S d (yS Λ) k = false := decide_eq_false (fun h => hw h.2)
      have u0 := upd1 (nI 0) (by rw [ht]; rfl)
      rw [ht] at hct1 rd
      rw [hct1]
      by_cases q1 : lostC Λ S k = 0
      · by_cases q2 : awU Λ S k = mo
        · by_cases q3 : onK Λ k d
          · rw [if_pos q3] at g3
            by_cases q4 : yQ Λ k = 0
            · rw [q4] at g4
              simp (maxSteps := 500000) (disch := first | assumption | omega) only [f_X11_time_L44, f_X11_time_J117, f_X11_time_J118, q_l0, q_l1, q_l2, q_l3, q_l4, q_l5, q_l6, q_l7, q_l8, q_l9, q_l10, q_l11, q_l12, q_l13, q_l14, q_l15, q_l16, q_l20, q_l21, q_l22, q_l24, q_l25, q_l26, q_l27, q_l28, q_l29, q_l30, q_l31, q_l32, q_l40, q_l48, q_l57, q_l80, q_l97, q_l100, q_l120, q_l122, q_l126, q_l160, q_l200, q_l214, q_l255, q_l256, q_l374, q_l400, q_l999, q_l1000, q_l9999, q_l99, q_l99999, q_nm, q_gd, q_gd2, q_ix, q_lt, q_eq, q_m5a, q_m5b, q_m40b, q_m8a, q_m8b, q_m16b, q_m374b, q_m160b, q_m10a, q_div5, q_rem5, nI_add, q_moe, q_moe2, q_mol, q_mol2, q_mor, q_bd2, q_bd1, q_stI, q_oI0, if_true, if_false, ite_true, ite_false, ↓reduceIte, Nat.lt_irrefl, Nat.not_lt_zero, Nat.add_zero, Nat.zero_add, Nat.reduceEqDiff, Nat.reduceLeDiff, Nat.reduceLT, Nat.reduceAdd, Bool.false_eq_true, and_self, and_false, false_and, true_and, and_true, not_true_eq_false, not_false_eq_true, r99, hk, g1, q1, g2, q2, g3, g4, sI122, rd, u0]
            · rw [q_oIp (by omega)] at g4
              have g5 := rUp hq (d := yQ Λ k - 1) (by omega)
              rw [if_neg (fun h => hw ⟨q1, q2, q3, by omega, h⟩)] at g5
              simp (maxSteps := 500000) (disch := first | assumption | omega) only [f_X11_time_L44, f_X11_time_J117, f_X11_time_J118, q_l0, q_l1, q_l2, q_l3, q_l4, q_l5, q_l6, q_l7, q_l8, q_l9, q_l10, q_l11, q_l12, q_l13, q_l14, q_l15, q_l16, q_l20, q_l21, q_l22, q_l24, q_l25, q_l26, q_l27, q_l28, q_l29, q_l30, q_l31, q_l32, q_l40, q_l48, q_l57, q_l80, q_l97, q_l100, q_l120, q_l122, q_l126, q_l160, q_l200, q_l214, q_l255, q_l256, q_l374, q_l400, q_l999, q_l1000, q_l9999, q_l99, q_l99999, q_nm, q_gd, q_gd2, q_ix, q_lt, q_eq, q_m5a, q_m5b, q_m40b, q_m8a, q_m8b, q_m16b, q_m374b, q_m160b, q_m10a, q_div5, q_rem5, nI_add, q_moe, q_moe2, q_mol, q_mol2, q_mor, q_bd2, q_bd1, q_stI, q_oI0, if_true, if_false, ite_true, ite_false, ↓reduceIte, Nat.lt_irrefl, Nat.not_lt_zero, Nat.add_zero, Nat.zero_add, Nat.reduceEqDiff, Nat.reduceLeDiff, Nat.reduceLT, Nat.reduceAdd, Bool.false_eq_true, and_self, and_false, false_and, true_and, and_true, not_true_eq_false, not_false_eq_true, r99, hk, g1, q1, g2, q2, g3, g4, g5, sI122, rd, u0]
          · rw [if_neg q3] at g3
            simp (maxSteps := 500000) (disch := first | assumption | omega) only [f_X11_time_L44, f_X11_time_J117, f_X11_time_J118, q_l0, q_l1, q_l2, q_l3, q_l4, q_l5, q_l6, q_l7, q_l8, q_l9, q_l10, q_l11, q_l12, q_l13, q_l14, q_l15, q_l16, q_l20, q_l21, q_l22, q_l24, q_l25, q_l26, q_l27, q_l28, q_l29, q_l30, q_l31, q_l32, q_l40, q_l48, q_l57, q_l80, q_l97, q_l100, q_l120, q_l122, q_l126, q_l160, q_l200, q_l214, q_l255, q_l256, q_l374, q_l400, q_l999, q_l1000, q_l9999, q_l99, q_l99999, q_nm, q_gd, q_gd2, q_ix, q_lt, q_eq, q_m5a, q_m5b, q_m40b, q_m8a, q_m8b, q_m16b, q_m374b, q_m160b, q_m10a, q_div5, q_rem5, nI_add, q_moe, q_moe2, q_mol, q_mol2, q_mor, q_bd2, q_bd1, q_stI, q_oI0, if_true, if_false, ite_true, ite_false, ↓reduceIte, Nat.lt_irrefl, Nat.not_lt_zero, Nat.add_zero, Nat.zero_add, Nat.reduceEqDiff, Nat.reduceLeDiff, Nat.reduceLT, Nat.reduceAdd, Bool.false_eq_true, and_self, and_false, false_and, true_and, and_true, not_true_eq_false, not_false_eq_true, r99, hk, g1, q1, g2, q2, g3, sI122, rd, u0]
        · rcases awU_cases (Λ := Λ) (S := S) k with ⟨h5, _⟩ | ⟨u2, h5, h6, _⟩
          · exact absurd h5 q2
          · rw [h6] at g2
            have h7 := (hW.2.2.2.1 k hk).2.1
            simp (maxSteps := 500000) (disch := first | assumption | omega) only [f_X11_time_L44, f_X11_time_J117, f_X11_time_J118, q_l0, q_l1, q_l2, q_l3, q_l4, q_l5, q_l6, q_l7, q_l8, q_l9, q_l10, q_l11, q_l12, q_l13, q_l14, q_l15, q_l16, q_l20, q_l21, q_l22, q_l24, q_l25, q_l26, q_l27, q_l28, q_l29, q_l30, q_l31, q_l32, q_l40, q_l48, q_l57, q_l80, q_l97, q_l100, q_l120, q_l122, q_l126, q_l160, q_l200, q_l214, q_l255, q_l256, q_l374, q_l400, q_l999, q_l1000, q_l9999, q_l99, q_l99999, q_nm, q_gd, q_gd2, q_ix, q_lt, q_eq, q_m5a, q_m5b, q_m40b, q_m8a, q_m8b, q_m16b, q_m374b, q_m160b, q_m10a, q_div5, q_rem5, nI_add, q_moe, q_moe2, q_mol, q_mol2, q_mor, q_bd2, q_bd1, q_stI, q_oI0, if_true, if_false, ite_true, ite_false, ↓reduceIte, Nat.lt_irrefl, Nat.not_lt_zero, Nat.add_zero, Nat.zero_add, Nat.reduceEqDiff, Nat.reduceLeDiff, Nat.reduceLT, Nat.reduceAdd, Bool.false_eq_true, and_self, and_false, false_and, true_and, and_true, not_true_eq_false, not_false_eq_true, r99, hk, g1, q1, g2, sI122, rd, u0]
      · simp (maxSteps := 500000) (disch := first | assumption | omega) only [f_X11_time_L44, f_X11_time_J117, f_X11_time_J118, q_l0, q_l1, q_l2, q_l3, q_l4, q_l5, q_l6, q_l7, q_l8, q_l9, q_l10, q_l11, q_l12, q_l13, q_l14, q_l15, q_l16, q_l20, q_l21, q_l22, q_l24, q_l25, q_l26, q_l27, q_l28, q_l29, q_l30, q_l31, q_l32, q_l40, q_l48, q_l57, q_l80, q_l97, q_l100, q_l120, q_l122, q_l126, q_l160, q_l200, q_l214, q_l255, q_l256, q_l374, q_l400, q_l999, q_l1000, q_l9999, q_l99, q_l99999, q_nm, q_gd, q_gd2, q_ix, q_lt, q_eq, q_m5a, q_m5b, q_m40b, q_m8a, q_m8b, q_m16b, q_m374b, q_m160b, q_m10a, q_div5, q_rem5, nI_add, q_moe, q_moe2, q_mol, q_mol2, q_mor, q_bd2, q_bd1, q_stI, q_oI0, if_true, if_false, ite_true, ite_false, ↓reduceIte, Nat.lt_irrefl, Nat.not_lt_zero, Nat.add_zero, Nat.zero_add, Nat.reduceEqDiff, Nat.reduceLeDiff, Nat.reduceLT, Nat.reduceAdd, Bool.false_eq_true, and_self, and_false, false_and, true_and, and_true, not_true_eq_false, not_false_eq_true, r99, hk, g1, q1, sI122, rd, u0]
theorem a_time (h : Hq Λ S m) (hW : WL1 Λ) (hW2 : WL2 Λ) (h4 : WL4 Λ) (hS : WS Λ S) (hC : ToC t T m) (hR : ToR T m) (hT : WTo T) : ∃ r m1 m2, f_X10_time t u w v x1 x2 m = some (r, m1) ∧ f_X11_time x1 x2 m1 = some (r, m2) ∧ Sc m m2 := by
  have h13 := hW.1
  have h40 := hW.2.1
  have hp1 := hT.2.2.2.2.1
  have hp9 := hT.2.2.2.2.2.1
  have pa := c_pace hC hT
  have fin : ∀ r, f_X10_time t u w v x1 x2 m = some (r, m) → f_X11_time x1 x2 m = some (r, th m) → ∃ r m1 m2, f_X10_time t u w v x1 x2 m = some (r, m1) ∧ f_X11_time x1 x2 m1 = some (r, m2) ∧ Sc m m2 := fun r e1 e2 => ⟨r, m, th m, e1, e2, Sc_th⟩
  have h2 := Hq_th h
  rcases inN_or x1 (yD Λ) with ⟨d, hd, hd2, rfl⟩ | ho
  · have e1 := isUpD (t := t) (u := u) (w := w) (v := v) h hW hd
    have r1 := rUp h2 (d := d) (by omega)
    have rd := rDisk1 h2.2.1 hW hd
    have r80 : gI (th m) 80 2 = nI (tP T) := (ToR_th hR).2.2.1
    by_cases p1 : upP S d
    · rw [if_pos p1] at e1 r1
      rcases inN_or x2 (tP T) with ⟨x, hx, hx2, rfl⟩ | ho2
      · obtain ⟨y, f1, f2⟩ := c_spares h hW hS hd
        have hqQ : ∀ k, k < yS Λ → tq Λ S d (yS Λ) k = true → 0 < yQ Λ k := fun k hk hq => ((of_decide_eq_true hq).2).2.2.2.1
        obtain ⟨g2, f3⟩ := c_ticksL (c := tP T - x) h.1 hW h4 (show d < 13 by omega) (by omega) (by omega) f2 hqQ (fun i hi => decide_eq_false (fun hh => by omega))
        have hq1 := Hq_th (Hq_wr (b := 77) (g := g2) (by omega) h)
        have r80' : gI (th (wr 77 g2 m)) 80 2 = nI (tP T) := by rw [th_g (by decide), wr_g (by decide)]; exact hR.2.2.1
        have r1' := rUp hq1 (d := d) (by omega)
        rw [if_pos p1] at r1'
        have f4 := r_waits (x := x) hq1 hW hd
        obtain ⟨g3, h3, f5⟩ := r_ticksL (g := (wr 122 (wq (tq Λ S d (yS Λ)) (yS Λ) ((th (wr 77 g2 m)).1 122)) (th (wr 77 g2 m))).1 123) (h1 := (th (wr 77 g2 m)).1 122) hq1.2.1 hW hW2 hd r80' hx hp9 hqQ
        rw [wr_self] at f5
        refine ⟨nI (tkT Λ d (tP T - x) (tq Λ S d (yS Λ))), wr 77 g2 m, wr 123 g3 (wr 122 h3 (th (wr 77 g2 m))), ?_, ?_, Sc_tr (Sc_wr (by omega)) (Sc_tr Sc_th (Sc_tr (Sc_wr (by omega)) (Sc_wr (by omega))))⟩
        · unfold f_X10_time f_X10_time_J28 f_X5_ticks
          simp (maxSteps := 500000) (disch := first | assumption | omega) only [q_l0, q_l1, q_l2, q_l3, q_l4, q_l5, q_l6, q_l7, q_l8, q_l9, q_l10, q_l11, q_l12, q_l13, q_l14, q_l15, q_l16, q_l20, q_l21, q_l22, q_l24, q_l25, q_l26, q_l27, q_l28, q_l29, q_l30, q_l31, q_l32, q_l40, q_l48, q_l57, q_l80, q_l97, q_l100, q_l120, q_l122, q_l126, q_l160, q_l200, q_l214, q_l255, q_l256, q_l374, q_l400, q_l999, q_l1000, q_l9999, q_l99, q_l99999, q_nm, q_gd, q_gd2, q_ix, q_lt, q_eq, q_m5a, q_m5b, q_m40b, q_m8a, q_m8b, q_m16b, q_m374b, q_m160b, q_m10a, q_div5, q_rem5, nI_add, q_moe, q_moe2, q_mol, q_mol2, q_mor, q_bd2, q_bd1, q_stI, q_oI0, if_true, if_false, ite_true, ite_false, ↓reduceIte, Nat.lt_irrefl, Nat.not_lt_zero, Nat.add_zero, Nat.zero_add, Nat.reduceEqDiff, Nat.reduceLeDiff, Nat.reduceLT, Nat.reduceAdd, Bool.false_eq_true, and_self, and_false, false_and, true_and, and_true, not_true_eq_false, not_false_eq_true, e1, pa, hx, pk_sub (Nat.le_of_lt hx), f1, f3]
        · unfold f_X11_time
          rw [q_stI, q_th]
          simp (maxSteps := 500000) (disch := first | assumption | omega) only [q_l0, q_l1, q_l2, q_l3, q_l4, q_l5, q_l6, q_l7, q_l8, q_l9, q_l10, q_l11, q_l12, q_l13, q_l14, q_l15, q_l16, q_l20, q_l21, q_l22, q_l24, q_l25, q_l26, q_l27, q_l28, q_l29, q_l30, q_l31, q_l32, q_l40, q_l48, q_l57, q_l80, q_l97, q_l100, q_l120, q_l122, q_l126, q_l160, q_l200, q_l214, q_l255, q_l256, q_l374, q_l400, q_l999, q_l1000, q_l9999, q_l99, q_l99999, q_nm, q_gd, q_gd2, q_ix, q_lt, q_eq, q_m5a, q_m5b, q_m40b, q_m8a, q_m8b, q_m16b, q_m374b, q_m160b, q_m10a, q_div5, q_rem5, nI_add, q_moe, q_moe2, q_mol, q_mol2, q_mor, q_bd2, q_bd1, q_stI, q_oI0, if_true, if_false, ite_true, ite_false, ↓reduceIte, Nat.lt_irrefl, Nat.not_lt_zero, Nat.add_zero, Nat.zero_add, Nat.reduceEqDiff, Nat.reduceLeDiff, Nat.reduceLT, Nat.reduceAdd, Bool.false_eq_true, and_self, and_false, false_and, true_and, and_true, not_true_eq_false, not_false_eq_true, rDisk1 hq1.2.1 hW hd, r1', r80', r_win, hx, f4, f5]
      · refine fin mo ?_ ?_
        · unfold f_X10_time f_X10_time_J27 f_X10_time_J28
          by_cases h5 : x2 < 0
          · rw [q_l0] at h5
            simp (maxSteps := 500000) (disch := first | assumption | omega) only [q_l0, q_l1, q_l2, q_l3, q_l4, q_l5, q_l6, q_l7, q_l8, q_l9, q_l10, q_l11, q_l12, q_l13, q_l14, q_l15, q_l16, q_l20, q_l21, q_l22, q_l24, q_l25, q_l26, q_l27, q_l28, q_l29, q_l30, q_l31, q_l32, q_l40, q_l48, q_l57, q_l80, q_l97, q_l100, q_l120, q_l122, q_l126, q_l160, q_l200, q_l214, q_l255, q_l256, q_l374, q_l400, q_l999, q_l1000, q_l9999, q_l99, q_l99999, q_nm, q_gd, q_gd2, q_ix, q_lt, q_eq, q_m5a, q_m5b, q_m40b, q_m8a, q_m8b, q_m16b, q_m374b, q_m160b, q_m10a, q_div5, q_rem5, nI_add, q_moe, q_moe2, q_mol, q_mol2, q_mor, q_bd2, q_bd1, q_stI, q_oI0, if_true, if_false, ite_true, ite_false, ↓reduceIte, Nat.lt_irrefl, Nat.not_lt_zero, Nat.add_zero, Nat.zero_add, Nat.reduceEqDiff, Nat.reduceLeDiff, Nat.reduceLT, Nat.reduceAdd, Bool.false_eq_true, and_self, and_false, false_and, true_and, and_true, not_true_eq_false, not_false_eq_true, e1, h5]
          · have h7 := out_lt ho2 h5 (by omega)
            rw [q_l0] at h5
            simp (maxSteps := 500000) (disch := first | assumption | omega) only [q_l0, q_l1, q_l2, q_l3, q_l4, q_l5, q_l6, q_l7, q_l8, q_l9, q_l10, q_l11, q_l12, q_l13, q_l14, q_l15, q_l16, q_l20, q_l21, q_l22, q_l24, q_l25, q_l26, q_l27, q_l28, q_l29, q_l30, q_l31, q_l32, q_l40, q_l48, q_l57, q_l80, q_l97, q_l100, q_l120, q_l122, q_l126, q_l160, q_l200, q_l214, q_l255, q_l256, q_l374, q_l400, q_l999, q_l1000, q_l9999, q_l99, q_l99999, q_nm, q_gd, q_gd2, q_ix, q_lt, q_eq, q_m5a, q_m5b, q_m40b, q_m8a, q_m8b, q_m16b, q_m374b, q_m160b, q_m10a, q_div5, q_rem5, nI_add, q_moe, q_moe2, q_mol, q_mol2, q_mor, q_bd2, q_bd1, q_stI, q_oI0, if_true, if_false, ite_true, ite_false, ↓reduceIte, Nat.lt_irrefl, Nat.not_lt_zero, Nat.add_zero, Nat.zero_add, Nat.reduceEqDiff, Nat.reduceLeDiff, Nat.reduceLT, Nat.reduceAdd, Bool.false_eq_true, and_self, and_false, false_and, true_and, and_true, not_true_eq_false, not_false_eq_true, e1, h5, pa, h7]
        · unfold f_X11_time
          rw [q_stI, q_th]
          simp (maxSteps := 500000) (disch := first | assumption | omega) only [q_l0, q_l1, q_l2, q_l3, q_l4, q_l5, q_l6, q_l7, q_l8, q_l9, q_l10, q_l11, q_l12, q_l13, q_l14, q_l15, q_l16, q_l20, q_l21, q_l22, q_l24, q_l25, q_l26, q_l27, q_l28, q_l29, q_l30, q_l31, q_l32, q_l40, q_l48, q_l57, q_l80, q_l97, q_l100, q_l120, q_l122, q_l126, q_l160, q_l200, q_l214, q_l255, q_l256, q_l374, q_l400, q_l999, q_l1000, q_l9999, q_l99, q_l99999, q_nm, q_gd, q_gd2, q_ix, q_lt, q_eq, q_m5a, q_m5b, q_m40b, q_m8a, q_m8b, q_m16b, q_m374b, q_m160b, q_m10a, q_div5, q_rem5, nI_add, q_moe, q_moe2, q_mol, q_mol2, q_mor, q_bd2, q_bd1, q_stI, q_oI0, if_true, if_false, ite_true, ite_false, ↓reduceIte, Nat.lt_irrefl, Nat.not_lt_zero, Nat.add_zero, Nat.zero_add, Nat.reduceEqDiff, Nat.reduceLeDiff, Nat.reduceLT, Nat.reduceAdd, Bool.false_eq_true, and_self, and_false, false_and, true_and, and_true, not_true_eq_false, not_false_eq_true, rd, r1, r80, r_out ho2]
    · rw [if_neg p1] at e1 r1
      refine fin mo ?_ ?_
      · unfold f_X10_time f_X10_time_J27 f_X10_time_J28
        simp (maxSteps := 500000) (disch := first | assumption | omega) only [q_l0, q_l1, q_l2, q_l3, q_l4, q_l5, q_l6, q_l7, q_l8, q_l9, q_l10, q_l11, q_l12, q_l13, q_l14, q_l15, q_l16, q_l20, q_l21, q_l22, q_l24, q_l25, q_l26, q_l27, q_l28, q_l29, q_l30, q_l31, q_l32, q_l40, q_l48, q_l57, q_l80, q_l97, q_l100, q_l120, q_l122, q_l126, q_l160, q_l200, q_l214, q_l255, q_l256, q_l374, q_l400, q_l999, q_l1000, q_l9999, q_l99, q_l99999, q_nm, q_gd, q_gd2, q_ix, q_lt, q_eq, q_m5a, q_m5b, q_m40b, q_m8a, q_m8b, q_m16b, q_m374b, q_m160b, q_m10a, q_div5, q_rem5, nI_add, q_moe, q_moe2, q_mol, q_mol2, q_mor, q_bd2, q_bd1, q_stI, q_oI0, if_true, if_false, ite_true, ite_false, ↓reduceIte, Nat.lt_irrefl, Nat.not_lt_zero, Nat.add_zero, Nat.zero_add, Nat.reduceEqDiff, Nat.reduceLeDiff, Nat.reduceLT, Nat.reduceAdd, Bool.false_eq_true, and_self, and_false, false_and, true_and, and_true, not_true_eq_false, not_false_eq_true, e1]
      · unfold f_X11_time
        rw [q_stI, q_th]
        simp (maxSteps := 500000) (disch := first | assumption | omega) only [q_l0, q_l1, q_l2, q_l3, q_l4, q_l5, q_l6, q_l7, q_l8, q_l9, q_l10, q_l11, q_l12, q_l13, q_l14, q_l15, q_l16, q_l20, q_l21, q_l22, q_l24, q_l25, q_l26, q_l27, q_l28, q_l29, q_l30, q_l31, q_l32, q_l40, q_l48, q_l57, q_l80, q_l97, q_l100, q_l120, q_l122, q_l126, q_l160, q_l200, q_l214, q_l255, q_l256, q_l374, q_l400, q_l999, q_l1000, q_l9999, q_l99, q_l99999, q_nm, q_gd, q_gd2, q_ix, q_lt, q_eq, q_m5a, q_m5b, q_m40b, q_m8a, q_m8b, q_m16b, q_m374b, q_m160b, q_m10a, q_div5, q_rem5, nI_add, q_moe, q_moe2, q_mol, q_mol2, q_mor, q_bd2, q_bd1, q_stI, q_oI0, if_true, if_false, ite_true, ite_false, ↓reduceIte, Nat.lt_irrefl, Nat.not_lt_zero, Nat.add_zero, Nat.zero_add, Nat.reduceEqDiff, Nat.reduceLeDiff, Nat.reduceLT, Nat.reduceAdd, Bool.false_eq_true, and_self, and_false, false_and, true_and, and_true, not_true_eq_false, not_false_eq_true, rd, r1]
  · refine fin mo ?_ ?_
    · unfold f_X10_time f_X10_time_J27 f_X10_time_J28
      simp (maxSteps := 500000) (disch := first | assumption | omega) only [q_l0, q_l1, q_l2, q_l3, q_l4, q_l5, q_l6, q_l7, q_l8, q_l9, q_l10, q_l11, q_l12, q_l13, q_l14, q_l15, q_l16, q_l20, q_l21, q_l22, q_l24, q_l25, q_l26, q_l27, q_l28, q_l29, q_l30, q_l31, q_l32, q_l40, q_l48, q_l57, q_l80, q_l97, q_l100, q_l120, q_l122, q_l126, q_l160, q_l200, q_l214, q_l255, q_l256, q_l374, q_l400, q_l999, q_l1000, q_l9999, q_l99, q_l99999, q_nm, q_gd, q_gd2, q_ix, q_lt, q_eq, q_m5a, q_m5b, q_m40b, q_m8a, q_m8b, q_m16b, q_m374b, q_m160b, q_m10a, q_div5, q_rem5, nI_add, q_moe, q_moe2, q_mol, q_mol2, q_mor, q_bd2, q_bd1, q_stI, q_oI0, if_true, if_false, ite_true, ite_false, ↓reduceIte, Nat.lt_irrefl, Nat.not_lt_zero, Nat.add_zero, Nat.zero_add, Nat.reduceEqDiff, Nat.reduceLeDiff, Nat.reduceLT, Nat.reduceAdd, Bool.false_eq_true, and_self, and_false, false_and, true_and, and_true, not_true_eq_false, not_false_eq_true, isUpD0 h hW ho]
    · unfold f_X11_time
      rw [q_stI, q_th]
      simp (maxSteps := 500000) (disch := first | assumption | omega) only [q_l0, q_l1, q_l2, q_l3, q_l4, q_l5, q_l6, q_l7, q_l8, q_l9, q_l10, q_l11, q_l12, q_l13, q_l14, q_l15, q_l16, q_l20, q_l21, q_l22, q_l24, q_l25, q_l26, q_l27, q_l28, q_l29, q_l30, q_l31, q_l32, q_l40, q_l48, q_l57, q_l80, q_l97, q_l100, q_l120, q_l122, q_l126, q_l160, q_l200, q_l214, q_l255, q_l256, q_l374, q_l400, q_l999, q_l1000, q_l9999, q_l99, q_l99999, q_nm, q_gd, q_gd2, q_ix, q_lt, q_eq, q_m5a, q_m5b, q_m40b, q_m8a, q_m8b, q_m16b, q_m374b, q_m160b, q_m10a, q_div5, q_rem5, nI_add, q_moe, q_moe2, q_mol, q_mol2, q_mor, q_bd2, q_bd1, q_stI, q_oI0, if_true, if_false, ite_true, ite_false, ↓reduceIte, Nat.lt_irrefl, Nat.not_lt_zero, Nat.add_zero, Nat.zero_add, Nat.reduceEqDiff, Nat.reduceLeDiff, Nat.reduceLT, Nat.reduceAdd, Bool.false_eq_true, and_self, and_false, false_and, true_and, and_true, not_true_eq_false, not_false_eq_true, rDisk0 h2.2.1 hW ho]
end Ti4
