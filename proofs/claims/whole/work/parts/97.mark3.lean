/-! MATH HALF: the call mark, its outcome -/
def MkO (Λ : Lv) (B : Nat) (m : Mm) : Prop := (∃ S s D M, Hq Λ S m ∧ WT Λ B S ∧ SeenAt Λ 54 0 s D M m) ∧ MkI Λ B 0 m ∧ MkI Λ B 1 m ∧ SnB m
section Mk3
variable {Λ : Lv} {a b x k d n i B t u w v s M p j a2 r r2 p2 y : Nat} {D : Nat → Nat} {S T : Sv} {m m2 : Mm} {x1 : Int32}
theorem Seen_mv (e5 : gI m2 a2 5 = gI m a 5) (e7 : gI m2 a2 7 = gI m a 7) (e114 : gI m2 114 r2 = gI m 114 r) (e4 : ∀ i, i < 8 → gI m2 (a2 + 4) i = gI m (a + 4) i) (e15 : ∀ i, i < 8 → gI m2 115 (8 * r2 + i) = gI m 115 (8 * r + i)) (e16 : ∀ i, i < 8 → gI m2 116 (8 * r2 + i) = gI m 116 (8 * r + i)) (h : SeenAt Λ a r s D M m) : SeenAt Λ a2 r2 s D M m2 := by
  obtain ⟨h1, h2, h3, h4, h5, h6⟩ := h
  refine ⟨h1, h2, e5.trans h3, e7.trans h4, e114.trans h5, fun i hi => ?_⟩
  obtain ⟨q1, q2, q3, q4⟩ := h6 i hi
  exact ⟨q1, (e4 i (by omega)).trans q2, (e15 i (by omega)).trans q3, (e16 i (by omega)).trans q4⟩
theorem CS_mv (e1 : gI m2 a2 1 = gI m a 1) (e2 : ∀ i, i < 200 → gI m2 (a2 + 1) i = gI m (a + 1) i) (e3 : ∀ i, i < 200 → gI m2 (a2 + 2) i = gI m (a + 2) i) (e4 : ∀ i, i < 13 → gI m2 (a2 + 3) i = gI m (a + 3) i) (h : CS a S m) : CS a2 S m2 :=
  ⟨e1.trans h.1, fun x hx => (e2 x hx).trans (h.2.1 x hx), fun x hx => (e3 x hx).trans (h.2.2.1 x hx), fun x hx => (e4 x hx).trans (h.2.2.2 x hx)⟩
theorem RS_mv (hX : yX Λ ≤ 160) (e : ∀ j, j < 374 → gI m2 p2 (a2 + j) = gI m p (a + j)) (h : RS Λ p a S m) : RS Λ p2 a2 S m2 :=
  ⟨(e 0 (by omega)).trans h.1, fun x hx => (e _ (by omega)).trans (h.2.1 x hx), fun x hx => (e _ (by omega)).trans (h.2.2.1 x hx), fun x hx => (e _ (by omega)).trans (h.2.2.2 x hx)⟩
theorem MkI_ag (hX : yX Λ ≤ 160) (f1 : gI m2 75 k = gI m 75 k) (f2 : gI m2 121 k = gI m 121 k) (f3 : ∀ b i, 65 + 5 * k ≤ b → b ≤ 69 + 5 * k → gI m2 b i = gI m b i) (f4 : ∀ j, j < 374 → gI m2 120 (374 * k + j) = gI m 120 (374 * k + j)) (f5 : gI m2 114 (1 + k) = gI m 114 (1 + k)) (f6 : ∀ b i, b = 115 ∨ b = 116 → i < 8 → gI m2 b (8 * (1 + k) + i) = gI m b (8 * (1 + k) + i)) (h : MkI Λ B k m) : MkI Λ B k m2 := by
  obtain ⟨f, g1, g2, g3, g4⟩ := h
  refine ⟨f, g1, f1.trans g2, f2.trans g3, fun e => ?_⟩
  obtain ⟨S, s, D, M, q1, q2, q3, q4⟩ := g4 e
  exact ⟨S, s, D, M, q1, CS_mv (f3 _ _ (by omega) (by omega)) (fun i _ => f3 _ _ (by omega) (by omega)) (fun i _ => f3 _ _ (by omega) (by omega)) (fun i _ => f3 _ _ (by omega) (by omega)) q2, RS_mv hX f4 q3, Seen_mv (f3 _ _ (by omega) (by omega)) (f3 _ _ (by omega) (by omega)) f5 (fun i _ => f3 _ _ (by omega) (by omega)) (fun i hi => f6 _ i (Or.inl rfl) hi) (fun i hi => f6 _ i (Or.inr rfl) hi) q4⟩
theorem CS_Hq (h : Hq Λ S m) : CS 54 S m := by
  have e := h.2.2.1
  refine ⟨hq_up h, fun x _ => ?_, fun x _ => ?_, fun x _ => ?_⟩
  · have := pS_wh (a := 54) (S := S) (m := m) (x := x)
    rw [e] at this; exact this
  · have := pS_va (a := 54) (S := S) (m := m) (x := x)
    rw [e] at this; exact this
  · have := pS_lo (a := 54) (S := S) (m := m) (x := x)
    rw [e] at this; exact this
theorem RS_Hq (h : Hq Λ S m) : RS Λ 117 0 S m := by
  have e := h.2.2.2
  refine ⟨?_, fun x hx => ?_, fun x hx => ?_, fun x hx => ?_⟩
  · have := pR_up (Λ := Λ) (S := S) (m := m)
    rw [e] at this; exact this
  · have := pR_lo (Λ := Λ) (S := S) (m := m) hx
    rw [e] at this; rw [Nat.zero_add]; exact this
  · have := pR_wh (Λ := Λ) (S := S) (m := m) hx
    rw [e] at this; rw [Nat.zero_add]; exact this
  · have := pR_va (Λ := Λ) (S := S) (m := m) hx
    rw [e] at this; rw [Nat.zero_add]; exact this
theorem SnB_L (hk : k < 2) (h : SnB m) : SnB (mkL k m) := fun i hi => by
  by_cases p : 8 * (1 + k) ≤ i ∧ i < 8 * (1 + k) + 8
  · have := mkL_11x (m := m) (b := 116) (i := i - 8 * (1 + k)) hk (Or.inr rfl) (by omega)
    rw [show 8 * (1 + k) + (i - 8 * (1 + k)) = i from by omega] at this
    rw [this]; exact h _ (by omega)
  · rw [mkL_same (by omega) (by omega) (by omega) (by omega) (by omega) (by omega) (by omega)]
    exact h _ hi
theorem SnB_B (hk : k < 2) (h : SnB m) : SnB (mkB k m) := fun i hi => by
  by_cases p : i < 8
  · have := mkB_11x (m := m) (b := 116) (i := i) hk (Or.inr rfl) p
    rw [show 8 * 0 + i = i from by omega] at this
    rw [this]; exact h _ (by omega)
  · rw [mkB_same (by omega) (by omega) (by omega) (by omega) (by omega) (by omega)]
    exact h _ hi
theorem out_L (hk : k < 2) (hW : WL1 Λ) (h : Hq Λ S m) (hT : WT Λ B S) (hs : SeenAt Λ 54 0 s D M m) (hB : SnB m) (h0 : ∀ j, j < 2 → MkI Λ B j m) : MkO Λ B (mkL k m) := by
  have hX := hW.2.2.1
  have key : ∀ j, j < 2 → MkI Λ B j (mkL k m) := fun j hj => by
    by_cases e : j = k
    · subst e
      refine ⟨1, by omega, mkL_75 hk, mkL_121 hk, fun _ => ⟨S, s, D, M, hT, ?_, ?_, ?_⟩⟩
      · exact CS_mv (a := 54) (mkL_c0 hk (Or.inl rfl)) (fun i hi => mkL_c1 hk hi) (fun i hi => mkL_c2 hk hi) (fun i hi => mkL_c3 hk hi) (CS_Hq h)
      · exact RS_mv (p := 117) (a := 0) hX (fun j hj => by rw [Nat.zero_add]; exact mkL_row hk hj) (RS_Hq h)
      · exact Seen_mv (a := 54) (r := 0) (mkL_c0 hk (by omega)) (mkL_c0 hk (by omega)) (mkL_114 hk) (fun i hi => mkL_c4 hk hi) (fun i hi => by rw [Nat.mul_zero, Nat.zero_add]; exact mkL_11x hk (by omega) hi) (fun i hi => by rw [Nat.mul_zero, Nat.zero_add]; exact mkL_11x hk (by omega) hi) hs
    · refine MkI_ag hX ?_ ?_ (fun b i h1 h2 => ?_) (fun i hi => ?_) ?_ (fun b i h1 h2 => ?_) (h0 j hj) <;> exact mkL_same (by omega) (by omega) (by omega) (by omega) (by omega) (by omega) (by omega)
  refine ⟨⟨S, s, D, M, Hq_ag (fun b i hb => ?_) h, hT, ?_⟩, key 0 (by omega), key 1 (by omega), SnB_L hk hB⟩
  · exact mkL_same (by omega) (by omega) (by omega) (by omega) (by omega) (by omega) (by omega)
  · refine Seen_mv (a := 54) (r := 0) ?_ ?_ ?_ (fun i hi => ?_) (fun i hi => ?_) (fun i hi => ?_) hs <;> exact mkL_same (by omega) (by omega) (by omega) (by omega) (by omega) (by omega) (by omega)
theorem out_B (hk : k < 2) (hW : WL1 Λ) (h3 : WL3 Λ) (h : Hq Λ S m) (hB : SnB m) (h0 : ∀ j, j < 2 → MkI Λ B j m) (h1 : gI m 75 k = nI 1) : MkO Λ B (mkB k m) := by
  have hX := hW.2.2.1
  have key : ∀ j, j < 2 → MkI Λ B j (mkB k m) := fun j hj => by
    by_cases e : j = k
    · subst e
      refine MkI_ag hX ?_ ?_ (fun b i h1 h2 => ?_) (fun i hi => ?_) ?_ (fun b i h1 h2 => ?_) (h0 j hj)
      · exact mkB_same (by omega) (by omega) (by omega) (by omega) (by omega) (by omega)
      · obtain ⟨f, g1, g2, g3, g4⟩ := h0 j hj
        rw [mkB_121 hk, g3, ← g2, h1]
      · exact mkB_same (by omega) (by omega) (by omega) (by omega) (by omega) (by omega)
      · exact mkB_same (by omega) (by omega) (by omega) (by omega) (by omega) (by omega)
      · exact mkB_same (by omega) (by omega) (by omega) (by omega) (by omega) (by omega)
      · exact mkB_same (by omega) (by omega) (by omega) (by omega) (by omega) (by omega)
    · refine MkI_ag hX ?_ ?_ (fun b i h1 h2 => ?_) (fun i hi => ?_) ?_ (fun b i h1 h2 => ?_) (h0 j hj) <;> exact mkB_same (by omega) (by omega) (by omega) (by omega) (by omega) (by omega)
  obtain ⟨f, g1, g2, g3, g4⟩ := h0 k hk
  have hf : f = 1 := by
    rw [g2] at h1
    exact (q_eq (by omega) (by omega)).mp h1
  obtain ⟨T, s2, D2, M2, q1, q2, q3, q4⟩ := g4 hf
  have hC : CS 54 T (mkB k m) := CS_mv (a := 65 + 5 * k) (mkB_c0 hk (Or.inl rfl)) (fun i hi => mkB_c1 hk hi) (fun i hi => mkB_c2 hk hi) (fun i hi => mkB_c3 hk hi) q2
  have hR : RS Λ 117 0 T (mkB k m) := RS_mv (p := 120) (a := 374 * k) hX (fun j hj => mkB_row hk hj) q3
  have hE : EqS T (gS 54 (mkB k m)) := ⟨hC.1.symm, fun x hx => (hC.2.1 x hx).symm, fun x hx => (hC.2.2.1 x hx).symm, fun x hx => (hC.2.2.2 x hx).symm⟩
  have hR2 : RS Λ 117 0 (gS 54 (mkB k m)) (mkB k m) := ⟨hR.1.trans hE.1, fun x hx => (hR.2.1 x hx).trans (hE.2.2.2 x hx), fun x hx => (hR.2.2.1 x hx).trans (hE.2.1 x hx), fun x hx => (hR.2.2.2 x hx).trans (hE.2.2.1 _ (vy_lt hW (h3.1 x hx).1))⟩
  refine ⟨⟨gS 54 (mkB k m), s2, D2, M2, Hq_RS (fun b i hb => ?_) h hR2, WT_eq hW hE q1, ?_⟩, key 0 (by omega), key 1 (by omega), SnB_B hk hB⟩
  · exact mkB_same (by omega) (by omega) (by omega) (by omega) (by omega) (by omega)
  · exact Seen_mv (a := 65 + 5 * k) (r := 1 + k) (mkB_c0 hk (by omega)) (mkB_c0 hk (by omega)) (mkB_114 hk) (fun i hi => mkB_c4 hk hi) (fun i hi => mkB_11x hk (by omega) hi) (fun i hi => mkB_11x hk (by omega) hi) q4
/-- what mark leaves as it is -/
def mkF (m m2 : Mm) : Prop := m2.2 = m.2 ∧ ∀ b i, ¬ ((54 ≤ b ∧ b ≤ 58) ∨ (65 ≤ b ∧ b ≤ 75) ∨ (b = 78 ∧ i = 0) ∨ (114 ≤ b ∧ b ≤ 117) ∨ b = 120 ∨ b = 121) → gI m2 b i = gI m b i
theorem r_mark (hk : k < 2) (hy : y = 0) (hB : SnB m) : f_X11_mark (nI k) (nI y) (sI (cyM (65 + 5 * k) 54 m) 75 k (nI 1)) = some (nI 1, mkL k m) := by
  subst hy
  have e1 : f_X11_laysSeen (nI 0) (nI (1 + k)) (sI (th (sI (cyM (65 + 5 * k) 54 m) 75 k (nI 1))) 121 k (nI 1)) = some (lsM 0 (1 + k) (sI (th (sI (cyM (65 + 5 * k) 54 m) 75 k (nI 1))) 121 k (nI 1))) := r_laysSeen (by omega) (by omega) (by omega) (fun i hi => by
    have e : gI (sI (th (sI (cyM (65 + 5 * k) 54 m) 75 k (nI 1))) 121 k (nI 1)) 116 (8 * 0 + i) = gI m 116 i := by
      simp only [gI, sI, th, cyM, Nat.mul_zero, Nat.zero_add]
      repeat (first | rw [if_neg (by omega)] | rw [if_pos (by omega)])
    rw [e]; exact hB i (by omega))
  have e2 : ∀ m, f_X11_copies 117 120 (nI 0) (nI (374 * k)) m = some (cpN 117 0 120 (374 * k) 374 m) := fun m => r_copies (by decide) (by decide) (by show _ ≤ 748; omega) (by decide) (by decide)
  have hw := r_winL (k := k) (n := 1) (m := th (sI (cyM (65 + 5 * k) 54 m) 75 k (nI 1))) (by omega) (by omega)
  have hk1 : k ≤ 1 := by omega
  unfold f_X11_mark
  rw [q_stI, q_th, q_l0, q_l1, hw, if_pos hk1, q_bd2, if_neg n10, if_pos rfl]
  simp (maxSteps := 500000) (disch := first | assumption | omega) only [f_X11_mark_J29, f_X11_mark_J47, f_X11_mark_J59, q_l0, q_l1, q_l2, q_l3, q_l4, q_l5, q_l6, q_l7, q_l8, q_l9, q_l10, q_l11, q_l12, q_l13, q_l14, q_l15, q_l16, q_l20, q_l21, q_l22, q_l24, q_l25, q_l26, q_l27, q_l28, q_l29, q_l30, q_l31, q_l32, q_l40, q_l48, q_l57, q_l80, q_l97, q_l100, q_l120, q_l122, q_l126, q_l160, q_l200, q_l214, q_l255, q_l256, q_l374, q_l400, q_l999, q_l1000, q_l9999, q_l99, q_l99999, q_nm, q_gd, q_gd2, q_ix, q_lt, q_eq, q_m5a, q_m5b, q_m40b, q_m8a, q_m8b, q_m16b, q_m374b, q_m160b, q_m10a, q_div5, q_rem5, nI_add, q_moe, q_moe2, q_mol, q_mol2, q_mor, q_bd2, q_bd1, q_stI, q_oI0, if_true, if_false, ite_true, ite_false, ↓reduceIte, Nat.lt_irrefl, Nat.not_lt_zero, Nat.add_zero, Nat.zero_add, Nat.reduceEqDiff, Nat.reduceLeDiff, Nat.reduceLT, Nat.reduceAdd, Bool.false_eq_true, and_self, and_false, false_and, true_and, and_true, not_true_eq_false, not_false_eq_true, e1, e2]
  rfl
theorem r_markB (hk : k < 2) (hB : SnB m) (h1 : gI m 121 k = nI 1) : f_X11_mark (nI k) (nI 1) (cyM 54 (65 + 5 * k) m) = some (nI 1, mkB k m) := by
  have e1 : f_X11_laysSeen (nI (1 + k)) (nI 0) (sI (th (cyM 54 (65 + 5 * k) m)) 121 k (nI 1)) = some (lsM (1 + k) 0 (sI (th (cyM 54 (65 + 5 * k) m)) 121 k (nI 1))) := r_laysSeen (by omega) (by omega) (by omega) (fun i hi => by
    have e : gI (sI (th (cyM 54 (65 + 5 * k) m)) 121 k (nI 1)) 116 (8 * (1 + k) + i) = gI m 116 (8 * (1 + k) + i) := by
      simp only [gI, sI, th, cyM]
      repeat (first | rw [if_neg (by omega)] | rw [if_pos (by omega)])
    rw [e]; exact hB _ (by omega))
  have e2 : ∀ m, f_X11_copies 120 117 (nI (374 * k)) (nI 0) m = some (cpN 120 (374 * k) 117 0 374 m) := fun m => r_copies (by decide) (by show _ ≤ 748; omega) (by decide) (by decide) (by decide)
  have hw := r_winL (k := k) (n := 1) (m := th (cyM 54 (65 + 5 * k) m)) (by omega) (by omega)
  have hk1 : k ≤ 1 := by omega
  have e3 : gI (th (cyM 54 (65 + 5 * k) m)) 121 k = nI 1 := by
    rw [← h1]
    simp only [gI, sI, th, cyM]
    repeat (first | rw [if_neg (by omega)] | rw [if_pos (by omega)])
  unfold f_X11_mark
  rw [q_stI, q_th, q_l0, q_l1, hw, if_pos hk1, q_bd2, if_neg n10, if_neg n10]
  simp (maxSteps := 500000) (disch := first | assumption | omega) only [f_X11_mark_J29, f_X11_mark_J47, f_X11_mark_J59, q_l0, q_l1, q_l2, q_l3, q_l4, q_l5, q_l6, q_l7, q_l8, q_l9, q_l10, q_l11, q_l12, q_l13, q_l14, q_l15, q_l16, q_l20, q_l21, q_l22, q_l24, q_l25, q_l26, q_l27, q_l28, q_l29, q_l30, q_l31, q_l32, q_l40, q_l48, q_l57, q_l80, q_l97, q_l100, q_l120, q_l122, q_l126, q_l160, q_l200, q_l214, q_l255, q_l256, q_l374, q_l400, q_l999, q_l1000, q_l9999, q_l99, q_l99999, q_nm, q_gd, q_gd2, q_ix, q_lt, q_eq, q_m5a, q_m5b, q_m40b, q_m8a, q_m8b, q_m16b, q_m374b, q_m160b, q_m10a, q_div5, q_rem5, nI_add, q_moe, q_moe2, q_mol, q_mol2, q_mor, q_bd2, q_bd1, q_stI, q_oI0, if_true, if_false, ite_true, ite_false, ↓reduceIte, Nat.lt_irrefl, Nat.not_lt_zero, Nat.add_zero, Nat.zero_add, Nat.reduceEqDiff, Nat.reduceLeDiff, Nat.reduceLT, Nat.reduceAdd, Bool.false_eq_true, and_self, and_false, false_and, true_and, and_true, not_true_eq_false, not_false_eq_true, e1, e2, e3, n10]
  rfl
end Mk3
