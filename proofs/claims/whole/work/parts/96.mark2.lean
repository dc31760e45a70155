/-! MATH HALF: the call mark -/
/-- a state in the class's cells, in the ranges that are read -/
def CS (a : Nat) (S : Sv) (m : Mm) : Prop := gI m a 1 = S.1 ∧ (∀ x, x < 200 → gI m (a + 1) x = S.2.1 x) ∧ (∀ x, x < 200 → gI m (a + 2) x = S.2.2.1 x) ∧ ∀ d, d < 13 → gI m (a + 3) d = S.2.2.2 d
/-- a state in a row of the reference's -/
def RS (Λ : Lv) (p a : Nat) (S : Sv) (m : Mm) : Prop := gI m p a = S.1 ∧ (∀ d, d < 13 → gI m p (a + (1 + d)) = S.2.2.2 d) ∧ (∀ x, x < 200 → gI m p (a + (14 + x)) = S.2.1 x) ∧ ∀ i, i < yX Λ → gI m p (a + (214 + i)) = S.2.2.1 (yU Λ i)
def MkI (Λ : Lv) (B k : Nat) (m : Mm) : Prop := ∃ f, f ≤ 1 ∧ gI m 75 k = nI f ∧ gI m 121 k = nI f ∧ (f = 1 → ∃ S s D M, WT Λ B S ∧ CS (65 + 5 * k) S m ∧ RS Λ 120 (374 * k) S m ∧ SeenAt Λ (65 + 5 * k) (1 + k) s D M m)
def SnB (m : Mm) : Prop := ∀ i, i < 24 → isB (gI m 116 i) = true
def mkL (k : Nat) (m : Mm) : Mm := cpN 117 0 120 (374 * k) 374 (lsM 0 (1 + k) (sI (th (sI (cyM (65 + 5 * k) 54 m) 75 k (nI 1))) 121 k (nI 1)))
def mkB (k : Nat) (m : Mm) : Mm := cpN 120 (374 * k) 117 0 374 (lsM (1 + k) 0 (sI (th (cyM 54 (65 + 5 * k) m)) 121 k (nI 1)))
section Mk2
variable {Λ : Lv} {a b x k d n i B t u w v s M p j : Nat} {D : Nat → Nat} {S T : Sv} {m m2 : Mm} {x1 : Int32}
theorem mkL_same (h1 : ¬ (b = 120 ∧ 374 * k ≤ i ∧ i < 374 * k + 374)) (h2 : ¬ (b = 114 ∧ i = 1 + k)) (h3 : ¬ ((b = 115 ∨ b = 116) ∧ 8 * (1 + k) ≤ i ∧ i < 8 * (1 + k) + 8)) (h4 : ¬ (b = 121 ∧ i = k)) (h5 : ¬ (b = 78 ∧ i = 0)) (h6 : ¬ (b = 75 ∧ i = k)) (h7 : ¬ (65 + 5 * k ≤ b ∧ b ≤ 69 + 5 * k)) : gI (mkL k m) b i = gI m b i := by
  simp only [mkL, gI, cpN, lsM, sI, th, cyM, true_and, and_true, ↓reduceIte]
  rw [if_neg h1, if_neg h2, if_neg h3, if_neg h4, if_neg h5, if_neg h6]
  repeat (first | rw [if_neg (by omega)] | rw [if_pos (by omega)])
theorem mkL_row (hk : k < 2) (hj : j < 374) : gI (mkL k m) 120 (374 * k + j) = gI m 117 j := by
  simp only [mkL, gI, cpN, lsM, sI, th, cyM, true_and, and_true, ↓reduceIte]
  repeat (first | rw [if_neg (by omega)] | rw [if_pos (by omega)])
  exact congrArg _ (by omega)
theorem mkL_c0 (hk : k < 2) (hj : i = 1 ∨ i = 5 ∨ i = 7) : gI (mkL k m) (65 + 5 * k) i = gI m 54 i := by
  simp only [mkL, gI, cpN, lsM, sI, th, cyM, true_and, and_true, ↓reduceIte]
  repeat (first | rw [if_neg (by omega)] | rw [if_pos (by omega)])
theorem mkL_c1 (hk : k < 2) (hj : i < 200) : gI (mkL k m) (65 + 5 * k + 1) i = gI m 55 i := by
  simp only [mkL, gI, cpN, lsM, sI, th, cyM, true_and, and_true, ↓reduceIte]
  repeat (first | rw [if_neg (by omega)] | rw [if_pos (by omega)])
theorem mkL_c2 (hk : k < 2) (hj : i < 200) : gI (mkL k m) (65 + 5 * k + 2) i = gI m 56 i := by
  simp only [mkL, gI, cpN, lsM, sI, th, cyM, true_and, and_true, ↓reduceIte]
  repeat (first | rw [if_neg (by omega)] | rw [if_pos (by omega)])
theorem mkL_c3 (hk : k < 2) (hj : i < 13) : gI (mkL k m) (65 + 5 * k + 3) i = gI m 57 i := by
  simp only [mkL, gI, cpN, lsM, sI, th, cyM, true_and, and_true, ↓reduceIte]
  repeat (first | rw [if_neg (by omega)] | rw [if_pos (by omega)])
theorem mkL_c4 (hk : k < 2) (hj : i < 8) : gI (mkL k m) (65 + 5 * k + 4) i = gI m 58 i := by
  simp only [mkL, gI, cpN, lsM, sI, th, cyM, true_and, and_true, ↓reduceIte]
  repeat (first | rw [if_neg (by omega)] | rw [if_pos (by omega)])
theorem mkL_114 (hk : k < 2) : gI (mkL k m) 114 (1 + k) = gI m 114 0 := by
  simp only [mkL, gI, cpN, lsM, sI, th, cyM, true_and, and_true, ↓reduceIte]
  repeat (first | rw [if_neg (by omega)] | rw [if_pos (by omega)])
theorem mkL_11x (hk : k < 2) (hb : b = 115 ∨ b = 116) (hj : i < 8) : gI (mkL k m) b (8 * (1 + k) + i) = gI m b i := by
  simp only [mkL, gI, cpN, lsM, sI, th, cyM, true_and, and_true, ↓reduceIte]
  repeat (first | rw [if_neg (by omega)] | rw [if_pos (by omega)])
  exact congrArg _ (by omega)
theorem mkL_75 (hk : k < 2) : gI (mkL k m) 75 k = nI 1 := by
  simp only [mkL, gI, cpN, lsM, sI, th, cyM, true_and, and_true, ↓reduceIte]
  repeat (first | rw [if_neg (by omega)] | rw [if_pos (by omega)])
theorem mkL_121 (hk : k < 2) : gI (mkL k m) 121 k = nI 1 := by
  simp only [mkL, gI, cpN, lsM, sI, th, cyM, true_and, and_true, ↓reduceIte]
  repeat (first | rw [if_neg (by omega)] | rw [if_pos (by omega)])
theorem mkB_same (h1 : ¬ (b = 117 ∧ i < 374)) (h2 : ¬ (b = 114 ∧ i = 0)) (h3 : ¬ ((b = 115 ∨ b = 116) ∧ i < 8)) (h4 : ¬ (b = 121 ∧ i = k)) (h5 : ¬ (b = 78 ∧ i = 0)) (h7 : ¬ (54 ≤ b ∧ b ≤ 58)) : gI (mkB k m) b i = gI m b i := by
  simp only [mkB, gI, cpN, lsM, sI, th, cyM, true_and, and_true, ↓reduceIte]
  repeat (first | rw [if_neg (by omega)] | rw [if_pos (by omega)])
theorem mkB_row (hk : k < 2) (hj : j < 374) : gI (mkB k m) 117 (0 + j) = gI m 120 (374 * k + j) := by
  simp only [mkB, gI, cpN, lsM, sI, th, cyM, true_and, and_true, ↓reduceIte]
  repeat (first | rw [if_neg (by omega)] | rw [if_pos (by omega)])
  exact congrArg _ (by omega)
theorem mkB_c0 (hk : k < 2) (hj : i = 1 ∨ i = 5 ∨ i = 7) : gI (mkB k m) 54 i = gI m (65 + 5 * k) i := by
  simp only [mkB, gI, cpN, lsM, sI, th, cyM, true_and, and_true, ↓reduceIte]
  repeat (first | rw [if_neg (by omega)] | rw [if_pos (by omega)])
theorem mkB_c1 (hk : k < 2) (hj : i < 200) : gI (mkB k m) (54 + 1) i = gI m (65 + 5 * k + 1) i := by
  simp only [mkB, gI, cpN, lsM, sI, th, cyM, true_and, and_true, ↓reduceIte]
  repeat (first | rw [if_neg (by omega)] | rw [if_pos (by omega)])
theorem mkB_c2 (hk : k < 2) (hj : i < 200) : gI (mkB k m) (54 + 2) i = gI m (65 + 5 * k + 2) i := by
  simp only [mkB, gI, cpN, lsM, sI, th, cyM, true_and, and_true, ↓reduceIte]
  repeat (first | rw [if_neg (by omega)] | rw [if_pos (by omega)])
theorem mkB_c3 (hk : k < 2) (hj : i < 13) : gI (mkB k m) (54 + 3) i = gI m (65 + 5 * k + 3) i := by
  simp only [mkB, gI, cpN, lsM, sI, th, cyM, true_and, and_true, ↓reduceIte]
  repeat (first | rw [if_neg (by omega)] | rw [if_pos (by omega)])
theorem mkB_c4 (hk : k < 2) (hj : i < 8) : gI (mkB k m) (54 + 4) i = gI m (65 + 5 * k + 4) i := by
  simp only [mkB, gI, cpN, lsM, sI, th, cyM, true_and, and_true, ↓reduceIte]
  repeat (first | rw [if_neg (by omega)] | rw [if_pos (by omega)])
theorem mkB_114 (hk : k < 2) : gI (mkB k m) 114 0 = gI m 114 (1 + k) := by
  simp only [mkB, gI, cpN, lsM, sI, th, cyM, true_and, and_true, ↓reduceIte]
  repeat (first | rw [if_neg (by omega)] | rw [if_pos (by omega)])
theorem mkB_11x (hk : k < 2) (hb : b = 115 ∨ b = 116) (hj : i < 8) : gI (mkB k m) b (8 * 0 + i) = gI m b (8 * (1 + k) + i) := by
  simp only [mkB, gI, cpN, lsM, sI, th, cyM, true_and, and_true, ↓reduceIte]
  repeat (first | rw [if_neg (by omega)] | rw [if_pos (by omega)])
  exact congrArg _ (by omega)
theorem mkB_121 (hk : k < 2) : gI (mkB k m) 121 k = nI 1 := by
  simp only [mkB, gI, cpN, lsM, sI, th, cyM, true_and, and_true, ↓reduceIte]
  repeat (first | rw [if_neg (by omega)] | rw [if_pos (by omega)])
theorem Hq_RS (hag : ∀ b i, ((26 ≤ b ∧ b ≤ 39) ∨ b = 80 ∨ (99 ≤ b ∧ b ≤ 109)) → gI m2 b i = gI m b i) (h : Hq Λ S m) (hr : RS Λ 117 0 (gS 54 m2) m2) : Hq Λ (gS 54 m2) m2 := by
  refine ⟨?_, ?_, pS_self, ?_⟩
  · unfold RelC
    simp (disch := omega) only [hag]
    exact h.1
  · unfold RelR
    simp (disch := omega) only [hag]
    exact h.2.1
  · obtain ⟨e1, e2, e3, e4⟩ := hr
    refine mm_ext (fun c j => ?_) rfl
    simp only [pR]
    by_cases hc : c = 117
    · subst hc
      rw [if_pos rfl]
      by_cases j0 : j = 0
      · subst j0; rw [if_pos rfl]; exact e1.symm
      · rw [if_neg j0]
        by_cases j1 : j < 14
        · rw [if_pos j1]
          have := e2 (j - 1) (by omega)
          rw [show 0 + (1 + (j - 1)) = j from by omega] at this
          exact this.symm
        · rw [if_neg j1]
          by_cases j2 : j < 214
          · rw [if_pos j2]
            have := e3 (j - 14) (by omega)
            rw [show 0 + (14 + (j - 14)) = j from by omega] at this
            exact this.symm
          · rw [if_neg j2]
            by_cases j3 : j < 214 + yX Λ
            · rw [if_pos j3]
              have := e4 (j - 214) (by omega)
              rw [show 0 + (214 + (j - 214)) = j from by omega] at this
              exact this.symm
            · rw [if_neg j3]
    · rw [if_neg hc]
end Mk2
