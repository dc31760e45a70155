/-! MATH HALF: the picture of a layout (numbers by row) and of a state, in the class's cells and in the reference's -/
abbrev Lv : Type := Nat → Nat → Nat
/-- up, where, value, loads -/
abbrev Sv : Type := Int32 × (Nat → Int32) × (Nat → Int32) × (Nat → Int32)
def yD (Λ : Lv) : Nat := Λ 0 0
def yS (Λ : Lv) : Nat := Λ 0 1
def yX (Λ : Lv) : Nat := Λ 0 2
def yZ (Λ : Lv) (k : Nat) : Nat := Λ 1 k
def yP (Λ : Lv) (k : Nat) : Nat := Λ 2 k
def yB (Λ : Lv) (k : Nat) : Nat := Λ 3 k
/-- the spare's disk, one more; 0: none -/
def yQ (Λ : Lv) (k : Nat) : Nat := Λ 4 k
/-- the spare's place, one more; 0: none -/
def yR (Λ : Lv) (k : Nat) : Nat := Λ 5 k
def yM (Λ : Lv) (k : Nat) : Nat := Λ 6 k
def yK (Λ : Lv) (x : Nat) : Nat := Λ 7 x
def yH (Λ : Lv) (x : Nat) : Nat := Λ 8 x
/-- the datum of a unit, one more; 0: the parity -/
def yT (Λ : Lv) (x : Nat) : Nat := Λ 9 x
def yU (Λ : Lv) (i : Nat) : Nat := Λ 10 i
def yA (Λ : Lv) (d : Nat) : Nat := Λ 11 d
def yC (Λ : Lv) (d : Nat) : Nat := Λ 12 d
def yE (Λ : Lv) (d : Nat) : Nat := Λ 13 d
/-- a unit -/
abbrev vx (Λ : Lv) (x : Nat) : Prop := x / 5 < yS Λ ∧ x % 5 < yZ Λ (x / 5)
def WL1 (Λ : Lv) : Prop := yD Λ ≤ 13 ∧ yS Λ ≤ 40 ∧ yX Λ ≤ 160 ∧ (∀ k, k < yS Λ → 2 ≤ yZ Λ k ∧ yZ Λ k ≤ 5 ∧ yP Λ k < yZ Λ k ∧ yQ Λ k ≤ yD Λ) ∧ (∀ x, vx Λ x → yK Λ x < yD Λ)
/-- no disk twice in a stripe, its spare on none of them -/
def WL2 (Λ : Lv) : Prop := (∀ k u v, k < yS Λ → u < yZ Λ k → v < yZ Λ k → yK Λ (5 * k + u) = yK Λ (5 * k + v) → u = v) ∧ (∀ k u, k < yS Λ → u < yZ Λ k → yK Λ (5 * k + u) + 1 ≠ yQ Λ k)
/-- data and units, one to one -/
def WL3 (Λ : Lv) : Prop := (∀ i, i < yX Λ → vx Λ (yU Λ i) ∧ yU Λ i % 5 ≠ yP Λ (yU Λ i / 5) ∧ yT Λ (yU Λ i) = i + 1) ∧ (∀ x, vx Λ x → x % 5 ≠ yP Λ (x / 5) → 0 < yT Λ x ∧ yT Λ x ≤ yX Λ ∧ yU Λ (yT Λ x - 1) = x) ∧ (∀ x, vx Λ x → x % 5 = yP Λ (x / 5) → yT Λ x = 0)
/-- the bits of a stripe -/
def WL4 (Λ : Lv) : Prop := ∀ k, k < yS Λ → yM Λ k < 8192 ∧ ∀ d, (yM Λ k).testBit d = true ↔ ∃ u, u < yZ Λ k ∧ yK Λ (5 * k + u) = d
theorem vx_mk {Λ : Lv} (hW : WL1 Λ) {k u : Nat} (hk : k < yS Λ) (hu : u < yZ Λ k) : vx Λ (5 * k + u) := by
  have h5 := (hW.2.2.2.1 k hk).2.1
  have e1 : (5 * k + u) / 5 = k := by omega
  have e2 : (5 * k + u) % 5 = u := by omega
  show (5 * k + u) / 5 < yS Λ ∧ (5 * k + u) % 5 < yZ Λ ((5 * k + u) / 5)
  rw [e1, e2]
  exact ⟨hk, hu⟩
theorem vy_lt {Λ : Lv} (hW : WL1 Λ) {x : Nat} (hx : vx Λ x) : x < 200 := by
  have h1 := hx.1
  have h2 := hx.2
  have h3 := hW.2.1
  omega
theorem q_5d {Λ : Lv} (hW : WL1 Λ) {k u : Nat} (hk : k < yS Λ) (hu : u < yZ Λ k) : (5 * k + u) / 5 = k := by
  have h5 := (hW.2.2.2.1 k hk).2.1
  omega
theorem q_5m {Λ : Lv} (hW : WL1 Λ) {k u : Nat} (hk : k < yS Λ) (hu : u < yZ Λ k) : (5 * k + u) % 5 = u := by
  have h5 := (hW.2.2.2.1 k hk).2.1
  omega
/-- the layout in the class's cells -/
def RelC (Λ : Lv) (m : Mm) : Prop := gI m 26 0 = nI (yD Λ) ∧ gI m 26 1 = nI (yS Λ) ∧ gI m 26 2 = nI (yX Λ) ∧ (∀ k, k < yS Λ → gI m 27 k = nI (yZ Λ k)) ∧ (∀ k, k < yS Λ → gI m 28 k = nI (yP Λ k)) ∧ (∀ k, k < yS Λ → gI m 29 k = nI (yB Λ k)) ∧ (∀ k, k < yS Λ → gI m 30 k = oI (yQ Λ k)) ∧ (∀ k, k < yS Λ → gI m 31 k = oI (yR Λ k)) ∧ (∀ k, k < yS Λ → gI m 32 k = nI (yM Λ k)) ∧ (∀ x, vx Λ x → gI m 33 x = nI (yK Λ x)) ∧ (∀ x, vx Λ x → gI m 34 x = nI (yH Λ x)) ∧ (∀ x, vx Λ x → gI m 35 x = oI (yT Λ x)) ∧ (∀ i, i < yX Λ → gI m 36 i = nI (yU Λ i)) ∧ (∀ d, d < 13 → gI m 37 d = nI (yA Λ d)) ∧ (∀ d, d < 13 → gI m 38 d = nI (yC Λ d)) ∧ (∀ d, d < 13 → gI m 39 d = nI (yE Λ d))
/-- the layout in the reference's cells -/
def RelR (Λ : Lv) (m : Mm) : Prop := gI m 80 0 = nI (yD Λ) ∧ gI m 99 0 = nI (yS Λ) ∧ gI m 108 0 = nI (yX Λ) ∧ (∀ k, k < yS Λ → gI m 100 k = nI (yZ Λ k)) ∧ (∀ k, k < yS Λ → gI m 102 k = nI (yP Λ k)) ∧ (∀ k, k < yS Λ → gI m 101 k = nI (yB Λ k)) ∧ (∀ k, k < yS Λ → gI m 103 k = oI (yQ Λ k)) ∧ (∀ k, k < yS Λ → gI m 104 k = oI (yR Λ k)) ∧ (∀ x, vx Λ x → gI m 105 x = nI (yK Λ x)) ∧ (∀ x, vx Λ x → gI m 106 x = nI (yH Λ x)) ∧ (∀ x, vx Λ x → gI m 109 x = oI (yT Λ x)) ∧ (∀ i, i < yX Λ → gI m 107 i = nI (yU Λ i))
/-- a state in the class's cells from a on -/
def pS (a : Nat) (S : Sv) (m : Mm) : Mm := (fun b i => if b = a then (if i = 1 then S.1 else m.1 b i) else if b = a + 1 then S.2.1 i else if b = a + 2 then S.2.2.1 i else if b = a + 3 then S.2.2.2 i else m.1 b i, m.2)
def gS (a : Nat) (m : Mm) : Sv := (m.1 a 1, m.1 (a + 1), m.1 (a + 2), m.1 (a + 3))
/-- a state in the reference's row -/
def pR (Λ : Lv) (S : Sv) (m : Mm) : Mm := (fun b i => if b = 117 then (if i = 0 then S.1 else if i < 14 then S.2.2.2 (i - 1) else if i < 214 then S.2.1 (i - 14) else if i < 214 + yX Λ then S.2.2.1 (yU Λ (i - 214)) else m.1 b i) else m.1 b i, m.2)
theorem mm_ext {m n : Mm} (h : ∀ b i, m.1 b i = n.1 b i) (h2 : m.2 = n.2) : m = n := by
  cases m; cases n
  simp only [Prod.mk.injEq]
  exact ⟨by funext b i; exact h b i, h2⟩
section Pic
variable {Λ : Lv} {a b i d x k u : Nat} {S S2 : Sv} {m : Mm} {v : Int32}
theorem pS_up : gI (pS a S m) a 1 = S.1 := by simp [gI, pS]
theorem pS_wh : gI (pS a S m) (a + 1) x = S.2.1 x := by simp [gI, pS]
theorem pS_va : gI (pS a S m) (a + 2) x = S.2.2.1 x := by simp [gI, pS]
theorem pS_lo : gI (pS a S m) (a + 3) x = S.2.2.2 x := by simp [gI, pS]
theorem pS_low (h : b < a) : gI (pS a S m) b i = gI m b i := by
  have h1 : b ≠ a := by omega
  have h2 : b ≠ a + 1 := by omega
  have h3 : b ≠ a + 2 := by omega
  have h4 : b ≠ a + 3 := by omega
  simp [gI, pS, h1, h2, h3, h4]
theorem pS_hi (h : a + 3 < b) : gI (pS a S m) b i = gI m b i := by
  have h1 : b ≠ a := by omega
  have h2 : b ≠ a + 1 := by omega
  have h3 : b ≠ a + 2 := by omega
  have h4 : b ≠ a + 3 := by omega
  simp [gI, pS, h1, h2, h3, h4]
theorem pS_fld (h : i ≠ 1) : gI (pS a S m) a i = gI m a i := by simp [gI, pS, h]
theorem pS_sup : sI (pS a S m) a 1 v = pS a (v, S.2) m := by
  refine mm_ext (fun b j => ?_) rfl
  simp only [sI, pS]
  by_cases h : b = a <;> by_cases h2 : j = 1 <;> simp [h, h2]
theorem pS_swh : sI (pS a S m) (a + 1) x v = pS a (S.1, upd S.2.1 x v, S.2.2) m := by
  refine mm_ext (fun b j => ?_) rfl
  simp only [sI, pS, upd]
  by_cases h : b = a + 1
  · subst h; by_cases h2 : j = x <;> simp [h2]
  · simp [h]
theorem pS_sva : sI (pS a S m) (a + 2) x v = pS a (S.1, S.2.1, upd S.2.2.1 x v, S.2.2.2) m := by
  refine mm_ext (fun b j => ?_) rfl
  simp only [sI, pS, upd]
  by_cases h : b = a + 2
  · subst h; by_cases h2 : j = x <;> simp [h2]
  · simp [h]
theorem pS_slo : sI (pS a S m) (a + 3) x v = pS a (S.1, S.2.1, S.2.2.1, upd S.2.2.2 x v) m := by
  refine mm_ext (fun b j => ?_) rfl
  simp only [sI, pS, upd]
  by_cases h : b = a + 3
  · subst h; by_cases h2 : j = x <;> simp [h2]
  · simp [h]
theorem pS_self : pS a (gS a m) m = m := by
  refine mm_ext (fun b j => ?_) rfl
  simp only [pS, gS]
  by_cases h : b = a
  · subst h; by_cases h2 : j = 1 <;> simp [h2]
  · by_cases h1 : b = a + 1
    · subst h1; simp
    · by_cases h2 : b = a + 2
      · subst h2; simp
      · by_cases h3 : b = a + 3
        · subst h3; simp
        · simp [h, h1, h2, h3]
theorem pS_pS : pS a S (pS a S2 m) = pS a S m := by
  refine mm_ext (fun b j => ?_) rfl
  simp only [pS]
  by_cases h : b = a
  · subst h; by_cases h2 : j = 1 <;> simp [h2]
  · by_cases h1 : b = a + 1
    · subst h1; simp
    · by_cases h2 : b = a + 2
      · subst h2; simp
      · by_cases h3 : b = a + 3
        · subst h3; simp
        · simp [h, h1, h2, h3]
theorem gS_pS : gS a (pS a S m) = S := by simp [gS, pS]
theorem pR_up : gI (pR Λ S m) 117 0 = S.1 := by simp [gI, pR]
theorem pR_lo (h : d < 13) : gI (pR Λ S m) 117 (1 + d) = S.2.2.2 d := by
  have h1 : 1 + d < 14 := by omega
  have h2 : 1 + d ≠ 0 := by omega
  have h3 : 1 + d - 1 = d := by omega
  simp only [gI, pR, if_true, h1, h2, h3, if_false, reduceIte]
theorem pR_wh (h : x < 200) : gI (pR Λ S m) 117 (14 + x) = S.2.1 x := by
  have h1 : ¬ 14 + x < 14 := by omega
  have h2 : 14 + x ≠ 0 := by omega
  have h3 : 14 + x - 14 = x := by omega
  have h4 : 14 + x < 214 := by omega
  simp only [gI, pR, if_true, h1, h2, h3, h4, if_false, reduceIte]
theorem pR_wh2 (h : 5 * k + u < 200) : gI (pR Λ S m) 117 (14 + 5 * k + u) = S.2.1 (5 * k + u) := by
  rw [Nat.add_assoc]; exact pR_wh h
theorem pR_va (h : i < yX Λ) : gI (pR Λ S m) 117 (214 + i) = S.2.2.1 (yU Λ i) := by
  have h1 : ¬ 214 + i < 14 := by omega
  have h2 : 214 + i ≠ 0 := by omega
  have h3 : 214 + i - 214 = i := by omega
  have h4 : ¬ 214 + i < 214 := by omega
  have h5 : 214 + i < 214 + yX Λ := by omega
  simp only [gI, pR, if_true, h1, h2, h3, h4, h5, if_false, reduceIte]
theorem pR_oth (h : b ≠ 117) : gI (pR Λ S m) b i = gI m b i := by simp [gI, pR, h]
theorem pR_sup : sI (pR Λ S m) 117 0 v = pR Λ (v, S.2) m := by
  refine mm_ext (fun b j => ?_) rfl
  simp only [sI, pR]
  by_cases h : b = 117 <;> by_cases h2 : j = 0 <;> simp [h, h2]
theorem pR_slo (h : d < 13) : sI (pR Λ S m) 117 (1 + d) v = pR Λ (S.1, S.2.1, S.2.2.1, upd S.2.2.2 d v) m := by
  refine mm_ext (fun b j => ?_) rfl
  simp only [sI, pR, upd]
  by_cases hb : b = 117
  · subst hb
    by_cases h2 : j = 1 + d
    · subst h2
      have h1 : 1 + d < 14 := by omega
      have h3 : 1 + d - 1 = d := by omega
      simp [h1, h3]
    · have h3 : ¬ (1 ≤ j ∧ j - 1 = d) := by omega
      by_cases h4 : j = 0
      · have h6 : ¬ (0 = 1 + d) := by omega
        simp [h4, h6]
      · have h5 : j - 1 ≠ d := by omega
        simp [h2, h4, h5]
  · simp [hb]
theorem pR_swh (h : x < 200) : sI (pR Λ S m) 117 (14 + x) v = pR Λ (S.1, upd S.2.1 x v, S.2.2) m := by
  refine mm_ext (fun b j => ?_) rfl
  simp only [sI, pR, upd]
  by_cases hb : b = 117
  · subst hb
    by_cases h2 : j = 14 + x
    · subst h2
      have h1 : ¬ 14 + x < 14 := by omega
      have h3 : 14 + x - 14 = x := by omega
      have h4 : 14 + x < 214 := by omega
      have h5 : ¬ (14 + x = 0) := by omega
      simp only [h1, h3, h4, h5, if_true, if_false, and_self, reduceIte]
    · have h5 : j < 14 ∨ j - 14 ≠ x := by omega
      rcases h5 with h5 | h5
      · simp [h2, h5]
      · simp [h2, h5]
  · simp [hb]
theorem pR_swh2 (h : 5 * k + u < 200) : sI (pR Λ S m) 117 (14 + 5 * k + u) v = pR Λ (S.1, upd S.2.1 (5 * k + u) v, S.2.2) m := by
  rw [Nat.add_assoc]; exact pR_swh h
theorem LU_inj (hW : WL3 Λ) {i j : Nat} (hi : i < yX Λ) (hj : j < yX Λ) (h : yU Λ i = yU Λ j) : i = j := by
  have h1 := (hW.1 i hi).2.2
  have h2 := (hW.1 j hj).2.2
  rw [h] at h1
  omega
theorem pR_sva (hW : WL3 Λ) (h : i < yX Λ) : sI (pR Λ S m) 117 (214 + i) v = pR Λ (S.1, S.2.1, upd S.2.2.1 (yU Λ i) v, S.2.2.2) m := by
  refine mm_ext (fun b j => ?_) rfl
  simp only [sI, pR, upd]
  by_cases hb : b = 117
  · subst hb
    by_cases h2 : j = 214 + i
    · subst h2
      have h1 : ¬ 214 + i < 14 := by omega
      have h3 : 214 + i - 214 = i := by omega
      have h4 : ¬ 214 + i < 214 := by omega
      have h5 : ¬ (214 + i = 0) := by omega
      have h6 : 214 + i < 214 + yX Λ := by omega
      simp only [h1, h3, h4, h5, h6, if_true, if_false, and_self, reduceIte]
    · by_cases h4 : 214 ≤ j ∧ j < 214 + yX Λ
      · have h5 : yU Λ (j - 214) ≠ yU Λ i := fun e => by
          have := LU_inj hW (by omega) h e
          omega
        simp [h2, h5]
      · have h5 : j < 214 ∨ ¬ j < 214 + yX Λ := by omega
        rcases h5 with h5 | h5
        · simp [h2, h5]
        · simp [h2, h5]
  · simp [hb]
theorem pR_pR : pR Λ S (pR Λ S2 m) = pR Λ S m := by
  refine mm_ext (fun b j => ?_) rfl
  simp only [pR]
  by_cases h : b = 117
  · subst h
    by_cases h1 : j = 0
    · simp [h1]
    · by_cases h2 : j < 14
      · simp [h1, h2]
      · by_cases h3 : j < 214
        · simp [h1, h2, h3]
        · by_cases h4 : j < 214 + yX Λ <;> simp [h1, h2, h3, h4]
  · simp [h]
theorem RelC_pS (ha : 54 ≤ a) (h : RelC Λ m) : RelC Λ (pS a S m) := by
  obtain ⟨c0, c1, c2, c27, c28, c29, c30, c31, c32, c33, c34, c35, c36, c37, c38, c39⟩ := h
  unfold RelC
  simp (disch := omega) only [pS_low]
  exact ⟨c0, c1, c2, c27, c28, c29, c30, c31, c32, c33, c34, c35, c36, c37, c38, c39⟩
theorem RelR_pS (ha : 54 ≤ a) (ha2 : a ≤ 70) (h : RelR Λ m) : RelR Λ (pS a S m) := by
  unfold RelR
  simp (disch := omega) only [pS_hi]
  exact h
theorem RelC_pR (h : RelC Λ m) : RelC Λ (pR Λ S m) := by
  unfold RelC
  simp (disch := omega) only [pR_oth]
  exact h
theorem RelR_pR (h : RelR Λ m) : RelR Λ (pR Λ S m) := by
  unfold RelR
  simp (disch := omega) only [pR_oth]
  exact h
end Pic
