/-! MATH HALF: the call array -/
/-- cells that what stands rests on, the tape aside -/
def nt (t w b i : Nat) : Prop := (t ≤ b ∧ b ≤ t + 3) ∨ (b = t + 4 ∧ i = 1) ∨ b = t + 5 ∨ (w ≤ b ∧ b ≤ w + 3) ∨ (26 ≤ b ∧ b ≤ 39) ∨ (54 ≤ b ∧ b ≤ 58) ∨ (65 ≤ b ∧ b ≤ 75) ∨ (b = 80 ∧ i < 3) ∨ ((b = 81 ∨ b = 82) ∧ i < 6) ∨ (b = 83 ∧ i < 30) ∨ ((b = 84 ∨ b = 85) ∧ i = 0) ∨ (b = 86 ∧ i < 1000) ∨ ((b = 99 ∨ b = 108) ∧ i = 0) ∨ (100 ≤ b ∧ b ≤ 104 ∧ i < 40) ∨ ((b = 105 ∨ b = 106 ∨ b = 109) ∧ i < 200) ∨ (b = 107 ∧ i < 160) ∨ (b = 110 ∧ i = 0) ∨ (111 ≤ b ∧ b ≤ 113 ∧ i < 40) ∨ (114 ≤ b ∧ b ≤ 117) ∨ b = 120 ∨ b = 121
section Arr2
variable {q : Tq} {a b c d e i j k n s u x sp D B t w v A : Nat} {m m1 m2 m3 mc mc2 mr mr2 mx : Mm} {y z : Int32} {p f : List Int32} {T Λ : Lv} {P : Pv} {S : Sv}
theorem RelC_g (hg : ∀ b i, 26 ≤ b → b ≤ 39 → gI m2 b i = gI m b i) (h : RelC Λ m) : RelC Λ m2 := by
  obtain ⟨h1, h2, h3, h4, h5, h6, h7, h8, h9, h10, h11, h12, h13, h14, h15, h16⟩ := h
  exact ⟨(hg _ _ (by omega) (by omega)).trans h1, (hg _ _ (by omega) (by omega)).trans h2, (hg _ _ (by omega) (by omega)).trans h3, fun k hk => (hg _ _ (by omega) (by omega)).trans (h4 k hk), fun k hk => (hg _ _ (by omega) (by omega)).trans (h5 k hk), fun k hk => (hg _ _ (by omega) (by omega)).trans (h6 k hk), fun k hk => (hg _ _ (by omega) (by omega)).trans (h7 k hk), fun k hk => (hg _ _ (by omega) (by omega)).trans (h8 k hk), fun k hk => (hg _ _ (by omega) (by omega)).trans (h9 k hk), fun k hk => (hg _ _ (by omega) (by omega)).trans (h10 k hk), fun k hk => (hg _ _ (by omega) (by omega)).trans (h11 k hk), fun k hk => (hg _ _ (by omega) (by omega)).trans (h12 k hk), fun k hk => (hg _ _ (by omega) (by omega)).trans (h13 k hk), fun k hk => (hg _ _ (by omega) (by omega)).trans (h14 k hk), fun k hk => (hg _ _ (by omega) (by omega)).trans (h15 k hk), fun k hk => (hg _ _ (by omega) (by omega)).trans (h16 k hk)⟩
theorem vx_200 (hW : WL1 Λ) (h : vx Λ x) : x < 200 := by
  have h2 := hW.2.1
  have := h.1
  omega
theorem RelR_g (hW : WL1 Λ) (hg : ∀ b i, ((b = 80 ∨ b = 99 ∨ b = 108) ∧ i = 0) ∨ (100 ≤ b ∧ b ≤ 104 ∧ i < 40) ∨ ((b = 105 ∨ b = 106 ∨ b = 109) ∧ i < 200) ∨ (b = 107 ∧ i < 160) → gI m2 b i = gI m b i) (h : RelR Λ m) : RelR Λ m2 := by
  obtain ⟨h1, h2, h3, h4, h5, h6, h7, h8, h9, h10, h11, h12⟩ := h
  have w2 := hW.2.1
  have w3 := hW.2.2.1
  exact ⟨(hg _ _ (by omega)).trans h1, (hg _ _ (by omega)).trans h2, (hg _ _ (by omega)).trans h3, fun k hk => (hg _ _ (by omega)).trans (h4 k hk), fun k hk => (hg _ _ (by omega)).trans (h5 k hk), fun k hk => (hg _ _ (by omega)).trans (h6 k hk), fun k hk => (hg _ _ (by omega)).trans (h7 k hk), fun k hk => (hg _ _ (by omega)).trans (h8 k hk), fun k hk => (hg _ _ (by have := vx_200 hW hk; omega)).trans (h9 k hk), fun k hk => (hg _ _ (by have := vx_200 hW hk; omega)).trans (h10 k hk), fun k hk => (hg _ _ (by have := vx_200 hW hk; omega)).trans (h11 k hk), fun k hk => (hg _ _ (by omega)).trans (h12 k hk)⟩
theorem ToC_gg (hT : WTo T) (hg : ∀ b i, t ≤ b → b ≤ t + 3 → gI m2 b i = gI m b i) (h : ToC t T m) : ToC t T m2 := by
  obtain ⟨h1, h2, h3, h4, h5, h6⟩ := h
  exact ⟨(hg _ _ (by omega) (by omega)).trans h1, (hg _ _ (by omega) (by omega)).trans h2, h3.imp (fun e => ⟨(hg _ _ (by omega) (by omega)).trans e.1, e.2⟩) (fun e => (hg _ _ (by omega) (by omega)).trans e), fun k hk => (hg _ _ (by omega) (by omega)).trans (h4 k hk), fun k hk => (hg _ _ (by omega) (by omega)).trans (h5 k hk), fun k w hk hw => (hg _ _ (by omega) (by omega)).trans (h6 k w hk hw)⟩
theorem ToR_gg (hT : WTo T) (hg : ∀ b i, (b = 80 ∧ i < 3) ∨ ((b = 81 ∨ b = 82) ∧ i < 6) ∨ (b = 83 ∧ i < 30) → gI m2 b i = gI m b i) (h : ToR T m) : ToR T m2 := by
  obtain ⟨h1, h2, h3, h4, h5, h6⟩ := h
  have w3 := hT.2.2.1
  exact ⟨(hg _ _ (by omega)).trans h1, (hg _ _ (by omega)).trans h2, (hg _ _ (by omega)).trans h3, fun k hk => (hg _ _ (by omega)).trans (h4 k hk), fun k hk => (hg _ _ (by omega)).trans (h5 k hk), fun k w hk hw => (hg _ _ (by have := hT.2.2.2.2.2.2.1 k hk; omega)).trans (h6 k w hk hw)⟩
theorem LawC_g (hg : ∀ b i, (b = t + 4 ∧ i = 1) ∨ b = t + 5 → gI m2 b i = gI m b i) (h : LawC t P m) : LawC t P m2 := fun m' e1 e2 => h m' (e1.trans (hg _ _ (by omega))) (fun i => (e2 i).trans (hg _ _ (by omega)))
theorem LawR_g (hg : ∀ b i, ((b = 84 ∨ b = 85) ∧ i = 0) ∨ (b = 86 ∧ i < 1000) → gI m2 b i = gI m b i) (h : LawR P m) : LawR P m2 := fun m' e => h m' (fun b i hb => (e b i hb).trans (hg b i (by omega)))
theorem pS_fix (h1 : gI m A 1 = S.1) (h2 : ∀ i, gI m (A + 1) i = S.2.1 i) (h3 : ∀ i, gI m (A + 2) i = S.2.2.1 i) (h4 : ∀ i, gI m (A + 3) i = S.2.2.2 i) : pS A S m = m := by
  refine mm_ext (fun b i => ?_) rfl
  simp only [pS]
  by_cases e0 : b = A
  · rw [if_pos e0, e0]
    by_cases e : i = 1
    · rw [if_pos e, e]; exact h1.symm
    · rw [if_neg e]
  · rw [if_neg e0]
    by_cases e1 : b = A + 1
    · rw [if_pos e1, e1]; exact (h2 i).symm
    · rw [if_neg e1]
      by_cases e2 : b = A + 2
      · rw [if_pos e2, e2]; exact (h3 i).symm
      · rw [if_neg e2]
        by_cases e3 : b = A + 3
        · rw [if_pos e3, e3]; exact (h4 i).symm
        · rw [if_neg e3]
theorem pS_un (h : pS A S m = m) : gI m A 1 = S.1 ∧ (∀ i, gI m (A + 1) i = S.2.1 i) ∧ (∀ i, gI m (A + 2) i = S.2.2.1 i) ∧ ∀ i, gI m (A + 3) i = S.2.2.2 i := by
  refine ⟨?_, fun i => ?_, fun i => ?_, fun i => ?_⟩ <;> rw [← h] <;> simp [gI, pS]
theorem pR_fix (h1 : ∀ i, i < 214 + yX Λ → gI m2 117 i = gI m 117 i) (h : pR Λ S m = m) : pR Λ S m2 = m2 := by
  refine mm_ext (fun b i => ?_) rfl
  have hh : (pR Λ S m).1 117 i = m.1 117 i := by rw [h]
  simp only [pR] at hh ⊢
  by_cases e : b = 117
  · subst e
    rw [if_pos rfl]
    rw [if_pos trivial] at hh
    by_cases hi : i < 214 + yX Λ
    · have e2 : m2.1 117 i = m.1 117 i := h1 i hi
      rw [e2, ← hh]
      by_cases i0 : i = 0
      · rw [if_pos i0, if_pos i0]
      · rw [if_neg i0, if_neg i0]
        by_cases i1 : i < 14
        · rw [if_pos i1, if_pos i1]
        · rw [if_neg i1, if_neg i1]
          by_cases i2 : i < 214
          · rw [if_pos i2, if_pos i2]
          · rw [if_neg i2, if_neg i2, if_pos hi, if_pos hi]
    · rw [if_neg (by omega), if_neg (by omega), if_neg (by omega), if_neg hi]
  · rw [if_neg e]
theorem pB_o2 {γ : Bv} (h : ¬ (A ≤ b ∧ b ≤ A + 13)) : gI (pB A γ m) b i = gI m b i := by
  simp only [gI, pB]
  rw [if_neg h]
/-- the class, all lines read -/
theorem ar_C1 (hu : u = 3 ∨ u = 10) (hw : w = 18 ∨ w = 22) (hf : f_X0_fill u m = some (nI 0, mc2)) (hF : frU u m mc2) (hT : ToC u T (sI mc2 1 1 (nI 0))) (hL : LawC u P (sI mc2 1 1 (nI 0))) (hW : WTo T) (hS : cS T (tD T) (tB T) ≤ 40) (hP : ∀ k z d b, 2 ≤ z → z ≤ 5 → P k z d b < z) : ∃ m1 S, f_X10_array t u w v m = some (nI 0, m1) ∧ RelC (mkL2 T P (tD T)) m1 ∧ isF (mkL2 T P (tD T)) S ∧ pS 54 S m1 = m1 ∧ gI m1 54 5 = nI 0 ∧ gI m1 54 7 = nI 0 ∧ gI m1 w 4 = nI 0 ∧ gI m1 75 0 = nI 0 ∧ gI m1 75 1 = nI 0 ∧ gI m1 1 1 = nI 0 ∧ ToC u T m1 ∧ LawC u P m1 ∧ (∀ b i, 78 ≤ b → m1.1 b i = m.1 b i) ∧ m1.2 = m.2 := by
  have ok : okT T P (tD T) := ⟨hW, hW.2.1, Nat.le_refl _, hS, hP⟩
  have w1 : WL1 (mkL2 T P (tD T)) := WL_1 (WL_0 ok)
  obtain ⟨γ, mb, b1, b2, b3⟩ := c_build (A := 26) (Or.inl rfl) hu hT hL hW hW.2.1 (Nat.le_refl _) hP
  have rc : RelC (mkL2 T P (tD T)) (sI (pB 26 γ mb) w 4 (nI 0)) := RelC_g (fun b i _ _ => g_ne (by omega)) (RelC_a.mp (b3 hS))
  have hb := c_begin (a := 54) (by omega) rc w1
  have gb : ∀ b i, ¬ (26 ≤ b ∧ b ≤ 39) → ¬ (b = w ∧ i = 4) → ¬ (b = u + 4 ∧ i = 3) → b ≠ u + 6 → gI (sI (pB 26 γ mb) w 4 (nI 0)) b i = gI (sI mc2 1 1 (nI 0)) b i := fun b i k1 k2 k3 k4 => by
    rw [g_ne k2, pB_o2 (by omega)]
    exact b2.2 b i k3 k4
  generalize hS8 : frS (mkL2 T P (tD T)) 54 (sI (pB 26 γ mb) w 4 (nI 0)) = S8 at hb
  have iF : isF (mkL2 T P (tD T)) S8 := by rw [← hS8]; exact frS_F
  generalize hm8 : sI (pB 26 γ mb) w 4 (nI 0) = m8 at rc hb gb
  have w8 : gI m8 w 4 = nI 0 := by rw [← hm8]; exact g_eq
  have l8 : m8.2 = m.2 := by
    rw [← hm8]
    exact (show mb.2 = _ from b2.1).trans hF.1
  have g9 : ∀ b i, ¬ (54 ≤ b ∧ b ≤ 57) → gI (pS 54 S8 (bgB 54 m8)) b i = gI m8 b i := fun b i hb => by
    simp only [gI, pS, bgB, sI]
    rw [if_neg (by omega), if_neg (by omega), if_neg (by omega), if_neg (by omega), if_neg (by omega), if_neg (by omega)]
  refine ⟨sI (sI (pS 54 S8 (bgB 54 m8)) 75 0 (nI 0)) 75 1 (nI 0), S8, ?_, ?_, iF, ?_, ?_, ?_, ?_, ?_, ?_, ?_, ?_, ?_, fun b i hb => ?_, ?_⟩
  · have gu0 : gI (sI mc2 1 1 (nI 0)) u 0 = nI (tD T) := hT.1
    have hL80 : f_X10_array_L80 t u w v FU (nI 0) (pS 54 S8 (bgB 54 m8)) = some (nI 0, sI (sI (pS 54 S8 (bgB 54 m8)) 75 0 (nI 0)) 75 1 (nI 0)) := by
      obtain ⟨jf, hj⟩ := FU_n (n := 2) (by omega)
      have x0 : ix (nI 0) = 0 := rfl
      have x1 : ix (nI 1) = 1 := rfl
      rw [hj, f_X10_array_L80, if_pos (by decide), q_gd (by omega) (by omega), x0, q_l0, q_stI, q_l1, nI_add, f_X10_array_L80, if_pos (by decide), q_gd (by omega) (by omega), x1, q_l0, q_stI, q_l1, nI_add, f_X10_array_L80, if_neg (by decide), q_l0]
    unfold f_X10_array
    rw [hf, q_bd2, q_l0, q_stI, if_pos rfl, gu0, b1, q_bd2, q_stI, hm8, hb, q_bd1, hL80]
  · exact RelC_g (fun b i k1 k2 => by rw [g_ne (by omega), g_ne (by omega), g9 _ _ (by omega)]) rc
  · refine pS_fix ?_ (fun i => ?_) (fun i => ?_) (fun i => ?_) <;> (rw [g_ne (by omega), g_ne (by omega)]; simp [gI, pS])
  · rw [g_ne (by omega), g_ne (by omega)]; simp [gI, pS, bgB, sI]
  · rw [g_ne (by omega), g_ne (by omega)]; simp [gI, pS, bgB, sI]
  · rw [g_ne (by omega), g_ne (by omega), g9 _ _ (by omega)]; exact w8
  · rw [g_ne (by omega), g_eq]
  · rw [g_eq]
  · rw [g_ne (by omega), g_ne (by omega), g9 _ _ (by omega), gb _ _ (by omega) (by omega) (by omega) (by omega), g_eq]
  · exact ToC_gg hW (fun b i k1 k2 => by rw [g_ne (by omega), g_ne (by omega), g9 _ _ (by omega), gb _ _ (by omega) (by omega) (by omega) (by omega)]) hT
  · exact LawC_g (fun b i k1 => by rw [g_ne (by omega), g_ne (by omega), g9 _ _ (by omega), gb _ _ (by omega) (by omega) (by omega) (by omega)]) hL
  · have e : gI (sI (sI (pS 54 S8 (bgB 54 m8)) 75 0 (nI 0)) 75 1 (nI 0)) b i = gI mc2 b i := by
      rw [g_ne (by omega), g_ne (by omega), g9 _ _ (by omega), gb _ _ (by omega) (by omega) (by omega) (by omega), g_ne (by omega)]
    exact e.trans (hF.2 b i (by omega) (by omega))
  · exact l8
/-- the reference, all lines read -/
theorem ar_R1 (hTR : TdR T sp mr2) (hLR : LwR f mr2) (hf : f.length ≤ 1000) (hL : ∀ m, gI m 84 0 = nI 0 → gI m 85 0 = nI f.length → Seg 86 0 f m → LawR P m) (hW : WTo T) (hS : cS T (tD T) (tB T) ≤ 40) (hP : ∀ k z d b, 2 ≤ z → z ≤ 5 → P k z d b < z) (hF : isF (mkL2 T P (tD T)) S) : ∃ m2, bd1 (f_X11_lays mr2) (fun m4 => bd1 (f_X11_laysAll (0 : Int32) (gI m4 80 (ix (0 : Int32))) m4) (fun m5 => bd1 (f_X11_fresh0 m5) (fun m6 => stI m6 110 (ix (0 : Int32)) (0 : Int32) (fun m7 => stI m7 114 (ix (0 : Int32)) (0 : Int32) (fun m8 => f_X11_array_L52 FU (0 : Int32) m8))))) = some (nI 0, m2) ∧ RelR (mkL2 T P (tD T)) m2 ∧ pR (mkL2 T P (tD T)) S m2 = m2 ∧ ToR T m2 ∧ LawR P m2 ∧ gI m2 110 0 = nI 0 ∧ gI m2 114 0 = nI 0 ∧ gI m2 121 0 = nI 0 ∧ gI m2 121 1 = nI 0 ∧ (∀ b i, b < 78 → gI m2 b i = gI mr2 b i) ∧ gI m2 78 1 = gI mr2 78 1 ∧ ∀ i, gI m2 116 i = gI mr2 116 i := by
  obtain ⟨R1, R2, R3, R4, R5, R6, R7⟩ := hTR
  obtain ⟨M1, M2, M3, M4⟩ := hLR
  have ok : okT T P (tD T) := ⟨hW, hW.2.1, Nat.le_refl _, hS, hP⟩
  have w0 := WL_0 ok
  have w1 : WL1 (mkL2 T P (tD T)) := WL_1 w0
  have w3 : WL3 (mkL2 T P (tD T)) := WL_3 w0
  have b6 := hW.2.2.1
  have b7 := hW.2.2.2.2.2.2.1
  have d13 := hW.2.1
  obtain ⟨m4, l1, l2, l3, l4, l5, l6, l7, l8, l9⟩ := ar_lays (m := mr2)
  have hToR : ToR T m4 := ⟨(l2 0 (by omega)).trans R1, (l2 1 (by omega)).trans R4, (l2 2 (by omega)).trans R2, fun b hb => (l3 b (by omega)).1.trans (R5 b hb), fun b hb => (l3 b (by omega)).2.trans (R6 b hb), fun b v hb hv => (l4 _ (by have := b7 b hb; omega)).trans (R7 b v hb hv)⟩
  have e1000 : ∀ n, nI (1000 + n) - nI 1000 = nI n := fun n => by rw [pk_sub (by omega), Nat.add_sub_cancel_left]
  have hLawR : LawR P m4 := hL m4 (l6.trans (by rw [M1]; exact e1000 0)) (l7.trans (by rw [M2, e1000])) (by
    have aux : ∀ (f : List Int32) (n : Nat), n + f.length ≤ 1000 → Seg 86 (1000 + n) f mr2 → Seg 86 n f m4 := fun f => by
      induction f with
      | nil => intro n _ _; trivial
      | cons x l ih =>
        intro n hn hs
        simp only [List.length_cons] at hn
        exact ⟨(l5 n (by omega)).trans hs.1, ih (n + 1) (by omega) (by rw [← Nat.add_assoc]; exact hs.2)⟩
    exact aux f 0 (by omega) M4)
  obtain ⟨γ, m5, g1, g2, g3, g4⟩ := r_laysAll (r := 0) (by omega) hToR hLawR ok
  have i0 : ix (nI 0) = 0 := rfl
  have yD' : yD (mkL2 T P (tD T)) = tD T := (is_T (T := T) (P := P) (nd := tD T)).1
  have g5 : ∀ b i, ¬ (99 ≤ b ∧ b ≤ 112) → ¬ (89 ≤ b ∧ b ≤ 98) → gI (pB 99 γ m5) b i = gI m4 b i := fun b i k1 k2 => by
    rw [pB_o2 (by omega)]
    exact g4.2 b i k2
  have e80 : gI (pB 99 γ m5) 80 0 = nI (yD (mkL2 T P (tD T))) := by
    rw [g5 _ _ (by omega) (by omega), yD']; exact hToR.1
  have rr := RelR_r g2 e80
  have fr := r_fresh e80 w1 w3 hF
  generalize hm6 : pR (mkL2 T P (tD T)) S (wr 117 (fl 374 ((pB 99 γ m5).1 117)) (pB 99 γ m5)) = m6 at fr
  have g6 : ∀ b i, b ≠ 117 → gI m6 b i = gI (pB 99 γ m5) b i := fun b i k => by
    rw [← hm6]
    simp only [gI, pR, wr]
    rw [if_neg k, if_neg k]
  have hpR : pR (mkL2 T P (tD T)) S m6 = m6 := by
    rw [← hm6]
    refine mm_ext (fun b i => ?_) rfl
    simp only [pR]
    by_cases e : b = 117
    · simp only [if_pos e]
      by_cases i0 : i = 0
      · rw [if_pos i0, if_pos i0]
      · rw [if_neg i0, if_neg i0]
        by_cases i1 : i < 14
        · rw [if_pos i1, if_pos i1]
        · rw [if_neg i1, if_neg i1]
          by_cases i2 : i < 214
          · rw [if_pos i2, if_pos i2]
          · rw [if_neg i2, if_neg i2]
            by_cases i3 : i < 214 + yX (mkL2 T P (tD T))
            · rw [if_pos i3, if_pos i3]
            · rw [if_neg i3, if_neg i3]
    · simp only [if_neg e]
  have hg : ∀ b i, ¬ (b = 110 ∧ i = 0) → ¬ (b = 114 ∧ i = 0) → b ≠ 121 → gI (sI (sI (sI (sI m6 110 0 (nI 0)) 114 0 (nI 0)) 121 0 (nI 0)) 121 1 (nI 0)) b i = gI m6 b i := fun b i k1 k2 k3 => by
    rw [g_ne (by omega), g_ne (by omega), g_ne (by omega), g_ne (by omega)]
  have hg2 : ∀ b i, ¬ (89 ≤ b ∧ b ≤ 114) → b ≠ 121 → b ≠ 117 → gI (sI (sI (sI (sI m6 110 0 (nI 0)) 114 0 (nI 0)) 121 0 (nI 0)) 121 1 (nI 0)) b i = gI m4 b i := fun b i k1 k2 k3 => by
    rw [hg _ _ (by omega) (by omega) (by omega), g6 _ _ k3, g5 _ _ (by omega) (by omega)]
  refine ⟨sI (sI (sI (sI m6 110 0 (nI 0)) 114 0 (nI 0)) 121 0 (nI 0)) 121 1 (nI 0), ?_, ?_, ?_, ?_, ?_, ?_, ?_, ?_, g_eq, fun b i hb => ?_, ?_, fun i => ?_⟩
  · have h52 : f_X11_array_L52 FU (nI 0) (sI (sI m6 110 0 (nI 0)) 114 0 (nI 0)) = some (nI 0, sI (sI (sI (sI m6 110 0 (nI 0)) 114 0 (nI 0)) 121 0 (nI 0)) 121 1 (nI 0)) := by
      obtain ⟨jf, hj⟩ := FU_n (n := 2) (by omega)
      have x1 : ix (nI 1) = 1 := rfl
      rw [hj, f_X11_array_L52, if_pos (by decide), q_gd (by omega) (by omega), i0, q_l0, q_stI, q_l1, nI_add, f_X11_array_L52, if_pos (by decide), q_gd (by omega) (by omega), x1, q_l0, q_stI, q_l1, nI_add, f_X11_array_L52, if_neg (by decide), q_l0]
    rw [l1, q_bd1, q_l0, i0, hToR.1, g1, q_bd1, fr, q_bd1, q_stI, q_stI, h52]
  · exact RelR_g w1 (fun b i hb => by rw [hg _ _ (by omega) (by omega) (by omega), g6 _ _ (by omega)]) rr
  · exact pR_fix (fun i _ => by rw [hg _ _ (by omega) (by omega) (by omega)]) hpR
  · exact ToR_gg hW (fun b i hb => by rw [hg2 _ _ (by omega) (by omega) (by omega)]) hToR
  · exact LawR_g (fun b i hb => by rw [hg2 _ _ (by omega) (by omega) (by omega)]) hLawR
  · rw [g_ne (by omega), g_ne (by omega), g_ne (by omega), g_eq]
  · rw [g_ne (by omega), g_ne (by omega), g_eq]
  · rw [g_ne (by omega), g_eq]
  · rw [hg2 _ _ (by omega) (by omega) (by omega)]
    exact l9 b i (by omega) (by omega) (by omega) (by omega) (by omega)
  · rw [hg2 _ _ (by omega) (by omega) (by omega)]
    exact l9 _ _ (by omega) (by omega) (by omega) (by omega) (by omega)
  · rw [hg _ _ (by omega) (by omega) (by omega), g6 _ _ (by omega), g5 _ _ (by omega) (by omega)]
    exact l9 _ _ (by omega) (by omega) (by omega) (by omega) (by omega)
end Arr2
