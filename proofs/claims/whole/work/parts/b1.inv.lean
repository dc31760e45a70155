/-! MATH HALF: what holds between two calls -/
def WLa (Λ : Lv) : Prop := WL1 Λ ∧ WL2 Λ ∧ WL3 Λ ∧ WL4 Λ ∧ WL5 Λ ∧ WL6 Λ
def InP (t w B : Nat) (Λ T : Lv) (P : Pv) (S : Sv) (s : Nat) (D : Nat → Nat) (M n : Nat) (vb ob : Nat → Nat) (m : Mm) : Prop := WLa Λ ∧ WTo T ∧ tD T = yD Λ ∧ ToC t T m ∧ ToR T m ∧ LawC t P m ∧ LawR P m ∧ (∀ k z d b, 2 ≤ z → z ≤ 5 → P k z d b < z) ∧ Hq Λ S m ∧ WT Λ B S ∧ LinesI Λ w n vb ob m ∧ SeenAt Λ 54 0 s D M m ∧ SnB m ∧ MkI Λ B 0 m ∧ MkI Λ B 1 m
def InB (t w B : Nat) (m : Mm) : Prop := ∃ Λ T P S s D M n vb ob, InP t w B Λ T P S s D M n vb ob m
def Inv (t u w v B : Nat) (m : Mm) : Prop := ((t = 3 ∧ u = 10) ∨ (t = 10 ∧ u = 3)) ∧ ((w = 18 ∧ v = 22) ∨ (w = 22 ∧ v = 18)) ∧ InB t w B m ∧ ∃ q, TC q m ∧ TR q m ∧ TW q
section Inv1
variable {q : Tq} {a b c d e i j k n s u x sp D' B B2 t w v A M : Nat} {m m1 m2 m3 : Mm} {y z : Int32} {T Λ : Lv} {P : Pv} {S S2 : Sv} {D vb ob : Nat → Nat}
theorem nt_1 (h : t ≤ b ∧ b ≤ t + 3) : nt t w b i := Or.inl h
theorem nt_2 (h : b = t + 4 ∧ i = 1) : nt t w b i := Or.inr (Or.inl h)
theorem nt_3 (h : b = t + 5) : nt t w b i := Or.inr (Or.inr (Or.inl h))
theorem nt_4 (h : w ≤ b ∧ b ≤ w + 3) : nt t w b i := Or.inr (Or.inr (Or.inr (Or.inl h)))
theorem nt_5 (h : 26 ≤ b ∧ b ≤ 39) : nt t w b i := Or.inr (Or.inr (Or.inr (Or.inr (Or.inl h))))
theorem nt_6 (h : 54 ≤ b ∧ b ≤ 58) : nt t w b i := Or.inr (Or.inr (Or.inr (Or.inr (Or.inr (Or.inl h)))))
theorem nt_7 (h : 65 ≤ b ∧ b ≤ 75) : nt t w b i := Or.inr (Or.inr (Or.inr (Or.inr (Or.inr (Or.inr (Or.inl h))))))
theorem nt_8 (h : b = 80 ∧ i < 3) : nt t w b i := Or.inr (Or.inr (Or.inr (Or.inr (Or.inr (Or.inr (Or.inr (Or.inl h)))))))
theorem nt_9 (h : (b = 81 ∨ b = 82) ∧ i < 6) : nt t w b i := Or.inr (Or.inr (Or.inr (Or.inr (Or.inr (Or.inr (Or.inr (Or.inr (Or.inl h))))))))
theorem nt_10 (h : b = 83 ∧ i < 30) : nt t w b i := Or.inr (Or.inr (Or.inr (Or.inr (Or.inr (Or.inr (Or.inr (Or.inr (Or.inr (Or.inl h)))))))))
theorem nt_11 (h : (b = 84 ∨ b = 85) ∧ i = 0) : nt t w b i := Or.inr (Or.inr (Or.inr (Or.inr (Or.inr (Or.inr (Or.inr (Or.inr (Or.inr (Or.inr (Or.inl h))))))))))
theorem nt_12 (h : b = 86 ∧ i < 1000) : nt t w b i := Or.inr (Or.inr (Or.inr (Or.inr (Or.inr (Or.inr (Or.inr (Or.inr (Or.inr (Or.inr (Or.inr (Or.inl h)))))))))))
theorem nt_13 (h : (b = 99 ∨ b = 108) ∧ i = 0) : nt t w b i := Or.inr (Or.inr (Or.inr (Or.inr (Or.inr (Or.inr (Or.inr (Or.inr (Or.inr (Or.inr (Or.inr (Or.inr (Or.inl h))))))))))))
theorem nt_14 (h : 100 ≤ b ∧ b ≤ 104 ∧ i < 40) : nt t w b i := Or.inr (Or.inr (Or.inr (Or.inr (Or.inr (Or.inr (Or.inr (Or.inr (Or.inr (Or.inr (Or.inr (Or.inr (Or.inr (Or.inl h)))))))))))))
theorem nt_15 (h : (b = 105 ∨ b = 106 ∨ b = 109) ∧ i < 200) : nt t w b i := Or.inr (Or.inr (Or.inr (Or.inr (Or.inr (Or.inr (Or.inr (Or.inr (Or.inr (Or.inr (Or.inr (Or.inr (Or.inr (Or.inr (Or.inl h))))))))))))))
theorem nt_16 (h : b = 107 ∧ i < 160) : nt t w b i := Or.inr (Or.inr (Or.inr (Or.inr (Or.inr (Or.inr (Or.inr (Or.inr (Or.inr (Or.inr (Or.inr (Or.inr (Or.inr (Or.inr (Or.inr (Or.inl h)))))))))))))))
theorem nt_17 (h : b = 110 ∧ i = 0) : nt t w b i := Or.inr (Or.inr (Or.inr (Or.inr (Or.inr (Or.inr (Or.inr (Or.inr (Or.inr (Or.inr (Or.inr (Or.inr (Or.inr (Or.inr (Or.inr (Or.inr (Or.inl h))))))))))))))))
theorem nt_18 (h : 111 ≤ b ∧ b ≤ 113 ∧ i < 40) : nt t w b i := Or.inr (Or.inr (Or.inr (Or.inr (Or.inr (Or.inr (Or.inr (Or.inr (Or.inr (Or.inr (Or.inr (Or.inr (Or.inr (Or.inr (Or.inr (Or.inr (Or.inr (Or.inl h)))))))))))))))))
theorem nt_19 (h : 114 ≤ b ∧ b ≤ 117) : nt t w b i := Or.inr (Or.inr (Or.inr (Or.inr (Or.inr (Or.inr (Or.inr (Or.inr (Or.inr (Or.inr (Or.inr (Or.inr (Or.inr (Or.inr (Or.inr (Or.inr (Or.inr (Or.inr (Or.inl h))))))))))))))))))
theorem nt_20 (h : b = 120) : nt t w b i := Or.inr (Or.inr (Or.inr (Or.inr (Or.inr (Or.inr (Or.inr (Or.inr (Or.inr (Or.inr (Or.inr (Or.inr (Or.inr (Or.inr (Or.inr (Or.inr (Or.inr (Or.inr (Or.inr (Or.inl h)))))))))))))))))))
theorem nt_21 (h : b = 121) : nt t w b i := Or.inr (Or.inr (Or.inr (Or.inr (Or.inr (Or.inr (Or.inr (Or.inr (Or.inr (Or.inr (Or.inr (Or.inr (Or.inr (Or.inr (Or.inr (Or.inr (Or.inr (Or.inr (Or.inr (Or.inr h)))))))))))))))))))
theorem ns_1 (h : b = 1 ∧ i = 1) : ns b i := Or.inl h
theorem ns_2 (h : b = 2) : ns b i := Or.inr (Or.inl h)
theorem ns_3 (h : 3 ≤ b ∧ b ≤ 25 ∧ b ≠ 9 ∧ b ≠ 16 ∧ ¬ ((b = 7 ∨ b = 14) ∧ i = 3)) : ns b i := Or.inr (Or.inr (Or.inl h))
theorem ns_4 (h : 26 ≤ b ∧ b ≤ 39) : ns b i := Or.inr (Or.inr (Or.inr (Or.inl h)))
theorem ns_5 (h : 54 ≤ b ∧ b ≤ 58) : ns b i := Or.inr (Or.inr (Or.inr (Or.inr (Or.inl h))))
theorem ns_6 (h : 65 ≤ b ∧ b ≤ 75) : ns b i := Or.inr (Or.inr (Or.inr (Or.inr (Or.inr (Or.inl h)))))
theorem ns_7 (h : b = 78 ∧ i = 1) : ns b i := Or.inr (Or.inr (Or.inr (Or.inr (Or.inr (Or.inr (Or.inl h))))))
theorem ns_8 (h : b = 79) : ns b i := Or.inr (Or.inr (Or.inr (Or.inr (Or.inr (Or.inr (Or.inr (Or.inl h)))))))
theorem ns_9 (h : b = 80 ∧ i < 3) : ns b i := Or.inr (Or.inr (Or.inr (Or.inr (Or.inr (Or.inr (Or.inr (Or.inr (Or.inl h))))))))
theorem ns_10 (h : (b = 81 ∨ b = 82) ∧ i < 6) : ns b i := Or.inr (Or.inr (Or.inr (Or.inr (Or.inr (Or.inr (Or.inr (Or.inr (Or.inr (Or.inl h)))))))))
theorem ns_11 (h : b = 83 ∧ i < 30) : ns b i := Or.inr (Or.inr (Or.inr (Or.inr (Or.inr (Or.inr (Or.inr (Or.inr (Or.inr (Or.inr (Or.inl h))))))))))
theorem ns_12 (h : (b = 84 ∨ b = 85) ∧ i = 0) : ns b i := Or.inr (Or.inr (Or.inr (Or.inr (Or.inr (Or.inr (Or.inr (Or.inr (Or.inr (Or.inr (Or.inr (Or.inl h)))))))))))
theorem ns_13 (h : b = 86 ∧ i < 1000) : ns b i := Or.inr (Or.inr (Or.inr (Or.inr (Or.inr (Or.inr (Or.inr (Or.inr (Or.inr (Or.inr (Or.inr (Or.inr (Or.inl h))))))))))))
theorem ns_14 (h : (b = 99 ∨ b = 108) ∧ i = 0) : ns b i := Or.inr (Or.inr (Or.inr (Or.inr (Or.inr (Or.inr (Or.inr (Or.inr (Or.inr (Or.inr (Or.inr (Or.inr (Or.inr (Or.inl h)))))))))))))
theorem ns_15 (h : 100 ≤ b ∧ b ≤ 104 ∧ i < 40) : ns b i := Or.inr (Or.inr (Or.inr (Or.inr (Or.inr (Or.inr (Or.inr (Or.inr (Or.inr (Or.inr (Or.inr (Or.inr (Or.inr (Or.inr (Or.inl h))))))))))))))
theorem ns_16 (h : (b = 105 ∨ b = 106 ∨ b = 109) ∧ i < 200) : ns b i := Or.inr (Or.inr (Or.inr (Or.inr (Or.inr (Or.inr (Or.inr (Or.inr (Or.inr (Or.inr (Or.inr (Or.inr (Or.inr (Or.inr (Or.inr (Or.inl h)))))))))))))))
theorem ns_17 (h : b = 107 ∧ i < 160) : ns b i := Or.inr (Or.inr (Or.inr (Or.inr (Or.inr (Or.inr (Or.inr (Or.inr (Or.inr (Or.inr (Or.inr (Or.inr (Or.inr (Or.inr (Or.inr (Or.inr (Or.inl h))))))))))))))))
theorem ns_18 (h : b = 110 ∧ i = 0) : ns b i := Or.inr (Or.inr (Or.inr (Or.inr (Or.inr (Or.inr (Or.inr (Or.inr (Or.inr (Or.inr (Or.inr (Or.inr (Or.inr (Or.inr (Or.inr (Or.inr (Or.inr (Or.inl h)))))))))))))))))
theorem ns_19 (h : 111 ≤ b ∧ b ≤ 113 ∧ i < 40) : ns b i := Or.inr (Or.inr (Or.inr (Or.inr (Or.inr (Or.inr (Or.inr (Or.inr (Or.inr (Or.inr (Or.inr (Or.inr (Or.inr (Or.inr (Or.inr (Or.inr (Or.inr (Or.inr (Or.inl h))))))))))))))))))
theorem ns_20 (h : 114 ≤ b ∧ b ≤ 117) : ns b i := Or.inr (Or.inr (Or.inr (Or.inr (Or.inr (Or.inr (Or.inr (Or.inr (Or.inr (Or.inr (Or.inr (Or.inr (Or.inr (Or.inr (Or.inr (Or.inr (Or.inr (Or.inr (Or.inr (Or.inl h)))))))))))))))))))
theorem ns_21 (h : b = 120) : ns b i := Or.inr (Or.inr (Or.inr (Or.inr (Or.inr (Or.inr (Or.inr (Or.inr (Or.inr (Or.inr (Or.inr (Or.inr (Or.inr (Or.inr (Or.inr (Or.inr (Or.inr (Or.inr (Or.inr (Or.inr (Or.inl h))))))))))))))))))))
theorem ns_22 (h : b = 121) : ns b i := Or.inr (Or.inr (Or.inr (Or.inr (Or.inr (Or.inr (Or.inr (Or.inr (Or.inr (Or.inr (Or.inr (Or.inr (Or.inr (Or.inr (Or.inr (Or.inr (Or.inr (Or.inr (Or.inr (Or.inr (Or.inr h))))))))))))))))))))
theorem nt_ns (ht : t = 3 ∨ t = 10) (hw : w = 18 ∨ w = 22) (h : nt t w b i) : ns b i := by
  rcases h with h | h | h | h | h | h | h | h | h | h | h | h | h | h | h | h | h | h | h | h | h
  · exact ns_3 (by omega)
  · exact ns_3 (by omega)
  · exact ns_3 (by omega)
  · exact ns_3 (by omega)
  · exact ns_4 h
  · exact ns_5 h
  · exact ns_6 h
  · exact ns_9 h
  · exact ns_10 h
  · exact ns_11 h
  · exact ns_12 h
  · exact ns_13 h
  · exact ns_14 h
  · exact ns_15 h
  · exact ns_16 h
  · exact ns_17 h
  · exact ns_18 h
  · exact ns_19 h
  · exact ns_20 h
  · exact ns_21 h
  · exact ns_22 h
theorem WT_mono (h : WT Λ B S) (hB : B ≤ B2) : WT Λ B2 S := ⟨h.1, h.2.1, h.2.2.1, fun d hd => by
  obtain ⟨v, h1, h2⟩ := h.2.2.2 d hd
  exact ⟨v, by omega, h2⟩⟩
theorem MkI_mono (h : MkI Λ B k m) (hB : B ≤ B2) : MkI Λ B2 k m := by
  obtain ⟨f, h1, h2, h3, h4⟩ := h
  refine ⟨f, h1, h2, h3, fun hf => ?_⟩
  obtain ⟨S, s, D, M, a1, a2, a3, a4⟩ := h4 hf
  exact ⟨S, s, D, M, WT_mono a1 hB, a2, a3, a4⟩
theorem Lines_g (hg : ∀ b i, (w ≤ b ∧ b ≤ w + 3) ∨ (b = 110 ∧ i = 0) ∨ (111 ≤ b ∧ b ≤ 113 ∧ i < 40) → gI m2 b i = gI m b i) (h : LinesI Λ w n vb ob m) : LinesI Λ w n vb ob m2 := by
  obtain ⟨h1, h2, h3, h4⟩ := h
  refine ⟨h1, (hg _ _ (by omega)).trans h2, (hg _ _ (by omega)).trans h3, fun i hi => ?_⟩
  obtain ⟨a1, a2, a3, a4, a5, a6⟩ := h4 i hi
  exact ⟨a1, (hg _ _ (by omega)).trans a2, (hg _ _ (by omega)).trans a3, (hg _ _ (by omega)).trans a4, (hg _ _ (by omega)).trans a5, fun e => by rw [hg _ _ (by omega), hg _ _ (by omega)]; exact a6 e⟩
theorem Hq_gg (hW : WL1 Λ) (hg : ∀ b i, (26 ≤ b ∧ b ≤ 39) ∨ (54 ≤ b ∧ b ≤ 58) ∨ (b = 80 ∧ i < 3) ∨ ((b = 99 ∨ b = 108) ∧ i = 0) ∨ (100 ≤ b ∧ b ≤ 104 ∧ i < 40) ∨ ((b = 105 ∨ b = 106 ∨ b = 109) ∧ i < 200) ∨ (b = 107 ∧ i < 160) ∨ b = 117 → gI m2 b i = gI m b i) (h : Hq Λ S m) : Hq Λ S m2 := by
  obtain ⟨h1, h2, h3, h4⟩ := h
  obtain ⟨u1, u2, u3, u4⟩ := pS_un h3
  exact ⟨RelC_g (fun b i k1 k2 => hg _ _ (by omega)) h1, RelR_g hW (fun b i hb => hg _ _ (by omega)) h2, pS_fix ((hg _ _ (by omega)).trans u1) (fun i => (hg _ _ (by omega)).trans (u2 i)) (fun i => (hg _ _ (by omega)).trans (u3 i)) (fun i => (hg _ _ (by omega)).trans (u4 i)), pR_fix (fun i _ => hg _ _ (by omega)) h4⟩
theorem InP_nt (hg : ∀ b i, nt t w b i → gI m2 b i = gI m b i) (h : InP t w B Λ T P S s D M n vb ob m) : InP t w B Λ T P S s D M n vb ob m2 := by
  obtain ⟨h1, h2, h3, h4, h5, h6, h7, h8, h9, h10, h11, h12, h13, h14, h15⟩ := h
  have hX := h1.1.2.2.1
  have key : ∀ k, k < 2 → MkI Λ B k m → MkI Λ B k m2 := fun k hk hM => MkI_ag hX (hg _ _ (nt_7 (by omega))) (hg _ _ (nt_21 rfl)) (fun b i k1 k2 => hg _ _ (nt_7 (by omega))) (fun j hj => hg _ _ (nt_20 rfl)) (hg _ _ (nt_19 (by omega))) (fun b i k1 k2 => hg _ _ (nt_19 (by omega))) hM
  exact ⟨h1, h2, h3, ToC_gg h2 (fun b i k1 k2 => hg _ _ (nt_1 ⟨k1, k2⟩)) h4, ToR_gg h2 (fun b i hb => hg _ _ (by
    rcases hb with h | h | h
    · exact nt_8 h
    · exact nt_9 h
    · exact nt_10 h)) h5, LawC_g (fun b i hb => hg _ _ (hb.elim nt_2 nt_3)) h6, LawR_g (fun b i hb => hg _ _ (hb.elim nt_11 nt_12)) h7, h8, Hq_gg h1.1 (fun b i hb => hg _ _ (by
    rcases hb with h | h | h | h | h | h | h | h
    · exact nt_5 h
    · exact nt_6 h
    · exact nt_8 h
    · exact nt_13 h
    · exact nt_14 h
    · exact nt_15 h
    · exact nt_16 h
    · exact nt_19 (by omega))) h9, h10, Lines_g (fun b i hb => hg _ _ (by
    rcases hb with h | h | h
    · exact nt_4 h
    · exact nt_17 h
    · exact nt_18 h)) h11, Seen_mv (a := 54) (r := 0) (hg _ _ (nt_6 (by omega))) (hg _ _ (nt_6 (by omega))) (hg _ _ (nt_19 (by omega))) (fun i hi => hg _ _ (nt_6 (by omega))) (fun i hi => hg _ _ (nt_19 (by omega))) (fun i hi => hg _ _ (nt_19 (by omega))) h12, fun i hi => by rw [hg _ _ (nt_19 (by omega))]; exact h13 i hi, key 0 (by omega) h14, key 1 (by omega) h15⟩
theorem InB_nt (hg : ∀ b i, nt t w b i → gI m2 b i = gI m b i) (h : InB t w B m) : InB t w B m2 := by
  obtain ⟨Λ, T, P, S, s, D, M, n, vb, ob, h⟩ := h
  exact ⟨Λ, T, P, S, s, D, M, n, vb, ob, InP_nt hg h⟩
theorem InB_mono (h : InB t w B m) (hB : B ≤ B2) : InB t w B2 m := by
  obtain ⟨Λ, T, P, S, s, D, M, n, vb, ob, h1, h2, h3, h4, h5, h6, h7, h8, h9, h10, h11, h12, h13, h14, h15⟩ := h
  exact ⟨Λ, T, P, S, s, D, M, n, vb, ob, h1, h2, h3, h4, h5, h6, h7, h8, h9, WT_mono h10 hB, h11, h12, h13, MkI_mono h14 hB, MkI_mono h15 hB⟩
theorem Inv_mono (h : Inv t u w v B m) (hB : B ≤ B2) : Inv t u w v B2 m := ⟨h.1, h.2.1, InB_mono h.2.2.1 hB, h.2.2.2⟩
theorem Inv_Sc (hS : Sc m m2) (h : Inv t u w v B m) : Inv t u w v B m2 := by
  obtain ⟨h1, h2, h3, q, h4, h5, h6⟩ := h
  have hg : ∀ b i, ns b i → gI m2 b i = gI m b i := hS
  refine ⟨h1, h2, InB_nt (fun b i hb => hg b i (nt_ns (by omega) (by omega) hb)) h3, q, ⟨(hg _ _ (ns_1 ⟨rfl, rfl⟩)).trans h4.1, fun i hi => (hg _ _ (ns_2 rfl)).trans (h4.2 i hi)⟩, ⟨(hg _ _ (ns_7 ⟨rfl, rfl⟩)).trans h5.1, fun i hi => (hg _ _ (ns_8 rfl)).trans (h5.2 i hi)⟩, h6⟩
theorem nx_g (h : ¬ (54 ≤ b ∧ b ≤ 57) ∧ ¬ (b = 78 ∧ i = 0) ∧ b ≠ 117) : gI (nx Λ S2 m) b i = gI m b i := by
  simp only [gI, nx, pR, th, sI, pS]
  rw [if_neg (by omega), if_neg (by omega), if_neg (by omega), if_neg (by omega), if_neg (by omega), if_neg (by omega)]
theorem nx_54 (h : i ≠ 1) : gI (nx Λ S2 m) 54 i = gI m 54 i := by
  simp only [gI, nx, pR, th, sI, pS]
  rw [if_neg (by omega), if_neg (by omega), if_pos trivial, if_neg h]
theorem Inv_nx (h : Inv t u w v B m) (hP : InP t w B Λ T P S s D M n vb ob m) (hT : WT Λ (B + 80) S2) : Inv t u w v (B + 80) (nx Λ S2 m) := by
  obtain ⟨k1, k2, k3, q, k4, k5, k6⟩ := h
  obtain ⟨h1, h2, h3, h4, h5, h6, h7, h8, h9, h10, h11, h12, h13, h14, h15⟩ := hP
  have hX := h1.1.2.2.1
  have hg : ∀ b i, ¬ (54 ≤ b ∧ b ≤ 57) → ¬ (b = 78 ∧ i = 0) → b ≠ 117 → gI (nx Λ S2 m) b i = gI m b i := fun b i e1 e2 e3 => nx_g ⟨e1, e2, e3⟩
  have key : ∀ k, k < 2 → MkI Λ B k m → MkI Λ (B + 80) k (nx Λ S2 m) := fun k hk hM => MkI_mono (MkI_ag hX (hg _ _ (by omega) (by omega) (by omega)) (hg _ _ (by omega) (by omega) (by omega)) (fun b i k1 k2 => hg _ _ (by omega) (by omega) (by omega)) (fun j hj => hg _ _ (by omega) (by omega) (by omega)) (hg _ _ (by omega) (by omega) (by omega)) (fun b i k1 k2 => hg _ _ (by omega) (by omega) (by omega)) hM) (by omega)
  have hpR : pR Λ S2 (nx Λ S2 m) = nx Λ S2 m := by
    refine mm_ext (fun b i => ?_) rfl
    unfold nx
    simp only [pR]
    by_cases e : b = 117
    · simp only [if_pos e]
      by_cases i0 : i = 0
      · rw [if_pos i0, if_pos i0]
      · rw [if_neg i0, if_neg i0]
        by_cases i1 : i < 14
        · rw [if_pos i1, if_pos i1]
        · rw [if_neg i1, if_neg i1]
          by_cases i2 : i < 214
          · rw [if_pos i2, if_pos i2]
          · rw [if_neg i2, if_neg i2]
            by_cases i3 : i < 214 + yX Λ
            · rw [if_pos i3, if_pos i3]
            · rw [if_neg i3, if_neg i3]
    · simp only [if_neg e]
  have hpS : pS 54 S2 (nx Λ S2 m) = nx Λ S2 m := by
    refine pS_fix ?_ (fun i => ?_) (fun i => ?_) (fun i => ?_) <;> simp [gI, nx, pR, th, sI, pS]
  refine ⟨k1, k2, ⟨Λ, T, P, S2, s, D, M, n, vb, ob, h1, h2, h3, ToC_gg h2 (fun b i e1 e2 => hg _ _ (by omega) (by omega) (by omega)) h4, ToR_gg h2 (fun b i hb => hg _ _ (by omega) (by omega) (by omega)) h5, LawC_g (fun b i hb => hg _ _ (by omega) (by omega) (by omega)) h6, LawR_g (fun b i hb => hg _ _ (by omega) (by omega) (by omega)) h7, h8, ⟨RelC_g (fun b i e1 e2 => hg _ _ (by omega) (by omega) (by omega)) h9.1, RelR_g h1.1 (fun b i hb => hg _ _ (by omega) (by omega) (by omega)) h9.2.1, hpS, hpR⟩, hT, Lines_g (fun b i hb => hg _ _ (by omega) (by omega) (by omega)) h11, Seen_mv (a := 54) (r := 0) (nx_54 (by omega)) (nx_54 (by omega)) (hg _ _ (by omega) (by omega) (by omega)) (fun i hi => hg _ _ (by omega) (by omega) (by omega)) (fun i hi => hg _ _ (by omega) (by omega) (by omega)) (fun i hi => hg _ _ (by omega) (by omega) (by omega)) h12, fun i hi => by rw [hg _ _ (by omega) (by omega) (by omega)]; exact h13 i hi, key 0 (by omega) h14, key 1 (by omega) h15⟩, q, ⟨(hg _ _ (by omega) (by omega) (by omega)).trans k4.1, fun i hi => (hg _ _ (by omega) (by omega) (by omega)).trans (k4.2 i hi)⟩, ⟨(hg _ _ (by omega) (by omega) (by omega)).trans k5.1, fun i hi => (hg _ _ (by omega) (by omega) (by omega)).trans (k5.2 i hi)⟩, k6⟩
end Inv1
