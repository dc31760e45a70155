/-! MATH HALF: the reference lays the stripes -/
section Ref0
variable {β : Bv} {m : Mm} {i : Nat} {v : Int32}
theorem g9_99 : gI (pB 99 β m) 99 i = β 0 i := pB_g (A := 99) (c := 0) (by omega)
theorem s9_99 : sI (pB 99 β m) 99 i v = pB 99 (up2 β 0 i v) m := pB_s (A := 99) (c := 0) (by omega)
theorem g9_100 : gI (pB 99 β m) 100 i = β 1 i := pB_g (A := 99) (c := 1) (by omega)
theorem s9_100 : sI (pB 99 β m) 100 i v = pB 99 (up2 β 1 i v) m := pB_s (A := 99) (c := 1) (by omega)
theorem g9_101 : gI (pB 99 β m) 101 i = β 2 i := pB_g (A := 99) (c := 2) (by omega)
theorem s9_101 : sI (pB 99 β m) 101 i v = pB 99 (up2 β 2 i v) m := pB_s (A := 99) (c := 2) (by omega)
theorem g9_102 : gI (pB 99 β m) 102 i = β 3 i := pB_g (A := 99) (c := 3) (by omega)
theorem s9_102 : sI (pB 99 β m) 102 i v = pB 99 (up2 β 3 i v) m := pB_s (A := 99) (c := 3) (by omega)
theorem g9_103 : gI (pB 99 β m) 103 i = β 4 i := pB_g (A := 99) (c := 4) (by omega)
theorem s9_103 : sI (pB 99 β m) 103 i v = pB 99 (up2 β 4 i v) m := pB_s (A := 99) (c := 4) (by omega)
theorem g9_104 : gI (pB 99 β m) 104 i = β 5 i := pB_g (A := 99) (c := 5) (by omega)
theorem s9_104 : sI (pB 99 β m) 104 i v = pB 99 (up2 β 5 i v) m := pB_s (A := 99) (c := 5) (by omega)
theorem g9_105 : gI (pB 99 β m) 105 i = β 6 i := pB_g (A := 99) (c := 6) (by omega)
theorem s9_105 : sI (pB 99 β m) 105 i v = pB 99 (up2 β 6 i v) m := pB_s (A := 99) (c := 6) (by omega)
theorem g9_106 : gI (pB 99 β m) 106 i = β 7 i := pB_g (A := 99) (c := 7) (by omega)
theorem s9_106 : sI (pB 99 β m) 106 i v = pB 99 (up2 β 7 i v) m := pB_s (A := 99) (c := 7) (by omega)
theorem g9_107 : gI (pB 99 β m) 107 i = β 8 i := pB_g (A := 99) (c := 8) (by omega)
theorem s9_107 : sI (pB 99 β m) 107 i v = pB 99 (up2 β 8 i v) m := pB_s (A := 99) (c := 8) (by omega)
theorem g9_108 : gI (pB 99 β m) 108 i = β 9 i := pB_g (A := 99) (c := 9) (by omega)
theorem s9_108 : sI (pB 99 β m) 108 i v = pB 99 (up2 β 9 i v) m := pB_s (A := 99) (c := 9) (by omega)
theorem g9_109 : gI (pB 99 β m) 109 i = β 10 i := pB_g (A := 99) (c := 10) (by omega)
theorem s9_109 : sI (pB 99 β m) 109 i v = pB 99 (up2 β 10 i v) m := pB_s (A := 99) (c := 10) (by omega)
end Ref0
/-- cells of a row of the reference's layouts -/
abbrev rIn (r c i : Nat) : Prop := ((c = 0 ∨ c = 9) ∧ i = r) ∨ (1 ≤ c ∧ c ≤ 5 ∧ 40 * r ≤ i ∧ i < 40 * r + 40) ∨ ((c = 6 ∨ c = 7 ∨ c = 10) ∧ 200 * r ≤ i ∧ i < 200 * r + 200) ∨ (c = 8 ∧ 160 * r ≤ i ∧ i < 160 * r + 160)
def rF (r : Nat) (β γ : Bv) : Prop := ∀ c i, ¬ rIn r c i → γ c i = β c i
def lwR (m m2 : Mm) : Prop := m2.2 = m.2 ∧ ∀ b i, ¬ (89 ≤ b ∧ b ≤ 98) → m2.1 b i = m.1 b i
/-- the reference's law gives the parity -/
def LawR (P : Pv) (m : Mm) : Prop := ∀ m', (∀ b i, (((b = 84 ∨ b = 85) ∧ i = 0) ∨ (b = 86 ∧ i < 1000)) → m'.1 b i = m.1 b i) → ∀ k z d b, k < 40 → 2 ≤ z → z ≤ 5 → d < 13 → b < 6 → gI m' 98 1 = nI k → gI m' 98 2 = nI z → gI m' 98 3 = nI d → gI m' 98 4 = nI b → ∃ s m2, (gI m' 84 0 < gI m' 85 0 → f_X11_worked 0 m' = some (s, m2)) ∧ (¬ gI m' 84 0 < gI m' 85 0 → s = gI m' 98 1 ∧ m2 = m') ∧ lwR m' m2 ∧ ((s - s / nI z * nI z) + nI z) - ((s - s / nI z * nI z) + nI z) / nI z * nI z = nI (P k z d b)
def RBn (Λ : Lv) (r n : Nat) (β : Bv) : Prop := β 0 r = nI n ∧ β 9 r = nI 0 ∧ (∀ k, k < n → β 1 (40 * r + k) = nI (yZ Λ k) ∧ β 2 (40 * r + k) = nI (yB Λ k) ∧ β 3 (40 * r + k) = nI (yP Λ k)) ∧ ∀ k u, k < n → u < yZ Λ k → β 6 (5 * (40 * r + k) + u) = nI (yK Λ (5 * k + u))
section Ref1
variable {T Λ : Lv} {P : Pv} {nd a b k p u x n d i j c c2 r sh fl : Nat} {β γ δ : Bv} {m m2 m3 : Mm} {v : Int32}
theorem rF_r : rF r β β := fun _ _ _ => rfl
theorem rF_t (h1 : rF r β γ) (h2 : rF r γ δ) : rF r β δ := fun c i h => (h2 c i h).trans (h1 c i h)
theorem rF_u (h : rIn r c i) (h2 : rF r β γ) : rF r β (up2 γ c i v) := fun c2 i2 h3 => by
  rw [up_ne (fun e => h3 (by rw [e.1, e.2]; exact h))]
  exact h2 c2 i2 h3
theorem lwR_r : lwR m m := ⟨rfl, fun _ _ _ => rfl⟩
theorem lwR_t (h1 : lwR m m2) (h2 : lwR m2 m3) : lwR m m3 := ⟨h2.1.trans h1.1, fun b i h => (h2.2 b i h).trans (h1.2 b i h)⟩
theorem ToR_lw (h : lwR m m2) (hR : ToR T m) : ToR T m2 := by
  have hg : ∀ b i, 80 ≤ b → b ≤ 83 → gI m2 b i = gI m b i := fun b i h1 h2 => h.2 b i (by omega)
  unfold ToR
  simp (disch := omega) only [hg]
  exact hR
theorem LawR_lw (h : lwR m m2) (hL : LawR P m) : LawR P m2 := fun m' e1 => hL m' (fun b i hb => (e1 b i hb).trans (h.2 b i (by omega)))
theorem r_stripe (hr : r < 2) (hR : ToR T m) (hL : LawR P m) (h : okT T P nd) (h1 : WL1 Λ) (hb : b < tB T) (hn : n < yS Λ) (hsh : sh < nd) (hfl : fl < 2) (eZ : yZ Λ n = tZ T b) (eB : yB Λ n = b) (eK : ∀ u, u < tZ T b → yK Λ (5 * n + u) = (if fl = 0 then (tM T (5 * b + u) + sh) % nd else nd - 1 - (tM T (5 * b + u) + sh) % nd)) (eP : yP Λ n = P n (tZ T b) (yK Λ (5 * n)) b) (hB : RBn Λ r n β) : ∃ γ m2, f_X11_laysStripe (nI r) (nI b) (nI sh) (nI fl) (nI nd) (pB 99 β m) = some (pB 99 γ m2) ∧ RBn Λ r (n + 1) γ ∧ rF r β γ ∧ lwR m m2 := by
  have h6 := h.1.2.2.1
  have h5 := h1.2.2.2.1 n hn
  have h40 := h1.2.1
  have h13 := h.2.1
  have c82 := hR.2.2.2.2.1 b hb
  obtain ⟨b0, b9, b1, b2⟩ := hB
  unfold f_X11_laysStripe
  simp (maxSteps := 500000) (disch := first | assumption | omega) only [q_l0, q_l1, q_l2, q_l3, q_l4, q_l5, q_l6, q_l7, q_l8, q_l9, q_l10, q_l11, q_l12, q_l13, q_l14, q_l15, q_l16, q_l20, q_l21, q_l22, q_l24, q_l25, q_l26, q_l27, q_l28, q_l29, q_l30, q_l31, q_l32, q_l40, q_l48, q_l57, q_l80, q_l97, q_l100, q_l120, q_l122, q_l126, q_l160, q_l200, q_l214, q_l255, q_l256, q_l374, q_l400, q_l999, q_l1000, q_l9999, q_l99, q_l99999, q_nm, q_gd, q_gd2, q_ix, q_lt, q_eq, q_m5a, q_m5b, q_m40b, q_m8a, q_m8b, q_m16b, q_m374b, q_m160b, q_m10a, q_div5, q_rem5, nI_add, q_moe, q_moe2, q_mol, q_mol2, q_mor, q_bd2, q_bd1, q_stI, q_oI0, if_true, if_false, ite_true, ite_false, ↓reduceIte, Nat.lt_irrefl, Nat.not_lt_zero, Nat.add_zero, Nat.zero_add, Nat.reduceEqDiff, Nat.reduceLeDiff, Nat.reduceLT, Nat.reduceAdd, Bool.false_eq_true, and_self, and_false, false_and, true_and, and_true, not_true_eq_false, not_false_eq_true, g9_99, s9_99, g9_100, s9_100, g9_101, s9_101, g9_102, s9_102, g9_103, s9_103, g9_104, s9_104, g9_105, s9_105, g9_106, s9_106, g9_107, s9_107, g9_108, s9_108, g9_109, s9_109, pB_o, up_ne, up_eq, b0, c82]
  rw [← eZ]
  generalize e0 : up2 (up2 (up2 β 0 r (nI (n + 1))) 1 (40 * r + n) (nI (yZ Λ n))) 2 (40 * r + n) (nI b) = β0
  have f0 : β0 0 r = nI (n + 1) := by rw [← e0, up_ne (by omega), up_ne (by omega), up_eq]
  have fF : rF r β β0 := by
    rw [← e0]
    exact rF_u (by omega) (rF_u (by omega) (rF_u (by omega) rF_r))
  refine lpI (fun j u γ => f_X11_laysStripe_L47 j (nI r) (nI b) (nI sh) (nI fl) (nI nd) (nI (40 * r + n)) (nI u) (pB 99 γ m)) (fun u γ => (∀ v, v < u → γ 6 (5 * (40 * r + n) + v) = nI (yK Λ (5 * n + v))) ∧ ∀ c i, ¬ (c = 6 ∧ 5 * (40 * r + n) ≤ i ∧ i < 5 * (40 * r + n) + 5) → γ c i = β0 c i) (yZ Λ n) (fun o => ∃ γ m2, o = some (pB 99 γ m2) ∧ RBn Λ r (n + 1) γ ∧ rF r β γ ∧ lwR m m2) (fun j γ hI => ?_) (fun j u γ hu hI => ?_) FU 0 β0 (by omega) (by show _ < 0 + 4096; omega) ⟨fun v hv => absurd hv (Nat.not_lt_zero _), fun _ _ _ => rfl⟩
  · obtain ⟨i1, i2⟩ := hI
    have g0 : γ 0 r = nI (n + 1) := (i2 0 r (by omega)).trans f0
    have k0 := i1 0 (by omega)
    rw [Nat.add_zero, Nat.add_zero] at k0
    have hK0 := h1.2.2.2.2 _ (vx_mk h1 hn (u := 0) (by omega))
    rw [Nat.add_zero] at hK0
    have hD := h1.1
    have e84 : ∀ m0 : Mm, gI (sI (sI (sI (sI m0 98 1 (nI n)) 98 2 (nI (yZ Λ n))) 98 3 (nI (yK Λ (5 * n)))) 98 4 (nI b)) 98 1 = nI n := fun m0 => by simp [gI, sI]
    obtain ⟨s, m3, l1, l2, l3, l4⟩ := hL (sI (sI (sI (sI (pB 99 γ m) 98 1 (nI n)) 98 2 (nI (yZ Λ n))) 98 3 (nI (yK Λ (5 * n)))) 98 4 (nI b)) (fun b i hb => by
      simp only [sI, pB]
      repeat (first | rw [if_neg (by omega)] | rw [if_pos (by omega)])) n (yZ Λ n) (yK Λ (5 * n)) b (by omega) h5.1 h5.2.1 (by omega) (by omega) (by simp [gI, sI]) (by simp [gI, sI]) (by simp [gI, sI]) (by simp [gI, sI])
    rw [show P n (yZ Λ n) (yK Λ (5 * n)) b = yP Λ n from by rw [eZ, ← eP]] at l4
    have em : m3 = pB 99 γ (pB 99 (fun c i => m.1 (99 + c) i) m3) := by
      rw [pB_pB]
      refine mm_ext (fun b i => ?_) rfl
      simp only [pB]
      by_cases hb : 99 ≤ b ∧ b ≤ 99 + 13
      · rw [if_pos hb]
        have := l3.2 b i (by omega)
        rw [this]
        simp only [sI, pB]
        repeat (first | rw [if_neg (by omega)] | rw [if_pos (by omega)])
      · rw [if_neg hb]
    have lw : lwR m (pB 99 (fun c i => m.1 (99 + c) i) m3) := by
      refine ⟨l3.1, fun b i k1 => ?_⟩
      simp only [pB]
      by_cases hb : 99 ≤ b ∧ b ≤ 99 + 13
      · rw [if_pos hb, show 99 + (b - 99) = b from by omega]
      · rw [if_neg hb, l3.2 b i k1]
        simp only [sI, pB]
        repeat (first | rw [if_neg (by omega)] | rw [if_pos (by omega)])
    rw [em] at l1 l2
    generalize pB 99 (fun c i => m.1 (99 + c) i) m3 = m4 at l1 l2 lw
    have c82' := (ToR_lw lw hR).2.2.2.2.1 b hb
    have key : f_X11_laysStripe_J188 (nI b) (nI (40 * r + n)) s (pB 99 γ m4) = some (pB 99 (up2 γ 3 (40 * r + n) (nI (yP Λ n))) m4) := by
      unfold f_X11_laysStripe_J188
      simp (maxSteps := 500000) (disch := first | assumption | omega) only [q_l0, q_l1, q_l2, q_l3, q_l4, q_l5, q_l6, q_l7, q_l8, q_l9, q_l10, q_l11, q_l12, q_l13, q_l14, q_l15, q_l16, q_l20, q_l21, q_l22, q_l24, q_l25, q_l26, q_l27, q_l28, q_l29, q_l30, q_l31, q_l32, q_l40, q_l48, q_l57, q_l80, q_l97, q_l100, q_l120, q_l122, q_l126, q_l160, q_l200, q_l214, q_l255, q_l256, q_l374, q_l400, q_l999, q_l1000, q_l9999, q_l99, q_l99999, q_nm, q_gd, q_gd2, q_ix, q_lt, q_eq, q_m5a, q_m5b, q_m40b, q_m8a, q_m8b, q_m16b, q_m374b, q_m160b, q_m10a, q_div5, q_rem5, nI_add, q_moe, q_moe2, q_mol, q_mol2, q_mor, q_bd2, q_bd1, q_stI, q_oI0, if_true, if_false, ite_true, ite_false, ↓reduceIte, Nat.lt_irrefl, Nat.not_lt_zero, Nat.add_zero, Nat.zero_add, Nat.reduceEqDiff, Nat.reduceLeDiff, Nat.reduceLT, Nat.reduceAdd, Bool.false_eq_true, and_self, and_false, false_and, true_and, and_true, not_true_eq_false, not_false_eq_true, g9_99, s9_99, g9_100, s9_100, g9_101, s9_101, g9_102, s9_102, g9_103, s9_103, g9_104, s9_104, g9_105, s9_105, g9_106, s9_106, g9_107, s9_107, g9_108, s9_108, g9_109, s9_109, pB_o, up_ne, up_eq, c82', ← eZ, q_nz, l4]
    refine ⟨up2 γ 3 (40 * r + n) (nI (yP Λ n)), m4, ?_, ⟨?_, ?_, fun k hk => ?_, fun k u hk hu => ?_⟩, rF_u (by omega) (rF_t fF (fun c i hc => i2 c i (by omega))), lw⟩
    · have e1 : nI (n + 1) - nI 1 = nI n := by rw [q_sub1 (by omega)]; rfl
      rw [← key]
      have hz : ¬ nI (yZ Λ n) < nI (yZ Λ n) := fun e => absurd ((q_ltp (by omega) (by omega)).mp e) (Nat.lt_irrefl _)
      have a1 : gI (sI (pB 99 γ m) 98 1 (nI n)) 82 b = nI (yZ Λ n) := by
        rw [eZ, ← c82]
        simp only [gI, sI, pB]
        repeat (first | rw [if_neg (by omega)] | rw [if_pos (by omega)])
      have a2 : gI (sI (sI (pB 99 γ m) 98 1 (nI n)) 98 2 (nI (yZ Λ n))) 105 (5 * (40 * r + n)) = nI (yK Λ (5 * n)) := by
        rw [← k0]
        simp only [gI, sI, pB]
        repeat (first | rw [if_neg (by omega)] | rw [if_pos (by omega)])
      simp (maxSteps := 500000) (disch := first | assumption | omega) only [f_X11_laysStripe_L47, q_l0, q_l1, q_l2, q_l3, q_l4, q_l5, q_l6, q_l7, q_l8, q_l9, q_l10, q_l11, q_l12, q_l13, q_l14, q_l15, q_l16, q_l20, q_l21, q_l22, q_l24, q_l25, q_l26, q_l27, q_l28, q_l29, q_l30, q_l31, q_l32, q_l40, q_l48, q_l57, q_l80, q_l97, q_l100, q_l120, q_l122, q_l126, q_l160, q_l200, q_l214, q_l255, q_l256, q_l374, q_l400, q_l999, q_l1000, q_l9999, q_l99, q_l99999, q_nm, q_gd, q_gd2, q_ix, q_lt, q_eq, q_m5a, q_m5b, q_m40b, q_m8a, q_m8b, q_m16b, q_m374b, q_m160b, q_m10a, q_div5, q_rem5, nI_add, q_moe, q_moe2, q_mol, q_mol2, q_mor, q_bd2, q_bd1, q_stI, q_oI0, if_true, if_false, ite_true, ite_false, ↓reduceIte, Nat.lt_irrefl, Nat.not_lt_zero, Nat.add_zero, Nat.zero_add, Nat.reduceEqDiff, Nat.reduceLeDiff, Nat.reduceLT, Nat.reduceAdd, Bool.false_eq_true, and_self, and_false, false_and, true_and, and_true, not_true_eq_false, not_false_eq_true, g9_99, s9_99, g9_100, s9_100, g9_101, s9_101, g9_102, s9_102, g9_103, s9_103, g9_104, s9_104, g9_105, s9_105, g9_106, s9_106, g9_107, s9_107, g9_108, s9_108, g9_109, s9_109, pB_o, up_ne, up_eq, c82, ← eZ, g0, e1, a1, a2]
      generalize sI (sI (sI (sI (pB 99 γ m) 98 1 (nI n)) 98 2 (nI (yZ Λ n))) 98 3 (nI (yK Λ (5 * n)))) 98 4 (nI b) = m5 at l1 l2
      by_cases hlt : gI m5 84 0 < gI m5 85 0
      · have l1' : f_X11_worked (nI 0) m5 = some (s, pB 99 γ m4) := l1 hlt
        rw [if_pos hlt, l1', q_bd2]
      · obtain ⟨l5, l6⟩ := l2 hlt
        rw [if_neg hlt, ← l5, ← l6]
    · rw [up_ne (by omega)]; exact g0
    · rw [up_ne (by omega), i2 9 r (by omega), ← e0, up_ne (by omega), up_ne (by omega), up_ne (by omega)]; exact b9
    · rw [up_ne (c2 := 1) (by omega), up_ne (c2 := 2) (by omega), i2 1 _ (by omega), i2 2 _ (by omega), ← e0, up_ne (c2 := 1) (by omega)]
      by_cases e : k = n
      · subst e
        rw [up_eq, up_eq, up_eq, eB]
        exact ⟨rfl, rfl, rfl⟩
      · rw [up_ne (by omega), up_ne (by omega), up_ne (by omega), up_ne (by omega), up_ne (by omega), up_ne (by omega), i2 3 _ (by omega), ← e0, up_ne (by omega), up_ne (by omega), up_ne (by omega)]
        exact b1 k (by omega)
    · rw [up_ne (by omega)]
      by_cases e : k = n
      · subst e
        exact i1 u hu
      · have hk5 := (h1.2.2.2.1 k (by omega)).2.1
        rw [i2 6 _ (by omega), ← e0, up_ne (by omega), up_ne (by omega), up_ne (by omega)]
        exact b2 k u (by omega) hu
  · obtain ⟨i1, i2⟩ := hI
    have c83 := hR.2.2.2.2.2 b u hb (by omega)
    have hM := h.1.2.2.2.2.2.2.2.1 b u hb (by omega)
    have hle := h.2.2.1
    have ek := eK u (by omega)
    have emd := q_md (a := tM T (5 * b + u) + sh) (b := nd) (by omega) (by omega) (by omega)
    have hml := Nat.mod_lt (tM T (5 * b + u) + sh) (show 0 < nd by omega)
    have hn0 : 0 < nd := by omega
    refine ⟨up2 γ 6 (5 * (40 * r + n) + u) (nI (yK Λ (5 * n + u))), ⟨fun v hv => ?_, fun c i hc => ?_⟩, ?_⟩
    · by_cases e : v = u
      · subst e; rw [up_eq]
      · rw [up_ne (by omega)]; exact i1 v (by omega)
    · rw [up_ne (by omega)]; exact i2 c i hc
    · by_cases f0 : fl = 0
      · rw [if_pos f0] at ek
        simp (maxSteps := 500000) (disch := first | assumption | omega) only [f_X11_laysStripe_L47, q_l0, q_l1, q_l2, q_l3, q_l4, q_l5, q_l6, q_l7, q_l8, q_l9, q_l10, q_l11, q_l12, q_l13, q_l14, q_l15, q_l16, q_l20, q_l21, q_l22, q_l24, q_l25, q_l26, q_l27, q_l28, q_l29, q_l30, q_l31, q_l32, q_l40, q_l48, q_l57, q_l80, q_l97, q_l100, q_l120, q_l122, q_l126, q_l160, q_l200, q_l214, q_l255, q_l256, q_l374, q_l400, q_l999, q_l1000, q_l9999, q_l99, q_l99999, q_nm, q_gd, q_gd2, q_ix, q_lt, q_eq, q_m5a, q_m5b, q_m40b, q_m8a, q_m8b, q_m16b, q_m374b, q_m160b, q_m10a, q_div5, q_rem5, nI_add, q_moe, q_moe2, q_mol, q_mol2, q_mor, q_bd2, q_bd1, q_stI, q_oI0, if_true, if_false, ite_true, ite_false, ↓reduceIte, Nat.lt_irrefl, Nat.not_lt_zero, Nat.add_zero, Nat.zero_add, Nat.reduceEqDiff, Nat.reduceLeDiff, Nat.reduceLT, Nat.reduceAdd, Bool.false_eq_true, and_self, and_false, false_and, true_and, and_true, not_true_eq_false, not_false_eq_true, g9_99, s9_99, g9_100, s9_100, g9_101, s9_101, g9_102, s9_102, g9_103, s9_103, g9_104, s9_104, g9_105, s9_105, g9_106, s9_106, g9_107, s9_107, g9_108, s9_108, g9_109, s9_109, pB_o, up_ne, up_eq, c82, ← eZ, hu, c83, q_nz, emd, f0, ek]
      · rw [if_neg f0] at ek
        have f1 : fl = 1 := by omega
        have e1 : nI nd - nI 1 = nI (nd - 1) := pk_sub (by omega)
        have e2 : nI (nd - 1) - nI ((tM T (5 * b + u) + sh) % nd) = nI (nd - 1 - (tM T (5 * b + u) + sh) % nd) := pk_sub (by omega)
        simp (maxSteps := 500000) (disch := first | assumption | omega) only [f_X11_laysStripe_L47, q_l0, q_l1, q_l2, q_l3, q_l4, q_l5, q_l6, q_l7, q_l8, q_l9, q_l10, q_l11, q_l12, q_l13, q_l14, q_l15, q_l16, q_l20, q_l21, q_l22, q_l24, q_l25, q_l26, q_l27, q_l28, q_l29, q_l30, q_l31, q_l32, q_l40, q_l48, q_l57, q_l80, q_l97, q_l100, q_l120, q_l122, q_l126, q_l160, q_l200, q_l214, q_l255, q_l256, q_l374, q_l400, q_l999, q_l1000, q_l9999, q_l99, q_l99999, q_nm, q_gd, q_gd2, q_ix, q_lt, q_eq, q_m5a, q_m5b, q_m40b, q_m8a, q_m8b, q_m16b, q_m374b, q_m160b, q_m10a, q_div5, q_rem5, nI_add, q_moe, q_moe2, q_mol, q_mol2, q_mor, q_bd2, q_bd1, q_stI, q_oI0, if_true, if_false, ite_true, ite_false, ↓reduceIte, Nat.lt_irrefl, Nat.not_lt_zero, Nat.add_zero, Nat.zero_add, Nat.reduceEqDiff, Nat.reduceLeDiff, Nat.reduceLT, Nat.reduceAdd, Bool.false_eq_true, and_self, and_false, false_and, true_and, and_true, not_true_eq_false, not_false_eq_true, g9_99, s9_99, g9_100, s9_100, g9_101, s9_101, g9_102, s9_102, g9_103, s9_103, g9_104, s9_104, g9_105, s9_105, g9_106, s9_106, g9_107, s9_107, g9_108, s9_108, g9_109, s9_109, pB_o, up_ne, up_eq, c82, ← eZ, hu, c83, q_nz, emd, f1, ek, e1, e2]
end Ref1
