/-! MATH HALF: the call grow -/
abbrev movP (Λ Γ : Lv) (i : Nat) : Prop := ¬ (yK Λ (yU Λ i) = yK Γ (yU Γ i) ∧ yH Λ (yU Λ i) = yH Γ (yU Γ i))
def smZ (Λ : Lv) : Nat → Nat
  | 0 => 0
  | k + 1 => smZ Λ k + yZ Λ k
section Grow
variable {T Λ Γ : Lv} {P : Pv} {S : Sv} {nd a b k p u x n d i j c c2 r t w v : Nat} {β γ δ : Bv} {m m2 m3 : Mm} {x1 x2 : Int32}
theorem imin_n (ha : a < 2147483648) (hb : b < 2147483648) : imin (nI a) (nI b) = nI (if a < b then a else b) := by
  rw [q_imin ha hb]
  exact congrArg nI (by split <;> split <;> omega)
theorem c_moved (hC : RelC Λ m) (hC2 : RelCa 40 Γ m) (h1 : WL1 Λ) (g1 : WL1 Γ) (h3 : WL3 Λ) (g3 : WL3 Γ) (h6 : WL6 Λ) (g6 : WL6 Γ) : f_X4_movedIn 26 40 m = some (nI (ct (movP Λ Γ) (if yX Λ < yX Γ then yX Λ else yX Γ)), m) := by
  have hX := h1.2.2.1
  have gX := g1.2.2.1
  have c2 := hC.2.2.1
  have d2 : gI m 40 2 = nI (yX Γ) := hC2.2.2.1
  unfold f_X4_movedIn
  rw [c2, d2, imin_n (by omega) (by omega), q_l0]
  refine lp0 (fun j i => f_X4_movedIn_L17 26 40 j (nI (ct (movP Λ Γ) i)) (nI (if yX Λ < yX Γ then yX Λ else yX Γ)) (nI i) m) (if yX Λ < yX Γ then yX Λ else yX Γ) _ (fun j => ?_) (fun j i hi => ?_) (by split <;> omega)
  · have hl : (if yX Λ < yX Γ then yX Λ else yX Γ) < 2147483648 := by split <;> omega
    simp only [f_X4_movedIn_L17]
    rw [if_neg (fun e => absurd ((q_ltp hl hl).mp e) (Nat.lt_irrefl _))]
  · have hi1 : i < yX Λ := by split at hi <;> omega
    have hi2 : i < yX Γ := by split at hi <;> omega
    have hl : (if yX Λ < yX Γ then yX Λ else yX Γ) < 2147483648 := by split <;> omega
    have cu := hC.2.2.2.2.2.2.2.2.2.2.2.2.1 i hi1
    have du : gI m (40 + 10) i = nI (yU Γ i) := hC2.2.2.2.2.2.2.2.2.2.2.2.2.1 i hi2
    have vu := (h3.1 i hi1).1
    have wu := (g3.1 i hi2).1
    have vl := vy_lt h1 vu
    have wl := vy_lt g1 wu
    have ck := hC.2.2.2.2.2.2.2.2.2.1 _ vu
    have dk : gI m (40 + 7) (yU Γ i) = nI (yK Γ (yU Γ i)) := hC2.2.2.2.2.2.2.2.2.2.1 _ wu
    have ch := hC.2.2.2.2.2.2.2.2.2.2.1 _ vu
    have dh : gI m (40 + 8) (yU Γ i) = nI (yH Γ (yU Γ i)) := hC2.2.2.2.2.2.2.2.2.2.2.1 _ wu
    have k1 := h1.2.2.2.2 _ vu
    have k2 := g1.2.2.2.2 _ wu
    have h13 := h1.1
    have g13 := g1.1
    have hh := h6.2 _ vu
    have gh := g6.2 _ wu
    have cu' : gI m (26 + 10) i = nI (yU Λ i) := cu
    have ck' : gI m (26 + 7) (yU Λ i) = nI (yK Λ (yU Λ i)) := ck
    have ch' : gI m (26 + 8) (yU Λ i) = nI (yH Λ (yU Λ i)) := ch
    simp only [f_X4_movedIn_L17]
    rw [if_pos ((q_ltp (by omega) hl).mpr hi), q_gd (by omega) (by omega), q_gd (by omega) (by omega), q_ix (by omega), cu', du, q_gd (by omega) (by omega), q_gd (by omega) (by omega), q_ix (by omega), q_ix (by omega), ck', dk]
    by_cases e1 : yK Λ (yU Λ i) = yK Γ (yU Γ i)
    · rw [if_pos (by rw [e1]), q_gd (by omega) (by omega), q_gd (by omega) (by omega), ch', dh]
      by_cases e2 : yH Λ (yU Λ i) = yH Γ (yU Γ i)
      · have e3 : ct (movP Λ Γ) (i + 1) = ct (movP Λ Γ) i := by
          show ct (movP Λ Γ) i + (if movP Λ Γ i then 1 else 0) = _
          rw [if_neg (fun h => h ⟨e1, e2⟩), Nat.add_zero]
        rw [if_pos (by rw [e2]), e3, q_l1, nI_add]
      · have e3 : ct (movP Λ Γ) (i + 1) = ct (movP Λ Γ) i + 1 := by
          show ct (movP Λ Γ) i + (if movP Λ Γ i then 1 else 0) = _
          rw [if_pos (fun h => e2 h.2)]
        rw [if_neg (fun e => e2 ((q_eq (by omega) (by omega)).mp e)), e3, q_l1, nI_add, nI_add]
    · have e3 : ct (movP Λ Γ) (i + 1) = ct (movP Λ Γ) i + 1 := by
        show ct (movP Λ Γ) i + (if movP Λ Γ i then 1 else 0) = _
        rw [if_pos (fun h => e1 h.1)]
      rw [if_neg (fun e => e1 ((q_eq (by omega) (by omega)).mp e)), e3, q_l1, nI_add, nI_add]
theorem r_moved (hC : RelR Λ m) (hC2 : RelRr 1 Γ m) (h1 : WL1 Λ) (g1 : WL1 Γ) (h3 : WL3 Λ) (g3 : WL3 Γ) (h6 : WL6 Λ) (g6 : WL6 Γ) : f_X11_grow_L119 FU (nI 0) (nI 0) m = some (nI (ct (movP Λ Γ) (if yX Λ < yX Γ then yX Λ else yX Γ)), m) := by
  have hX := h1.2.2.1
  have gX := g1.2.2.1
  obtain ⟨r80, r99, r108, r100, r102, r101, r103, r104, r105, r106, r109, r107⟩ := hC
  obtain ⟨s99, s108, s100, s102, s101, s103, s104, s105, s106, s109, s107⟩ := hC2
  have emn := imin_n (a := yX Λ) (b := yX Γ) (by omega) (by omega)
  refine lp0 (fun j i => f_X11_grow_L119 j (nI (ct (movP Λ Γ) i)) (nI i) m) (if yX Λ < yX Γ then yX Λ else yX Γ) _ (fun j => ?_) (fun j i hi => ?_) (by split <;> omega)
  · have hl : (if yX Λ < yX Γ then yX Λ else yX Γ) < 2147483648 := by split <;> omega
    simp only [f_X11_grow_L119]
    rw [show ix (0 : Int32) = 0 from rfl, show ix (1 : Int32) = 1 from rfl, r108, s108, emn, if_neg (fun e => absurd ((q_ltp hl hl).mp e) (Nat.lt_irrefl _))]
  · have hi1 : i < yX Λ := by split at hi <;> omega
    have hi2 : i < yX Γ := by split at hi <;> omega
    have hl : (if yX Λ < yX Γ then yX Λ else yX Γ) < 2147483648 := by split <;> omega
    have vu := (h3.1 i hi1).1
    have wu := (g3.1 i hi2).1
    have vl := vy_lt h1 vu
    have wl := vy_lt g1 wu
    have cu := r107 i hi1
    have du := s107 i hi2
    have ck := r105 _ vu
    have dk := s105 _ wu
    have ch := r106 _ vu
    have dh := s106 _ wu
    have k1 := h1.2.2.2.2 _ vu
    have k2 := g1.2.2.2.2 _ wu
    have h13 := h1.1
    have g13 := g1.1
    have hh := h6.2 _ vu
    have gh := g6.2 _ wu
    rw [Nat.mul_one] at du dk dh
    simp only [f_X11_grow_L119]
    rw [show ix (0 : Int32) = 0 from rfl, show ix (1 : Int32) = 1 from rfl, r108, s108, emn, if_pos ((q_ltp (by omega) hl).mpr hi), q_gd (by omega) (by omega), q_ix (by omega), cu, q_gd (by omega) (by omega), q_ix (by omega), q_l160, nI_add, q_gd (by omega) (by omega), q_ix (by omega), du, Nat.mul_one, q_gd (by omega) (by omega), q_ix (by omega), ck, dk]
    by_cases e1 : yK Λ (yU Λ i) = yK Γ (yU Γ i)
    · rw [if_pos (by rw [e1]), q_gd (by omega) (by omega), q_gd (by omega) (by omega), q_gd (by omega) (by omega), q_gd (by omega) (by omega), ch, dh]
      by_cases e2 : yH Λ (yU Λ i) = yH Γ (yU Γ i)
      · have e3 : ct (movP Λ Γ) (i + 1) = ct (movP Λ Γ) i := by
          show ct (movP Λ Γ) i + (if movP Λ Γ i then 1 else 0) = _
          rw [if_neg (fun h => h ⟨e1, e2⟩), Nat.add_zero]
        rw [if_pos (by rw [e2]), e3, q_l0, nI_add, Nat.add_zero, q_l1, nI_add]
      · have e3 : ct (movP Λ Γ) (i + 1) = ct (movP Λ Γ) i + 1 := by
          show ct (movP Λ Γ) i + (if movP Λ Γ i then 1 else 0) = _
          rw [if_pos (fun h => e2 h.2)]
        rw [if_neg (fun e => e2 ((q_eq (by omega) (by omega)).mp e)), e3, q_l1, nI_add, nI_add]
    · have e3 : ct (movP Λ Γ) (i + 1) = ct (movP Λ Γ) i + 1 := by
        show ct (movP Λ Γ) i + (if movP Λ Γ i then 1 else 0) = _
        rw [if_pos (fun h => e1 h.1)]
      rw [if_neg (fun e => e1 ((q_eq (by omega) (by omega)).mp e)), e3, q_l1, nI_add, nI_add]
theorem smZ_le (h1 : WL1 Λ) : ∀ k, k ≤ yS Λ → smZ Λ k ≤ 5 * k
  | 0, _ => Nat.le_refl _
  | k + 1, hk => by
    have ih := smZ_le h1 k (by omega)
    have h5 := (h1.2.2.2.1 k (by omega)).2.1
    show smZ Λ k + yZ Λ k ≤ _
    omega
theorem c_all (hC : RelC Λ m) (h1 : WL1 Λ) : f_X4_allUnits 26 m = some (nI (smZ Λ (yS Λ)), m) := by
  have h40 := h1.2.1
  have c1 := hC.2.1
  unfold f_X4_allUnits
  rw [q_l0]
  refine lp0 (fun j k => f_X4_allUnits_L4 26 j (nI (smZ Λ k)) (nI k) m) (yS Λ) _ (fun j => ?_) (fun j k hk => ?_) (by omega)
  · simp (maxSteps := 500000) (disch := first | assumption | omega) only [f_X4_allUnits_L4, q_l0, q_l1, q_l2, q_l3, q_l4, q_l5, q_l6, q_l7, q_l8, q_l9, q_l10, q_l11, q_l12, q_l13, q_l14, q_l15, q_l16, q_l20, q_l21, q_l22, q_l24, q_l25, q_l26, q_l27, q_l28, q_l29, q_l30, q_l31, q_l32, q_l40, q_l48, q_l57, q_l80, q_l97, q_l100, q_l120, q_l122, q_l126, q_l160, q_l200, q_l214, q_l255, q_l256, q_l374, q_l400, q_l999, q_l1000, q_l9999, q_l99, q_l99999, q_nm, q_gd, q_gd2, q_ix, q_lt, q_eq, q_m5a, q_m5b, q_m40b, q_m8a, q_m8b, q_m16b, q_m374b, q_m160b, q_m10a, q_div5, q_rem5, nI_add, q_moe, q_moe2, q_mol, q_mol2, q_mor, q_bd2, q_bd1, q_stI, q_oI0, if_true, if_false, ite_true, ite_false, ↓reduceIte, Nat.lt_irrefl, Nat.not_lt_zero, Nat.add_zero, Nat.zero_add, Nat.reduceEqDiff, Nat.reduceLeDiff, Nat.reduceLT, Nat.reduceAdd, Bool.false_eq_true, and_self, and_false, false_and, true_and, and_true, not_true_eq_false, not_false_eq_true, c1]
  · have cz : gI m (26 + 1) k = nI (yZ Λ k) := hC.2.2.2.1 k hk
    simp only [f_X4_allUnits_L4]
    rw [c1, if_pos ((q_ltp (by omega) (by omega)).mpr hk), q_gd (by omega) (by omega), q_ix (by omega), cz, nI_add, q_l1, nI_add]
    rfl
theorem r_all (hC : RelR Λ m) (h1 : WL1 Λ) (hx : x ≤ 3) (h0 : 0 < nd) (hnd : nd ≤ 13) : f_X11_grow_L71 FU (nI x) (nI nd) (nI 0) (nI 0) m = some (nI (smZ Λ (yS Λ) * x / nd), m) := by
  have h40 := h1.2.1
  have r99 := hC.2.1
  have hs := smZ_le h1 (yS Λ) (Nat.le_refl _)
  have hp : smZ Λ (yS Λ) * x ≤ 200 * 3 := Nat.mul_le_mul (by omega) hx
  refine lp0 (fun j k => f_X11_grow_L71 j (nI x) (nI nd) (nI (smZ Λ k)) (nI k) m) (yS Λ) _ (fun j => ?_) (fun j k hk => ?_) (by omega)
  · simp only [f_X11_grow_L71]
    rw [show ix (0 : Int32) = 0 from rfl, r99, if_neg (fun e => absurd ((q_ltp (by omega) (by omega)).mp e) (Nat.lt_irrefl _)), q_nz (by omega) (by omega), pk_mul, pk_div (by omega) h0 (by omega)]
  · have rz := hC.2.2.2.1 k hk
    simp only [f_X11_grow_L71]
    rw [show ix (0 : Int32) = 0 from rfl, r99, if_pos ((q_ltp (by omega) (by omega)).mpr hk), q_gd (by omega) (by omega), q_ix (by omega), rz, nI_add, q_l1, nI_add]
    rfl
end Grow
