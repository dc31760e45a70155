/-! MATH HALF: the call grow, all of it -/
section Grow2
variable {T Λ Γ : Lv} {P : Pv} {S : Sv} {nd a b k p u x n d i j c c2 r t w v : Nat} {β γ δ : Bv} {m m2 m3 : Mm} {x1 x2 : Int32}
theorem q_nm1 : (-1 : Int32) = mo := rfl
theorem a_grow (hq : Hq Λ S m) (h1 : WL1 Λ) (h3 : WL3 Λ) (h6 : WL6 Λ) (ht : t = 3 ∨ t = 10) (hC : ToC t T m) (hR : ToR T m) (hT : WTo T) (hD : tD T = yD Λ) (hLC : LawC t P m) (hLR : LawR P m) (hP : ∀ k z d b, 2 ≤ z → z ≤ 5 → P k z d b < z) : ∃ r m1 m2, f_X10_grow t u w v x1 x2 m = some (r, m1) ∧ f_X11_grow x1 x2 m1 = some (r, m2) ∧ Sc m m2 := by
  have h13 := h1.1
  have c0 := hq.1.1
  have hqt := Hq_th hq
  have r80 : gI (th m) 80 0 = nI (yD Λ) := hqt.2.1.1
  have i0 : ix (0 : Int32) = 0 := rfl
  by_cases d0 : yD Λ = 0
  · refine ⟨mo, m, th m, ?_, ?_, Sc_th⟩
    · unfold f_X10_grow
      rw [c0, d0, if_pos (by rfl), q_nm1]
    · unfold f_X11_grow
      rw [q_stI, q_th, i0, r80, d0, if_pos (by rfl), q_nm1]
  have d0' : ¬ nI (yD Λ) = 0 := fun e => by
    rw [q_l0, q_eq (by omega) (by omega)] at e
    exact d0 e
  by_cases a1 : x1 < 1
  · refine ⟨mo, m, th m, ?_, ?_, Sc_th⟩
    · unfold f_X10_grow
      rw [c0, if_neg d0', if_pos a1, q_nm1]
    · unfold f_X11_grow f_X11_within
      rw [q_stI, q_th, i0, r80, if_neg d0', if_pos a1]; rfl
  by_cases a2 : 3 < x1
  · refine ⟨mo, m, th m, ?_, ?_, Sc_th⟩
    · unfold f_X10_grow
      rw [c0, if_neg d0', if_neg a1, if_pos a2, q_nm1]
    · unfold f_X11_grow f_X11_within
      rw [q_stI, q_th, i0, r80, if_neg d0', if_neg a1, if_pos a2]; rfl
  by_cases b1 : x2 < 0
  · refine ⟨mo, m, th m, ?_, ?_, Sc_th⟩
    · unfold f_X10_grow
      rw [c0, if_neg d0', if_neg a1, if_neg a2, if_pos b1, q_nm1]
    · unfold f_X11_grow f_X11_within
      rw [q_stI, q_th, i0, r80, if_neg d0', if_neg a1, if_neg a2, q_bd2, if_neg (by decide), if_pos b1]; rfl
  by_cases b2 : 1 < x2
  · refine ⟨mo, m, th m, ?_, ?_, Sc_th⟩
    · unfold f_X10_grow
      rw [c0, if_neg d0', if_neg a1, if_neg a2, if_neg b1, if_pos b2, q_nm1]
    · unfold f_X11_grow f_X11_within
      rw [q_stI, q_th, i0, r80, if_neg d0', if_neg a1, if_neg a2, q_bd2, if_neg (by decide), if_neg b1, if_pos b2]; rfl
  obtain ⟨x, hx, rfl⟩ := nI_of (x := x1) (fun e => a1 (by
    have h2 : (0 : Int32).toInt = 0 := by decide
    have h3 : (1 : Int32).toInt = 1 := by decide
    rw [Int32.lt_iff_toInt_lt] at e ⊢
    omega))
  have hx' : x < 2147483648 := hx
  have hx1 : 1 ≤ x := by
    rcases Nat.lt_or_ge x 1 with e | e
    · exact absurd ((q_ltp (by omega) (by omega)).mpr e) a1
    · exact e
  have hx3 : x ≤ 3 := by
    rcases Nat.lt_or_ge 3 x with e | e
    · exact absurd ((q_ltp (by omega) (by omega)).mpr e) a2
    · exact e
  obtain ⟨y, hy, rfl⟩ := nI_of (x := x2) b1
  have hy' : y < 2147483648 := hy
  have hy1 : y ≤ 1 := by
    rcases Nat.lt_or_ge 1 y with e | e
    · exact absurd ((q_ltp (by omega) (by omega)).mpr e) b2
    · exact e
  by_cases e13 : 13 < yD Λ + x
  · have e13' : (13 : Int32) < nI (yD Λ + x) := (q_ltp (a := 13) (by omega) (by omega)).mpr e13
    refine ⟨mo, m, th m, ?_, ?_, Sc_th⟩
    · unfold f_X10_grow
      rw [c0, if_neg d0', if_neg a1, if_neg a2, if_neg b1, if_neg b2, nI_add, if_pos e13', q_nm1]
    · unfold f_X11_grow f_X11_within
      rw [q_stI, q_th, i0, r80, if_neg d0', if_neg a1, if_neg a2, q_bd2, if_neg (by decide), if_neg b1, if_neg b2, q_bd2, if_neg (by decide), nI_add, if_pos e13']; rfl
  have n13 : ¬ (13 : Int32) < nI (yD Λ + x) := fun e => e13 ((q_ltp (by omega) (by omega)).mp e)
  obtain ⟨γ, m3, e1, e2, e3⟩ := c_build (A := 40) (nd := yD Λ + x) (P := P) (Or.inr rfl) ht hC hLC hT (by omega) (by omega) hP
  -- what the class leaves
  have ag : ∀ b i, ¬ (40 ≤ b ∧ b ≤ 53) → ¬ (b = t + 4 ∧ i = 3) → b ≠ t + 6 → (pB 40 γ m3).1 b i = m.1 b i := fun b i k1 k2 k3 => by
    have : gI (pB 40 γ m3) b i = gI m3 b i := pB_o (by omega)
    exact this.trans (e2.2 b i k2 k3)
  have scC : Sc m (pB 40 γ m3) := fun b i hn => ag b i (by unfold ns at hn; omega) (by unfold ns at hn; omega) (by unfold ns at hn; omega)
  have hq1 : Hq Λ S (pB 40 γ m3) := Hq_ag (fun b i hb => ag b i (by omega) (by omega) (by omega)) hq
  have hR1 : ToR T (th (pB 40 γ m3)) := by
    have hg : ∀ b i, 80 ≤ b → gI (th (pB 40 γ m3)) b i = gI m b i := fun b i hb => by
      have : gI (th (pB 40 γ m3)) b i = gI (pB 40 γ m3) b i := by
        simp only [gI, th, sI]
        rw [if_neg (by omega)]
      exact this.trans (ag b i (by omega) (by omega) (by omega))
    unfold ToR
    simp (disch := omega) only [hg]
    exact hR
  have hLR1 : LawR P (th (pB 40 γ m3)) := fun m' k1 => hLR m' (fun b i hb => (k1 b i hb).trans (by
    have : (th (pB 40 γ m3)).1 b i = (pB 40 γ m3).1 b i := by
      simp only [th, sI]
      rw [if_neg (by omega)]
    exact this.trans (ag b i (by omega) (by omega) (by omega))))
  have hqt1 := Hq_th hq1
  have r80' : gI (th (pB 40 γ m3)) 80 0 = nI (yD Λ) := hqt1.2.1.1
  have h2 : 0 < tB T → 2 ≤ yD Λ + x := fun _ => by omega
  have es := r_sAll (nd := yD Λ + x) hR1 hT h2 (by omega)
  have hc : cS T (yD Λ + x) (tB T) ≤ 78 := by
    have := cS_le (T := T) (nd := yD Λ + x) (by omega) (by omega) (tB T)
    have := hT.2.2.1
    omega
  by_cases e40 : 40 < cS T (yD Λ + x) (tB T)
  · rw [if_pos e40] at e1
    refine ⟨mo, pB 40 γ m3, th (pB 40 γ m3), ?_, ?_, Sc_tr scC Sc_th⟩
    · unfold f_X10_grow
      rw [c0, if_neg d0', if_neg a1, if_neg a2, if_neg b1, if_neg b2, nI_add, if_neg n13, e1, q_bd2, if_pos (by rfl), q_nm1]
    · unfold f_X11_grow f_X11_within
      rw [q_stI, q_th, i0, r80', if_neg d0', if_neg a1, if_neg a2, q_bd2, if_neg (by decide), if_neg b1, if_neg b2, q_bd2, if_neg (by decide), nI_add, if_neg n13, q_l0, es, q_bd2, q_l40, if_pos ((q_ltp (by omega) (by omega)).mpr e40), q_nm1]
  · rw [if_neg e40] at e1
    have e40' : ¬ nI 40 < nI (cS T (yD Λ + x) (tB T)) := fun e => e40 ((q_ltp (by omega) (by omega)).mp e)
    have ok : okT T P (yD Λ + x) := ⟨hT, by omega, by omega, by omega, hP⟩
    have w0 := WL_0 ok
    by_cases y0 : y = 0
    · subst y0
      obtain ⟨δ, m4, k1, k2, k3, k4⟩ := r_laysAll (r := 1) (by omega) hR1 hLR1 ok
      have em := c_moved hq1.1 (e3 (by omega)) h1 (WL_1 w0) h3 (WL_3 w0) h6 (WL_6 w0)
      have ag2 : ∀ b i, ¬ (89 ≤ b ∧ b ≤ 98) → ¬ (99 ≤ b ∧ b ≤ 112 ∧ rIn 1 (b - 99) i) → (pB 99 δ m4).1 b i = (th (pB 40 γ m3)).1 b i := fun b i j1 j2 => by
        by_cases hb : 99 ≤ b ∧ b ≤ 99 + 13
        · have q1 : (pB 99 δ m4).1 b i = δ (b - 99) i := by
            simp only [pB]
            rw [if_pos hb]
          have q2 := k3 (b - 99) i (fun hh => j2 ⟨hb.1, by omega, hh⟩)
          rw [q1, q2]
          show (th (pB 40 γ m3)).1 (99 + (b - 99)) i = _
          rw [show 99 + (b - 99) = b from by omega]
        · have : gI (pB 99 δ m4) b i = gI m4 b i := pB_o (by omega)
          exact this.trans (k4.2 b i j1)
      have sc2 : Sc (th (pB 40 γ m3)) (pB 99 δ m4) := fun b i hn => ag2 b i (by unfold ns at hn; omega) (by unfold ns at hn; unfold rIn; omega)
      have hqR : RelR Λ (pB 99 δ m4) := by
        obtain ⟨r80, r99, r108, r100, r102, r101, r103, r104, r105, r106, r109, r107⟩ := hqt1.2.1
        have hX := h1.2.2.1
        have h40 := h1.2.1
        refine ⟨(ag2 _ _ (by omega) (by unfold rIn; omega)).trans r80, (ag2 _ _ (by omega) (by unfold rIn; omega)).trans r99, (ag2 _ _ (by omega) (by unfold rIn; omega)).trans r108, fun k hk => (ag2 _ _ (by omega) (by unfold rIn; omega)).trans (r100 k hk), fun k hk => (ag2 _ _ (by omega) (by unfold rIn; omega)).trans (r102 k hk), fun k hk => (ag2 _ _ (by omega) (by unfold rIn; omega)).trans (r101 k hk), fun k hk => (ag2 _ _ (by omega) (by unfold rIn; omega)).trans (r103 k hk), fun k hk => (ag2 _ _ (by omega) (by unfold rIn; omega)).trans (r104 k hk), fun x hx => ?_, fun x hx => ?_, fun x hx => ?_, fun k hk => (ag2 _ _ (by omega) (by unfold rIn; omega)).trans (r107 k hk)⟩
        · have := vy_lt h1 hx
          exact (ag2 _ _ (by omega) (by unfold rIn; omega)).trans (r105 x hx)
        · have := vy_lt h1 hx
          exact (ag2 _ _ (by omega) (by unfold rIn; omega)).trans (r106 x hx)
        · have := vy_lt h1 hx
          exact (ag2 _ _ (by omega) (by unfold rIn; omega)).trans (r109 x hx)
      have em2 := r_moved hqR k2 h1 (WL_1 w0) h3 (WL_3 w0) h6 (WL_6 w0)
      refine ⟨nI (ct (movP Λ (mkL2 T P (yD Λ + x))) (if yX Λ < yX (mkL2 T P (yD Λ + x)) then yX Λ else yX (mkL2 T P (yD Λ + x)))), pB 40 γ m3, pB 99 δ m4, ?_, ?_, Sc_tr scC (Sc_tr Sc_th sc2)⟩
      · unfold f_X10_grow
        rw [c0, if_neg d0', if_neg a1, if_neg a2, if_neg b1, if_neg b2, nI_add, if_neg n13, e1, q_bd2, if_neg (by decide), if_pos (by rfl)]
        rw [em, q_bd2]
      · unfold f_X11_grow f_X11_within
        rw [q_stI, q_th, i0, r80', if_neg d0', if_neg a1, if_neg a2, q_bd2, if_neg (by decide), if_neg b1, if_neg b2, q_bd2, if_neg (by decide), nI_add, if_neg n13, q_l0, es, q_bd2, q_l40, if_neg e40', q_l1, if_neg (by decide), k1, q_bd1]
        exact em2
    · have y1 : y = 1 := by omega
      subst y1
      have em := c_all hq1.1 h1
      have em2 := r_all (x := x) (nd := yD Λ + x) hqt1.2.1 h1 hx3 (by omega) (by omega)
      have hs := smZ_le h1 (yS Λ) (Nat.le_refl _)
      have h40 := h1.2.1
      have hp : smZ Λ (yS Λ) * x ≤ 200 * 3 := Nat.mul_le_mul (by omega) hx3
      refine ⟨nI (smZ Λ (yS Λ) * x / (yD Λ + x)), pB 40 γ m3, th (pB 40 γ m3), ?_, ?_, Sc_tr scC Sc_th⟩
      · unfold f_X10_grow
        rw [c0, if_neg d0', if_neg a1, if_neg a2, if_neg b1, if_neg b2, nI_add, if_neg n13, e1, q_bd2, if_neg (by decide), if_neg (by decide), em, q_bd2, q_nz (by omega) (by omega), pk_mul, pk_div (by omega) (by omega) (by omega)]
      · unfold f_X11_grow f_X11_within
        rw [q_stI, q_th, i0, r80', if_neg d0', if_neg a1, if_neg a2, q_bd2, if_neg (by decide), if_neg b1, if_neg b2, q_bd2, if_neg (by decide), nI_add, if_neg n13, q_l0, es, q_bd2, q_l40, if_neg e40', q_l1, if_pos (by rfl)]
        exact em2
end Grow2
