/-! MATH HALF: loads as a call, the end -/
section Ld3
variable {Λ : Lv} {a b x k d o n i N K z c B t u w v p s M W : Nat} {S F T S0 : Sv} {m m2 m3 : Mm} {x1 x2 x3 st : Int32} {g h0 vl : Nat → Int32} {y : Int64} {qq : Nat × Sv} {dwN : Nat → Nat} {dvN : Nat → Nat → Nat}
theorem smI_congr {f f2 : Nat → Int32} : ∀ {n : Nat}, (∀ i, i < n → f i = f2 i) → smI f n = smI f2 n
  | 0, _ => rfl
  | n + 1, h => by
    unfold smI
    rw [smI_congr (n := n) (fun i hi => h i (by omega)), h n (by omega)]
theorem wr_sL : wr b g (sL m c i y) = sL (wr b g m) c i y := rfl
theorem cpN_sL : cpN a b c d n (sL m o i y) = sL (cpN a b c d n m) o i y := rfl
theorem cp_b118 (hX : yX Λ ≤ 160) {S2 : Sv} : cpN 118 0 117 0 374 (pR Λ S2 (sL (wr 118 (asR 118 m) m) 78 58 y)) = sL (wr 118 (asR 118 m) m) 78 58 y := by
  rw [pR_sL, cpN_sL]
  have h := (cp_asB (Λ := Λ) (b := 118) (z := 0) (m := m) (S2 := S2) (by decide) hX).resolve_right (by omega)
  have e : wr 117 (fl 0 (m.1 117)) (wr 118 (asR 118 m) m) = wr 118 (asR 118 m) m := by
    rw [fl_0]
    have e2 : (wr 118 (asR 118 m) m).1 117 = m.1 117 := by
      funext i
      simp [wr]
    rw [← e2, wr_self]
  rw [e] at h
  rw [h]
/-- the reference's side, over a memory that holds the state -/
theorem r_loadsA (hdr : DR dwN dvN) (hR : RelR Λ m) (hp : pR Λ S m = m) (hW : WL1 Λ) (hW2 : WL2 Λ) (h3 : WL3 Λ) (hT : WT Λ B S) (hB : B + 7920 ≤ 99999) (hD : 0 < yX Λ → 0 < yD Λ) (hs : s ≤ 9999) (hn1 : 1 ≤ n) (hn : n ≤ 99) (hx : x ≤ 2) : ∃ m2, f_X11_loads (nI s) (nI n) (nI x) m = some (ldA2 Λ S (if 0 < yX Λ then (lvN dwN dvN Λ (s, S) n).2 else S) x, m2) ∧ Sc m m2 := by
  have h160 := hW.2.2.1
  have s1 : ¬ 9999 < s := by omega
  have n1 : ¬ n < 1 := by omega
  have n2 : ¬ 99 < n := by omega
  have hR1 := RelR_th hR
  have hp1 : pR Λ S (th m) = th m := by rw [pR_th, hp]
  generalize hm1 : th m = m1 at hR1 hp1
  have c1 := r_copies (m := sL m1 78 58 (lN s)) (p0 := 117) (p2 := 118) (a := 0) (b := 0) (by decide) (by decide) (by decide) (by decide) (by decide)
  rw [cpN_sL, cp_as (by decide)] at c1
  have hR2 : RelR Λ (wr 118 (asR 118 m1) m1) := RelR_wr (by omega) hR1
  have hp2 : pR Λ S (wr 118 (asR 118 m1) m1) = wr 118 (asR 118 m1) m1 := by rw [pR_wr (by decide), hp1]
  have hbk := fun (S2 : Sv) (y : Int64) => cp_b118 (Λ := Λ) (m := m1) (S2 := S2) (y := y) h160
  have hscW : Sc m1 (wr 118 (asR 118 m1) m1) := Sc_wr (by omega)
  generalize wr 118 (asR 118 m1) m1 = W at c1 hR2 hp2 hbk hscW
  have e2 := r_allLoads (m := sL W 78 58 (lN s)) hW hT.2.2
  have hp3 : pR Λ S (sL W 78 58 (lN s)) = sL W 78 58 (lN s) := by rw [pR_sL, hp2]
  have hsc : ∀ y, Sc m (sL W 78 58 y) := fun y => by
    have h1 : Sc m m1 := by rw [← hm1]; exact Sc_th
    exact Sc_tr h1 (Sc_tr hscW Sc_sL)
  have er : (nI s).toInt64 = lN s := nI_l (by omega)
  have hwin1 : f_X11_within (nI s) (nI 0) (nI 9999) m1 = some (nI 1, m1) := by rw [r_winL (by omega) (by omega), if_pos (by omega)]
  have hwin2 : f_X11_within (nI n) (nI 1) (nI 99) m1 = some (nI 1, m1) := by
    unfold f_X11_within
    simp (maxSteps := 500000) (disch := first | assumption | omega) only [q_l0, q_l1, q_l2, q_l3, q_l4, q_l5, q_l6, q_l7, q_l8, q_l9, q_l10, q_l11, q_l12, q_l13, q_l14, q_l15, q_l16, q_l20, q_l21, q_l22, q_l24, q_l25, q_l26, q_l27, q_l28, q_l29, q_l30, q_l31, q_l32, q_l40, q_l48, q_l57, q_l80, q_l97, q_l100, q_l120, q_l122, q_l126, q_l160, q_l200, q_l214, q_l255, q_l256, q_l374, q_l400, q_l999, q_l1000, q_l9999, q_l99, q_l99999, q_nm, q_gd, q_gd2, q_ix, q_lt, q_eq, q_m5a, q_m5b, q_m40b, q_m8a, q_m8b, q_m16b, q_m374b, q_m160b, q_m10a, q_div5, q_rem5, nI_add, q_moe, q_moe2, q_mol, q_mol2, q_mor, q_bd2, q_bd1, q_stI, q_oI0, if_true, if_false, ite_true, ite_false, ↓reduceIte, Nat.lt_irrefl, Nat.not_lt_zero, Nat.add_zero, Nat.zero_add, Nat.reduceEqDiff, Nat.reduceLeDiff, Nat.reduceLT, Nat.reduceAdd, Bool.false_eq_true, and_self, and_false, false_and, true_and, and_true, not_true_eq_false, not_false_eq_true, n1, n2]
  have hwin3 : f_X11_within (nI x) (nI 0) (nI 2) m1 = some (nI 1, m1) := by rw [r_winL (by omega) (by omega), if_pos (by omega)]
  have main : ∀ T y, WLo Λ (B + 7920) T → f_X11_loads_J90 (nI x) (smI S.2.2.2 (yD Λ)) (pR Λ T (sL W 78 58 y)) = some (ldA2 Λ S T x, sL W 78 58 y) := fun T y hL => r_loadsE hW (RelR_sL hR2) hL hB hx (hbk T y)
  have fin : ∀ T y, f_X11_loads_L65 FU (nI n) (nI x) (smI S.2.2.2 (yD Λ)) (nI 0) (pR Λ S (sL W 78 58 (lN s))) = some (ldA2 Λ S T x, sL W 78 58 y) → f_X11_loads (nI s) (nI n) (nI x) m = some (ldA2 Λ S T x, sL W 78 58 y) := fun T y e => by
    rw [hp3] at e e2
    unfold f_X11_loads stL
    rw [q_stI, q_th, hm1, q_l0, q_l9999, hwin1, q_bd2, q_l1, q_l99, q_l2]
    rw [if_neg n10, hwin2, q_bd2, if_neg n10, hwin3, q_bd2, if_neg n10, er]
    dsimp only
    rw [c1, q_bd1, e2, q_bd2]
    exact e
  by_cases hX : 0 < yX Λ
  · rw [if_pos hX]
    have hq : ((s, S) : Nat × Sv).1 < 2147483648 := by show s < _; omega
    have hWT := lvN_WT (Λ := Λ) (qq := (s, S)) hdr hW hW2 h3 hX (hD hX) hT
    refine ⟨_, fin _ (lN (lvN dwN dvN Λ (s, S) n).1) ?_, hsc _⟩
    refine lp0 (fun j k => f_X11_loads_L65 j (nI n) (nI x) (smI S.2.2.2 (yD Λ)) (nI k) (pR Λ (lvN dwN dvN Λ (s, S) k).2 (sL W 78 58 (lN (lvN dwN dvN Λ (s, S) k).1)))) n _ (fun j => ?_) (fun j k hk => ?_) (by omega)
    · simp only [f_X11_loads_L65]
      rw [if_neg (fun h => absurd ((q_ltp (by omega) (by omega)).mp h) (Nat.lt_irrefl _))]
      exact main _ _ (WLo_mono (by omega) (hWT n).2.2)
    · have r108 : gI (pR Λ (lvN dwN dvN Λ (s, S) k).2 (sL W 78 58 (lN (lvN dwN dvN Λ (s, S) k).1))) 108 0 = nI (yX Λ) := by rw [pR_oth (by decide), gI_sL]; exact hR2.2.2.1
      have e := r_lives hdr hR2 hW hW2 h3 hX (hD hX) (hWT k) (lvN_lt (Λ := Λ) (n := k) hdr hq)
      simp only [f_X11_loads_L65]
      rw [if_pos ((q_ltp (by omega) (by omega)).mpr hk), show ix (0 : Int32) = 0 from rfl, r108, q_l0, if_pos ((q_ltp (by omega) (by omega)).mpr hX), e, q_bd1, q_l1, nI_add]
      rfl
  · rw [if_neg hX]
    refine ⟨_, fin S (lN s) ?_, hsc _⟩
    obtain ⟨j, hj1, hj2⟩ := FU_j
    have r108 : gI (pR Λ S (sL W 78 58 (lN s))) 108 0 = nI (yX Λ) := by rw [pR_oth (by decide), gI_sL]; exact hR2.2.2.1
    rw [hj1]
    simp only [f_X11_loads_L65]
    rw [if_pos ((q_ltp (by omega) (by omega)).mpr (by omega)), show ix (0 : Int32) = 0 from rfl, r108, q_l0, if_neg (fun h => hX ((q_ltp (by omega) (by omega)).mp h))]
    exact main S (lN s) (WLo_mono (by omega) hT.2.2)
theorem out_99 {x : Int32} (h : ¬ ∃ j, 1 ≤ j ∧ j ≤ 99 ∧ x = nI j) : x < nI 1 ∨ (¬ x < nI 1 ∧ nI 99 < x) := by
  rcases inN_or x 100 with ⟨j, h1, h2, rfl⟩ | h1 | ⟨j, h1, h2, rfl⟩
  · by_cases h3 : j = 0
    · subst h3; exact Or.inl (by rw [q_lt (by omega) (by omega)]; omega)
    · exact absurd ⟨j, by omega, by omega, rfl⟩ h
  · refine Or.inl ?_
    rw [Int32.lt_iff_toInt_lt] at h1 ⊢
    have e1 : (nI 1).toInt = 1 := by decide
    have e0 : (0 : Int32).toInt = 0 := by decide
    omega
  · refine Or.inr ⟨?_, ?_⟩
    · rw [q_lt (by omega) (by omega)]; omega
    · rw [q_lt (by omega) (by omega)]; omega
theorem a_loads (h : Hq Λ S m) (hW : WL1 Λ) (hW2 : WL2 Λ) (h3 : WL3 Λ) (hT : WT Λ B S) (hB : B + 7920 ≤ 99999) (hD : 0 < yX Λ → 0 < yD Λ) : ∃ r m1 m2, f_X10_loads t u w v x1 x2 x3 m = some (r, m1) ∧ f_X11_loads x1 x2 x3 m1 = some (r, m2) ∧ Sc m m2 := by
  have h160 := hW.2.2.1
  have z00 : ((0 : Int32) = 0) = True := eq_true rfl
  have z10 : ((1 : Int32) = 0) = False := by decide
  by_cases hs : ∃ s, s ≤ 9999 ∧ x1 = nI s
  · obtain ⟨s, hs, rfl⟩ := hs
    by_cases hn : ∃ n, 1 ≤ n ∧ n ≤ 99 ∧ x2 = nI n
    · obtain ⟨n, hn1, hn, rfl⟩ := hn
      have s0 : ¬ nI s < 0 := nI_pos (n := s) (by show s < 2147483648; omega)
      have s1 : ¬ nI 9999 < nI s := fun e => by have := (q_ltp (by omega) (by omega)).mp e; omega
      have n1 : ¬ nI n < nI 1 := fun e => by have := (q_ltp (by omega) (by omega)).mp e; omega
      have n2 : ¬ nI 99 < nI n := fun e => by have := (q_ltp (by omega) (by omega)).mp e; omega
      rcases inN_or x3 3 with ⟨x, hx, hx2, rfl⟩ | ho
      · have x0 : ¬ nI x < 0 := nI_pos (n := x) (by show x < 2147483648; omega)
        have x3 : ¬ nI 2 < nI x := fun e => by have := (q_ltp (by omega) (by omega)).mp e; omega
        have hcp := c_copy (a := 59) (p := 54) (m := m) (by omega)
        obtain ⟨dwN, dvN, hdr⟩ := DR_ex
        have agM : ∀ b i, hqc b → (cyM 59 54 m).1 b i = m.1 b i := fun b i hb => by
          simp only [cyM]
          rw [if_neg (by omega), if_neg (by omega), if_neg (by omega), if_neg (by omega), if_neg (by omega)]
        have scM : Sc m (cyM 59 54 m) := fun b i hb => by
          unfold ns at hb
          simp only [cyM]
          rw [if_neg (by omega), if_neg (by omega), if_neg (by omega), if_neg (by omega), if_neg (by omega)]
        have hE : EqS S (gS 59 (cyM 59 54 m)) := by
          refine ⟨?_, fun y hy => ?_, fun y hy => ?_, fun d hd => ?_⟩
          · rw [← hq_up h]; simp [gS, cyM, gI]
          · rw [← hq_wh h y]; simp [gS, cyM, gI, hy]
          · rw [← hq_va h y]; simp [gS, cyM, gI, hy]
          · rw [← hq_lo h d]; simp [gS, cyM, gI, hd]
        have hS0 : pS 59 (gS 59 (cyM 59 54 m)) (cyM 59 54 m) = cyM 59 54 m := pS_self
        generalize hM0 : cyM 59 54 m = M0 at hcp agM scM hE hS0
        generalize gS 59 M0 = S0 at hE hS0
        have hT0 := WT_eq hW hE hT
        have hqM := Hq_ag agM h
        have esm : smI S0.2.2.2 (yD Λ) = smI S.2.2.2 (yD Λ) := smI_congr (fun i hi => (hE.2.2.2 i (by have := hW.1; omega)).symm)
        have eld : ∀ T x, ldA2 Λ S0 T x = ldA2 Λ S T x := fun T x => by unfold ldA2; rw [esm]
        have hx2 : x ≤ 2 := by omega
        -- the reference at the class's memory
        have ref : ∀ m1, Hq Λ S m1 → ∃ m2, f_X11_loads (nI s) (nI n) (nI x) m1 = some (ldA2 Λ S (if 0 < yX Λ then (lvN dwN dvN Λ (s, S0) n).2 else S0) x, m2) ∧ Sc m1 m2 := fun m1 hq1 => by
          have hp : pR Λ S0 m1 = m1 := by rw [← pR_eq hW h3 hE]; exact hq1.2.2.2
          obtain ⟨m2, e, hsc⟩ := r_loadsA (B := B) hdr hq1.2.1 hp hW hW2 h3 hT0 hB hD hs hn1 hn hx2
          rw [eld] at e
          exact ⟨m2, e, hsc⟩
        have c262 : gI M0 26 2 = nI (yX Λ) := hqM.1.2.2.1
        by_cases hX : 0 < yX Λ
        · rw [if_pos hX] at ref
          have hZ0 : pS 59 S0 (zM M0 126) = zM M0 126 := by
            have e := hS0
            refine mm_ext (fun b j => ?_) rfl
            have e1 : (pS 59 S0 M0).1 b j = M0.1 b j := by rw [e]
            simp only [pS, zM] at e1 ⊢
            by_cases hb : b = 126
            · subst hb; simp
            · simp only [hb, if_false, ↓reduceIte]
              exact e1
          have agZ : ∀ b i, hqc b → (zM M0 126).1 b i = m.1 b i := fun b i hb => by
            rw [← agM b i hb]
            simp only [zM]
            rw [if_neg (by omega)]
          have scZ : Sc m (zM M0 126) := fun b i hb => by
            rw [← scM b i hb]
            unfold ns at hb
            simp only [zM]
            rw [if_neg (by omega)]
          have hqZ := Hq_ag agZ h
          have hq0 : ((s, S0) : Nat × Sv).1 < 2147483648 := by show s < _; omega
          have e1 := c_drawn (t := t) (u := u) (w := w) (v := v) (n := n) (qq := (s, S0)) hdr hqZ.1 hW hW2 h3 hX (hD hX) hT0 hq0 (by omega)
          have hWT := lvN_WT (Λ := Λ) (qq := (s, S0)) hdr hW hW2 h3 hX (hD hX) hT0 n
          generalize (lvN dwN dvN Λ (s, S0) n) = q1 at e1 hWT ref
          have e1' : f_X10_performDrawn t u w v (nI n) (sL (zM M0 126) 126 0 (lN s)) = some (pS 59 q1.2 (sL (zM M0 126) 126 0 (lN q1.1))) := by
            have e2 : pS 59 S0 (sL (zM M0 126) 126 0 (lN s)) = sL (zM M0 126) 126 0 (lN s) := by rw [pS_sL, hZ0]
            rw [e2] at e1
            exact e1
          have ag1 : ∀ b i, hqc b → (pS 59 q1.2 (sL (zM M0 126) 126 0 (lN q1.1))).1 b i = m.1 b i := fun b i hb => by
            rw [← agZ b i hb]
            simp only [pS, sL]
            rw [if_neg (by omega), if_neg (by omega), if_neg (by omega), if_neg (by omega)]
          have sc1 : Sc m (pS 59 q1.2 (sL (zM M0 126) 126 0 (lN q1.1))) := fun b i hb => by
            rw [← scZ b i hb]
            unfold ns at hb
            simp only [pS, sL]
            rw [if_neg (by omega), if_neg (by omega), if_neg (by omega), if_neg (by omega)]
          have hq1 := Hq_ag ag1 h
          have e3 := c_loadsE (t := t) (u := u) (w := w) (v := v) (B := B + 80 * n) hq1 (RelC_sL hqZ.1) hW hWT.2.2 (by omega) hx2
          obtain ⟨m2, e4, sc2⟩ := ref _ hq1
          refine ⟨_, _, m2, ?_, e4, Sc_tr sc1 sc2⟩
          unfold f_X10_loads
          rw [if_neg s0, q_l9999, if_neg s1, q_l1, if_neg n1, q_l99, if_neg n2, if_neg (by decide), if_neg x0, q_l2, if_neg x3, hcp, q_bd1, c262, q_l0, if_pos ((q_ltp (by omega) (by omega)).mpr hX)]
          unfold nwM f_X2_init stL
          rw [nI_l (by show s < 2147483648; omega)]
          dsimp only
          rw [q_bd1, e1', q_bd1]
          exact e3
        · rw [if_neg hX] at ref
          rw [← hS0] at hqM
          have e3 := c_loadsE (t := t) (u := u) (w := w) (v := v) (B := B) hqM (by rw [hS0] at hqM; exact hqM.1) hW hT0.2.2 (by omega) hx2
          rw [hS0] at e3 hqM
          obtain ⟨m2, e4, sc2⟩ := ref _ hqM
          refine ⟨_, _, m2, ?_, e4, Sc_tr scM sc2⟩
          unfold f_X10_loads
          rw [if_neg s0, q_l9999, if_neg s1, q_l1, if_neg n1, q_l99, if_neg n2, if_neg (by decide), if_neg x0, q_l2, if_neg x3, hcp, q_bd1, c262, q_l0, if_neg (fun e => hX ((q_ltp (by omega) (by omega)).mp e))]
          exact e3
      · refine ⟨mo, m, th m, ?_, ?_, Sc_th⟩
        · unfold f_X10_loads
          rw [if_neg s0, q_l9999, if_neg s1, q_l1, if_neg n1, q_l99, if_neg n2, if_neg (by decide), q_l2]
          rcases ho with h1 | ⟨j, h1, h2, rfl⟩
          · rw [if_pos h1]; rfl
          · rw [if_neg (nI_pos (n := j) h2), if_pos ((q_ltp (by omega) (by omega)).mpr (by omega))]; rfl
        · unfold f_X11_loads
          rw [q_stI, q_th, q_l0, q_l9999, r_winL (by omega) (by omega), if_pos hs, q_bd2, if_neg n10, q_l1, q_l99]
          have e2 : f_X11_within (nI n) (nI 1) (nI 99) (th m) = some (nI 1, th m) := by
            unfold f_X11_within
            rw [if_neg n1, if_neg n2]; rfl
          rw [e2, q_bd2, if_neg n10, q_l2, r_outL ho (by omega), q_bd2, if_pos rfl, q_nm]
    · have ho := out_99 hn
      have s0 : ¬ nI s < 0 := nI_pos (n := s) (by show s < 2147483648; omega)
      have s1 : ¬ nI 9999 < nI s := fun e => by have := (q_ltp (by omega) (by omega)).mp e; omega
      refine ⟨mo, m, th m, ?_, ?_, Sc_th⟩
      · unfold f_X10_loads
        rw [if_neg s0, q_l9999, if_neg s1, q_l1, q_l99]
        rcases ho with h1 | ⟨h1, h2⟩
        · rw [if_pos h1, if_pos rfl]; rfl
        · rw [if_neg h1, if_pos h2, if_pos rfl]; rfl
      · unfold f_X11_loads
        rw [q_stI, q_th, q_l0, q_l9999, r_winL (by omega) (by omega), if_pos hs, q_bd2, if_neg n10, q_l1, q_l99]
        have e2 : f_X11_within x2 (nI 1) (nI 99) (th m) = some (nI 0, th m) := by
          unfold f_X11_within
          rcases ho with h1 | ⟨h1, h2⟩
          · rw [if_pos h1]; rfl
          · rw [if_neg h1, if_pos h2]; rfl
        rw [e2, q_bd2, if_pos rfl, q_nm]
  · have ho : outN x1 10000 := by
      rcases inN_or x1 10000 with ⟨j, h1, h2, rfl⟩ | h1
      · exact absurd ⟨j, by omega, rfl⟩ hs
      · exact h1
    refine ⟨mo, m, th m, ?_, ?_, Sc_th⟩
    · unfold f_X10_loads
      rw [q_l9999]
      rcases ho with h1 | ⟨j, h1, h2, rfl⟩
      · rw [if_pos h1, if_pos rfl]; rfl
      · rw [if_neg (nI_pos (n := j) h2), if_pos ((q_ltp (by omega) (by omega)).mpr (by omega)), if_pos rfl]; rfl
    · unfold f_X11_loads
      rw [q_stI, q_th, q_l0, q_l9999, r_outL ho (by omega), q_bd2, if_pos rfl]
      rfl
end Ld3
