/-! MATH HALF: the call work -/
section Work
variable {q : Tq} {i j k n t u w v : Nat} {m m2 m3 : Mm} {y : Int32} {Λ : Lv}
theorem a_work (hv : v = 18 ∨ v = 22) (h1 : WL1 Λ) (hC : RelC Λ m) (hR : RelR Λ m) (hT : TC q m) (hT2 : TR q m) (hq : TW q) : ∃ m1 m2, f_X10_work t u w v m = some (nI (wkF q (yX Λ) (yD Λ)), m1) ∧ f_X11_work m1 = some (nI (wkF q (yX Λ) (yD Λ)), m2) ∧ gI m2 1 1 = nI 0 ∧ gI m2 78 1 = nI 0 ∧ (∀ b i, ¬ (b = 1 ∧ 1 ≤ i ∧ i ≤ 6) → ¬ (v ≤ b ∧ b ≤ v + 3) → ¬ (b = 78 ∧ (i ≤ 9 ∨ i = 31)) → ¬ (b = 110 ∧ i = 3) → ¬ (111 ≤ b ∧ b ≤ 113 ∧ 120 ≤ i) → ¬ (wkF q (yX Λ) (yD Λ) = 0 ∧ ((b = 110 ∧ i = 0) ∨ (111 ≤ b ∧ b ≤ 113 ∧ i < 40))) → gI m2 b i = gI m b i) ∧ (wkF q (yX Λ) (yD Λ) = 0 → LinesI Λ v (noN q (yX Λ) (yD Λ)) (fun i => vbN q (paN q i)) (fun i => tkV q (nxT q (paN q i))) m2) := by
  have c260 := hC.1
  have c262 := hC.2.2.1
  obtain ⟨hN, hno⟩ := no_is (q := q) (X := yX Λ) (D := yD Λ)
  -- the class
  have tc : TC q (sI (sI (sI m v 4 (nI 0)) 1 6 (nI 0)) 1 4 (nI 0)) := ⟨by rw [g_ne (by omega), g_ne (by omega), g_ne (by omega)]; exact hT.1, fun i hi => by rw [g_ne (by omega), g_ne (by omega), g_ne (by omega)]; exact hT.2 i hi⟩
  obtain ⟨ma, a1, a2, a3⟩ := c_advP tc hq (Nat.zero_le _) g_eq
  have A3 : ∀ b i, ¬ (b = 1 ∧ 2 ≤ i ∧ i ≤ 5) → gI ma b i = gI (sI (sI (sI m v 4 (nI 0)) 1 6 (nI 0)) 1 4 (nI 0)) b i := fun b i h => a3.2 b i h
  have ga : ∀ b i, ¬ (b = 1 ∧ 2 ≤ i ∧ i ≤ 6) → ¬ (b = v ∧ i = 4) → gI ma b i = gI m b i := fun b i k1 k2 => (A3 b i (by omega)).trans (by rw [g_ne (by omega), g_ne (by omega), g_ne (by omega)])
  have z6 : gI ma 1 6 = 0 := (A3 1 6 (by omega)).trans (by rw [g_ne (by omega), g_eq]; rfl)
  have z4 : gI ma v 4 = nI 0 := (A3 v 4 (by omega)).trans (by rw [g_ne (by omega), g_ne (by omega), g_eq])
  obtain ⟨mb, b1, b2, b3⟩ := c_fillL (X := yX Λ) (D := yD Λ) hv a2 hq z6 z4
  have gb : ∀ b i, ¬ (b = 1 ∧ 1 ≤ i ∧ i ≤ 6) → ¬ (v ≤ b ∧ b ≤ v + 3) → gI (sI mb 1 1 (nI 0)) b i = gI m b i := fun b i k1 k2 => by
    rw [g_ne (by omega)]
    exact (show gI mb b i = _ from b2.2 b i (by omega) (by omega)).trans (ga b i (by omega) (by omega))
  have cls : f_X10_work t u w v m = some (nI (wkF q (yX Λ) (yD Λ)), sI mb 1 1 (nI 0)) := by
    unfold f_X10_work f_X9_fill f_X7_rewind
    rw [c260, c262, q_l0, q_stI, q_stI, q_stI, a1, q_bd1, q_bd1, b1, q_bd2, q_stI]
    by_cases hz : wkF q (yX Λ) (yD Λ) = 0
    · rw [hz, if_pos rfl]
    · split
      · rename_i e
        rw [e]
      · rfl
  -- the reference
  generalize hmc : sI mb 1 1 (nI 0) = mc at gb cls
  have g11 : gI mc 1 1 = nI 0 := by rw [← hmc]; exact g_eq
  have gL1 : wkF q (yX Λ) (yD Λ) = 0 → gI mc v 4 = nI (noN q (yX Λ) (yD Λ)) ∧ stW q v (noN q (yX Λ) (yD Λ)) mc := fun hz => by
    obtain ⟨c1, c2⟩ := b3 hz
    rw [← hmc]
    refine ⟨by rw [g_ne (by omega)]; exact c1, fun i hi => ?_⟩
    rw [g_ne (by omega), g_ne (by omega), g_ne (by omega)]
    exact c2 i hi
  have g781 : gI (sI (th mc) 110 3 (nI 0)) 78 1 = nI q.1 := by
    rw [g_ne (by omega)]
    have e : gI (th mc) 78 1 = gI mc 78 1 := g_ne (by omega)
    rw [e, gb 78 1 (by omega) (by omega)]
    exact hT2.1
  have gd' : ∀ b i, ¬ (b = 78 ∧ i ≤ 4) → ¬ (b = 110 ∧ i = 3) → gI (sI (sI (sI (sI (th mc) 110 3 (nI 0)) 78 3 (nI q.1)) 78 1 (nI 0)) 78 4 (nI 0)) b i = gI mc b i := fun b i k1 k2 => by
    rw [g_ne (by omega), g_ne (by omega), g_ne (by omega), g_ne (by omega)]
    exact g_ne (by omega)
  have tr : TRn q (sI (sI (sI (sI (th mc) 110 3 (nI 0)) 78 3 (nI q.1)) 78 1 (nI 0)) 78 4 (nI 0)) := ⟨by rw [g_ne (by omega), g_ne (by omega), g_eq], fun i hi => by
    rw [gd' 79 i (by omega) (by omega), gb 79 i (by omega) (by omega)]
    exact hT2.2 i hi⟩
  obtain ⟨md, d1, d2, d3⟩ := r_nextP tr hq (Nat.zero_le _) g_eq
  have D3 : ∀ b i, ¬ (b = 78 ∧ (i = 4 ∨ i = 5 ∨ i = 6 ∨ i = 8)) → gI md b i = gI (sI (sI (sI (sI (th mc) 110 3 (nI 0)) 78 3 (nI q.1)) 78 1 (nI 0)) 78 4 (nI 0)) b i := fun b i h => d3.2 b i h
  have gdd : ∀ b i, ¬ (b = 78 ∧ (i ≤ 6 ∨ i = 8)) → ¬ (b = 110 ∧ i = 3) → gI md b i = gI mc b i := fun b i k1 k2 => (D3 b i (by omega)).trans (gd' b i (by omega) k2)
  have e1 : gI md 78 1 = nI 0 := (D3 78 1 (by omega)).trans (by rw [g_ne (by omega), g_eq])
  have e3 : gI md 110 3 = nI 0 := (D3 110 3 (by omega)).trans (by rw [g_ne (by omega), g_ne (by omega), g_ne (by omega), g_eq])
  have eX : gI md 108 0 = nI (yX Λ) := by rw [gdd _ _ (by omega) (by omega), gb _ _ (by omega) (by omega)]; exact hR.2.2.1
  have eD : gI md 80 0 = nI (yD Λ) := by rw [gdd _ _ (by omega) (by omega), gb _ _ (by omega) (by omega)]; exact hR.1
  obtain ⟨mf, f1, f2, f3⟩ := r_workL d2 hq e3 eX eD
  have gf : ∀ b i, ¬ (b = 1 ∧ 1 ≤ i ∧ i ≤ 6) → ¬ (v ≤ b ∧ b ≤ v + 3) → ¬ (b = 78 ∧ (i ≤ 9 ∨ i = 31)) → ¬ (b = 110 ∧ i = 3) → ¬ (111 ≤ b ∧ b ≤ 113 ∧ 120 ≤ i) → gI mf b i = gI m b i := fun b i k1 k2 k3 k4 k5 => (show gI mf b i = _ from f1.2 b i (by omega) k4 k5).trans ((gdd b i (by omega) k4).trans (gb b i k1 k2))
  have gf2 : ∀ b i, b ≤ 25 → gI mf b i = gI mc b i := fun b i hb => (show gI mf b i = _ from f1.2 b i (by omega) (by omega) (by omega)).trans (gdd b i (by omega) (by omega))
  have f781 : gI mf 78 1 = nI 0 := (show gI mf 78 1 = _ from f1.2 78 1 (by omega) (by omega) (by omega)).trans e1
  have ref : f_X11_work mc = f_X11_work_L16 FU md := by
    unfold f_X11_work f_X11_begins
    rw [q_stI, q_th, show ix (3 : Int32) = 3 from rfl, q_l0, q_stI, g781, q_stI, q_stI, q_stI, d1, q_bd1, q_bd1]
  by_cases hz : wkF q (yX Λ) (yD Λ) = 0
  · obtain ⟨p1, p2, p3⟩ := f2 hz
    obtain ⟨l1, l2⟩ := gL1 hz
    have gl : ∀ b i, ¬ (b = 110 ∧ i = 0) → ¬ (111 ≤ b ∧ b ≤ 113 ∧ i < 40) → gI (llM 40 mf) b i = gI mf b i := fun b i k1 k2 => by
      simp only [gI, llM]
      rw [if_neg k1, if_neg k2]
    have gl2 : ∀ b i, 111 ≤ b → b ≤ 113 → i < 40 → gI (llM 40 mf) b i = gI mf b (120 + i) := fun b i k1 k2 k3 => by
      simp only [gI, llM]
      rw [if_neg (by omega), if_pos (by omega)]
    refine ⟨mc, llM 40 mf, cls, ?_, ?_, ?_, fun b i k1 k2 k3 k4 k5 k6 => ?_, fun _ => ⟨hN, ?_, ?_, fun i hi => ?_⟩⟩
    · rw [ref, p1, r_lays, q_bd1, hz]
      rfl
    · rw [gl _ _ (by omega) (by omega), gf2 _ _ (by omega)]; exact g11
    · rw [gl _ _ (by omega) (by omega)]; exact f781
    · rw [gl _ _ (by omega) (by omega)]
      exact gf b i k1 k2 k3 k4 k5
    · rw [gl _ _ (by omega) (by omega), gf2 _ _ (by omega)]; exact l1
    · have e : gI (llM 40 mf) 110 0 = gI mf 110 3 := by
        simp [gI, llM]
      rw [e]; exact p2
    · obtain ⟨s1, s2, s3⟩ := l2 i hi
      obtain ⟨r1, r2, r3⟩ := p3 i hi
      refine ⟨okl_L h1 (no_ok hi), ?_, ?_, ?_, ?_, fun hh => ?_⟩
      · rw [gl _ _ (by omega) (by omega), gf2 _ _ (by omega)]; exact s1
      · rw [gl2 _ _ (by omega) (by omega) (by omega)]; exact r1
      · rw [gl _ _ (by omega) (by omega), gf2 _ _ (by omega)]; exact s2
      · rw [gl2 _ _ (by omega) (by omega) (by omega)]; exact r2
      · rw [gl _ _ (by omega) (by omega), gf2 _ _ (by omega), gl2 _ _ (by omega) (by omega) (by omega), s3 hh, r3 hh]
  · refine ⟨mc, mf, cls, by rw [ref, f3 hz], by rw [gf2 _ _ (by omega)]; exact g11, f781, fun b i k1 k2 k3 k4 k5 _ => gf b i k1 k2 k3 k4 k5, fun h => absurd h hz⟩
end Work
