/-! MATH HALF: lines of an array, parity -/
section Told2
variable {q : Tq} {a b c d e i j k n s u x sp D : Nat} {m m2 m3 mc mr : Mm} {y z v : Int32} {p f : List Int32} {T : Lv} {lo hi : Int32}
theorem frT_q {c d e : Nat} (h1 : frT m m2) (h2 : frQ c d e m2 m3) : frT m m3 := ⟨fun b i k => (h2.1 b i k).trans (h1.1 b i k), fun b i k1 k2 k3 k4 k5 k6 k7 => (h2.2 b i (by omega) (by omega) (by omega) (by omega)).trans (h1.2 b i k1 k2 k3 k4 k5 k6 k7)⟩
theorem frU_c {n : Nat} (h1 : frU u m m2) (h2 : frC u n m2 m3) : frU u m m3 := ⟨h2.1.trans h1.1, fun b i k1 k2 => (h2.2 b i k1 (by omega) (by omega)).trans (h1.2 b i k1 k2)⟩
theorem ln_parity (hq : TW q) (hu : u = 3 ∨ u = 10) (hC0 : tkC q a ≠ 0) (h : ArS q u T sp p f a mc mr) : LnF u mc mr (f_X0_parityLine u mc) (f_X11_readsParity mr) ∨ LnS q u a mc mr (f_X0_parityLine u mc) (f_X11_readsParity mr) := by
  obtain ⟨ha, ⟨hc, h0⟩, hr, hTC, hTR, hLC, hLR, ⟨hW, hS, hP, hsp⟩, hG, hp, hf⟩ := h
  have hq1 := hq.1
  have i1 : ix (1 : Int32) = 1 := rfl
  have i0 : ix (0 : Int32) = 0 := rfl
  obtain ⟨L1, L2⟩ := hLC
  obtain ⟨M1, M2, M3, M4⟩ := hLR
  unfold f_X0_parityLine f_X11_readsParity
  rw [i1, L1, M1, M2]
  rcases hG with ⟨rfl, rfl⟩ | ⟨hG, hp0, hf0⟩
  · rw [if_pos (by rfl), if_neg (by decide)]
    obtain ⟨mc1, c1, c2, c3⟩ := c_adv2 hc hq ha
    obtain ⟨mr1, r1, r2, r3⟩ := r_next2 hr hq ha
    have a1 := nxT_le ha
    have l1 := nxT_lt hC0
    have hCS : CSt q (nxT q a) u 0 mc1 := ⟨c2, (mc_g c3 (by omega)).trans h0, (mc_g c3 (by omega)).trans L1⟩
    have g17 : gI mr1 78 17 = nI 1000 := (mv_g r3 (by omega)).trans M3
    have hRS : RSt q (nxT q a) 0 (sI (sI mr1 84 1 (nI 1000)) 88 0 (0 : Int32)) := ⟨RTk_s (RTk_s r2 (by omega)) (by omega), by rw [g_ne (by omega), g_ne (by omega)]; exact g17⟩
    have f2 : frT mr (sI (sI mr1 84 1 (nI 1000)) 88 0 (0 : Int32)) := frT_s (frT_s (frT_m frT_r r3) (by omega)) (by omega)
    have g841 : gI (sI (sI mr1 84 1 (nI 1000)) 88 0 (0 : Int32)) 84 1 = nI 1000 := by rw [g_ne (by omega), g_eq]
    have gr2 : ∀ b i, ¬ (b = 78 ∧ (i = 4 ∨ i = 5 ∨ i = 6 ∨ i = 8)) → ¬ (b = 84 ∧ i = 1) → b ≠ 88 → gI (sI (sI mr1 84 1 (nI 1000)) 88 0 (0 : Int32)) b i = gI mr b i := fun b i k1 k2 k3 => by rw [g_ne (by omega), g_ne (by omega), mv_g r3 (by omega)]
    have hO := chain0 64 (by omega) q (nxT q a) u 0 0 mc1 (sI (sI mr1 84 1 (nI 1000)) 88 0 (0 : Int32)) hu hq a1 hCS (by omega) hRS (by omega) ⟨Nat.le_refl _, fun i k1 k2 => absurd k1 (by omega), Or.inl rfl⟩ (fun _ => g_eq)
    have eR : f_X11_reads (sI mr1 84 1 (nI 1000)) = f_X11_reads_L11 FU (nI 0) (1 : Int32) (sI (sI mr1 84 1 (nI 1000)) 88 0 (0 : Int32)) := by
      unfold f_X11_reads
      rw [q_stI]
      rfl
    have eC : f_X0_chain_r u (0 : Int32) (0 : Int32) mc1 = (fr_X0_chain_X0_part u 64).1 (nI 0) (nI 0) mc1 := rfl
    rw [c1, q_bd1, r1, q_bd1, q_stI, g17, eR, eC]
    generalize sI (sI mr1 84 1 (nI 1000)) 88 0 (0 : Int32) = mr2 at hRS f2 g841 gr2 hO
    generalize (fr_X0_chain_X0_part u 64).1 (nI 0) (nI 0) mc1 = oc at hO
    have hfu : 1002 ≤ FU + nxT q a := by show 1002 ≤ 4096 + _; omega
    rcases hO with ⟨F, mc2, mr3, n2, b1, b2, b3, b4, b5, b6, b7, b8, b9, b10, b11⟩ | ⟨p2, q2, a3, mc3, mr3, hA, hB⟩
    · left
      have e := b11 FU hfu
      rw [b3, q_bd1, bd1_id, q_l59, c_passNo (F_nz b1 b2 b4), show f_X11_reads_L11 FU (nI 0) (1 : Int32) mr2 = _ from e, q_bd2, if_pos (by rfl)]
      exact ⟨F, mc2, mr3, b1, b2, rfl, b4, frU_c (frU_m frU_r c3) b8, rfl, b9, frT_q f2 b10⟩
    · obtain ⟨A0, A1, A2, A3, A4, A5, A6, A7, A8, A9, A10, A11, A12, A13, A14⟩ := hA
      obtain ⟨E1, E2, E3, E4⟩ := A13
      obtain ⟨k2, e1, e2⟩ := A14 FU hfu
      rw [hB, q_bd1, bd1_id, q_l59, show f_X11_reads_L11 FU (nI 0) (1 : Int32) mr2 = _ from e2]
      by_cases h59 : siP q a3 59
      · right
        obtain ⟨mc4, d1, d2, d3⟩ := c_pass A7.1 hq A6 A7.2.1 (by omega) h59
        obtain ⟨mr4, t1, t2, t3⟩ := rx_end A10 hq A6 h59
        have l3 := nxT_lt (q := q) (a := a3) (by rw [h59.1]; decide)
        have g4 : gI mr4 78 17 = nI (1000 + q2.length) := by
          rw [mv_g t3 (by omega), A10.2, Nat.zero_add]
        obtain ⟨k3, rfl⟩ : ∃ x, k2 = x + 1 := ⟨k2 - 1, by omega⟩
        rw [d1, t1 k3, q_bd2, if_neg (by decide), q_stI, g4]
        have gc : ∀ b i, ¬ (b = 1 ∧ 2 ≤ i ∧ i ≤ 6) → ¬ (b = u + 4 ∧ i = 1) → ¬ (b = u + 5) → gI mc4 b i = gI mc b i := fun b i k1 k2 k3 => by
          rw [mc_g d3 (by omega), frC_g A9 (by omega) (by omega) (by omega), mc_g c3 (by omega)]
        have gr : ∀ b i, ¬ (b = 78 ∧ (i = 4 ∨ i = 5 ∨ i = 6 ∨ i = 8 ∨ i = 9 ∨ i = 17)) → ¬ (b = 86 ∧ 1000 ≤ i) → ¬ ((b = 84 ∨ b = 85) ∧ i = 1) → ¬ (b = 87 ∨ b = 88) → gI (sI mr4 85 1 (nI (1000 + q2.length))) b i = gI mr b i := fun b i k1 k2 k3 k4 => by
          rw [g_ne (by omega), mv_g t3 (by omega), frQ_g A12 (by omega) (by omega) (by omega) (by omega), gr2 _ _ (by omega) (by omega) (by omega)]
        refine ⟨T, sp, p2, q2, nxT q a3, mc4, sI mr4 85 1 (nI (1000 + q2.length)), by omega, rfl, rfl, ⟨nxT_le A6, ⟨d2, (mc_g d3 (by omega)).trans A7.2.1⟩, RTk_s t2 (by omega), TdC_g hTC (fun b i k1 k2 => gc _ _ (by omega) (by omega) (by omega)), TdR_g hTR (fun b i hb => gr _ _ (by omega) (by omega) (by omega) (by omega)), ⟨?_, Seg_fr A8 (fun i _ _ => mc_g d3 (by omega))⟩, ⟨?_, g_eq, ?_, ?_⟩, ⟨hW, hS, hP, hsp⟩, Or.inr ⟨A1, A2, A3⟩, by omega, by omega⟩, frU_m (frU_c (frU_m frU_r c3) A9) d3, frT_s (frT_m (frT_q f2 A12) t3) (by omega)⟩
        · rw [mc_g d3 (by omega), A7.2.2, Nat.zero_add]
        · rw [g_ne (by omega), mv_g t3 (by omega), frQ_g A12 (by omega) (by omega) (by omega) (by omega)]; exact g841
        · rw [g_ne (by omega)]; exact g4
        · exact Seg_fr A11 (fun i _ _ => by rw [g_ne (by omega), mv_g t3 (by omega)])
      · left
        have hnJ : noJ q a3 0 mr3 := ⟨(E2 (by omega)).1, (E2 (by omega)).2, E1 (by omega), E3 (by omega), (E4 rfl).1, (E4 rfl).2⟩
        obtain ⟨k3, rfl⟩ : ∃ x, k2 = x + 1 := ⟨k2 - 1, by omega⟩
        rw [c_passBad A7.1 hq A6 A7.2.1 (by omega) h59, rt_bad A10 hq A6 (by omega) hnJ (fun e => absurd e (by omega)) (fun _ => h59), q_bd2, if_pos (by rfl)]
        exact ⟨1 + 16 * a3, _, _, by omega, by omega, rfl, g_eq, frU_s (frU_c (frU_m frU_r c3) A9) (by omega), rfl, g_eq, frT_s (frT_q f2 A12) (by omega)⟩
  · left
    rw [if_neg (show ¬ nI p.length = (0 : Int32) from fun e => absurd ((q_eq (b := 0) (by omega) (by omega)).mp e) (by omega)), if_pos ((q_ltp (by omega) (by omega)).mpr (by omega)), bd1_id, q_l3, fails_gd hr]
    exact ln_now hq ha hc h0 hr (by omega) (by omega) frU_r frT_r
end Told2
