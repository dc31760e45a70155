/-! MATH HALF: reading an expression, its parts -/
/-- the code of the leaf in hand -/
def cdI (q : Tq) (a : Nat) : Int32 := if tkC q a = 3 then nI (tkV q a) else lcI (lfq q a)
section PartT
variable {q : Tq} {a a1 b c d d0 e i j k n p s u x r lev : Nat} {m m2 m3 mc mc1 mc2 mc3 mr mr1 mr2 mr3 : Mm} {y z g v : Int32} {f f2 p1 p2 : List Int32} {R : Rn} {G : List Int32 → List Int32 → Prop} {E : Nat → Mm → Prop} {oc : Option Mm} {Fc : Int32 → Int32 → Mm → Option Mm} {Fp : Int32 → Mm → Option Mm}
theorem cd_no : cdI q a = (-1 : Int32) ↔ (¬ tkC q a = 3 ∧ lfq q a = 0) := by
  have hv := tkV_lt (q := q) (a := a)
  unfold cdI
  by_cases k3 : tkC q a = 3
  · rw [if_pos k3]
    constructor
    · intro e
      have e2 : nI (tkV q a) = mo := e
      rw [q_moe (by omega)] at e2
      exact absurd e2 id
    · intro e; exact absurd k3 e.1
  · rw [if_neg k3]
    constructor
    · intro e
      refine ⟨k3, ?_⟩
      by_cases h : lfq q a = 0
      · exact h
      · exact absurd e (lc_ne h lq_le)
    · intro e
      rw [e.2]; rfl
theorem c_part (h : CSt q a u n m) (hq : TW q) (ha : a ≤ q.1) (hb : bgP q a) : f_X0_part u Fc Fp (nI r) m = f_X0_part_J58 u Fc Fp (nI r) (cdI q a) (nI (if woP q a 2010 then 1 else 0)) m := by
  have w0 : f_X7_isWord 1010 m = _ := c_word (p := 10) h.1 hq ha (by omega)
  have s4 : f_X7_isSign 40 m = _ := c_sign (s := 40) h.1 hq ha (by omega)
  unfold f_X0_part
  rw [if_pos h.2.1, c_leaf h.1 hq ha, q_bd2, w0, q_bd2]
  show (if cdI q a = (-1 : Int32) then _ else _) = _
  by_cases hc : cdI q a = (-1 : Int32)
  · rw [if_pos hc]
    by_cases hw : woP q a 2010
    · rw [if_neg (fun e => b01.mp e hw)]; rfl
    · rw [if_pos (b01.mpr hw), s4, q_bd2]
      have ho : siP q a 40 := by
        obtain ⟨c1, c2⟩ := cd_no.mp hc
        rcases hb with h4 | h4 | h4 | h4
        · exact absurd h4 c1
        · exact absurd c2 h4
        · exact absurd h4 hw
        · exact h4
      rw [if_neg (fun e => b01.mp e ho)]; rfl
  · rw [if_neg hc]; rfl
theorem c_partNo (h : CSt q a u n m) (hq : TW q) (ha : a ≤ q.1) (hb : ¬ bgP q a) : f_X0_part u Fc Fp (nI r) m = some (sI m 1 6 (nI (1 + 16 * a))) := by
  have w0 : f_X7_isWord 1010 m = _ := c_word (p := 10) h.1 hq ha (by omega)
  have s4 : f_X7_isSign 40 m = _ := c_sign (s := 40) h.1 hq ha (by omega)
  have hc : cdI q a = (-1 : Int32) := cd_no.mpr ⟨fun e => hb (Or.inl e), Classical.not_not.mp (fun e => hb (Or.inr (Or.inl e)))⟩
  have hw : ¬ woP q a 2010 := fun e => hb (Or.inr (Or.inr (Or.inl e)))
  have ho : ¬ siP q a 40 := fun e => hb (Or.inr (Or.inr (Or.inr e)))
  unfold f_X0_part
  rw [if_pos h.2.1, c_leaf h.1 hq ha, q_bd2, w0, q_bd2]
  show (if cdI q a = (-1 : Int32) then _ else _) = _
  rw [if_pos hc, if_pos (b01.mpr hw), s4, q_bd2, if_pos (b01.mpr ho), q_l1, c_fail h.1 h.2.1, q_bd1]
/-- a fault here -/
theorem out_f {v1 : Nat} (hu : u = 3 ∨ u = 10) (h : CSt q a u n mc) (hq : TW q) (ha : a ≤ q.1) (hn : n ≤ 1000) (h1 : 1 ≤ v1) (h2 : v1 ≤ 5) (h3 : ∀ k, 1002 ≤ k + a → R k = some (nI 0, sI mr 78 9 (nI (v1 + 16 * a)))) : OutF u n c d e a mc mr R (some (sI mc 1 6 (nI (v1 + 16 * a)))) := by
  have hq1 := hq.1
  refine ⟨v1 + 16 * a, _, _, n, by omega, by omega, rfl, g_eq, ?_, Nat.le_refl _, hn, frC_s frC_r (by omega), g_eq, frQ_s frQ_r (by omega), h3⟩
  rw [g_ne (by omega)]
  exact h.2.2
theorem part5 : PartOk 5 := by
  intro k hk q a u n c d0 mc mr hu hq ha hC hn hR hc hU
  obtain ⟨k', rfl⟩ : ∃ x, k = x + 1 := ⟨k - 1, by omega⟩
  have hq1 := hq.1
  rw [fr_2]
  left
  by_cases hb : bgP q a
  · rw [c_part hC hq ha hb]
    unfold f_X0_part_J58
    rw [if_neg (by decide), q_l5, c_fail hC.1 hC.2.1, q_bd1]
    exact out_f hu hC hq ha (by omega) (by omega) (by omega) (fun k hk => Rk (P := fun k => f_X11_reads_L11 k (nI 5) (1 : Int32) mr = _) (a := a) (by omega) hk (fun j _ _ => rt_w5 hR.1 hq ha hb))
  · rw [c_partNo hC hq ha hb]
    exact out_f hu hC hq ha (by omega) (by omega) (by omega) (fun k hk => Rk (P := fun k => f_X11_reads_L11 k (nI 5) (1 : Int32) mr = _) (a := a) (by omega) hk (fun j _ _ => rt_wno hR.1 hq ha hb))
theorem bg_C (h : bgP q a) : tkC q a ≠ 0 := by
  rcases h with h | h | h | h
  · rw [h]; decide
  · rw [lq_C h]; decide
  · rw [h.1]; decide
  · rw [h.1]; decide
theorem partS (hr : r ≤ 4) (hP : PartOk (r + 1)) (hCh : ChainOk 0 (r + 1)) : PartOk r := by
  intro k hk q a u n c d0 mc mr hu hq ha hC hn hR hc hU
  obtain ⟨k', rfl⟩ : ∃ x, k = x + 1 := ⟨k - 1, by omega⟩
  have hq1 := hq.1
  have h0 := hU.1
  rw [fr_2]
  by_cases hb : bgP q a
  · have hin := tkC_in (bg_C hb)
    have hnx := nxT_lt (bg_C hb)
    have hnl := nxT_le ha
    have r5 : nI r < (5 : Int32) := (q_ltp (b := 5) (by omega) (by omega)).mpr (by omega)
    rw [c_part hC hq ha hb]
    unfold f_X0_part_J58
    rw [if_pos r5]
    obtain ⟨mc2, v1, v2, v3⟩ := cs_adv hu hC hq ha
    by_cases hw : woP q a 2010
    · -- not
      obtain ⟨mr2, s1, s2, s3, s4, s5, s6⟩ := rt_open (d := r) (y := 30) (z := 1) hR hq ha (by omega) (by omega) (Or.inl ⟨hw, rfl, rfl⟩)
      have hU2 : UwN 87 mr2 (r + 1) d0 := ⟨by omega, fun i k1 k2 => by
        by_cases e : i = r + 1
        · rw [e]; exact s4
        · rw [frQ_g s6 (by omega) (by omega) (by omega) (by omega)]
          exact hU.2.1 i k1 (by omega), hU.2.2.imp id (fun k e => k ((frQ_g s6 (by omega) (by omega) (by omega) (by omega)).symm.trans e))⟩
      have hin2 := hP k' (by omega) q (nxT q a) u n (c + 1) d0 mc2 mr2 hu hq hnl v2 (by omega) s2 (by omega) hU2
      rw [if_neg (fun e => b01.mp e hw), v1, q_bd1, show nI r + (1 : Int32) = nI (r + 1) from by rw [q_l1, nI_add]]
      rcases hin2 with hF | ⟨p2, f2, a3, mc3, mr3, hB, hB2⟩
      · left
        obtain ⟨F, mc4, mr4, n4, b1, b2, b3, b4, b5, b6, b7, b8, b9, b10, b11⟩ := hF
        obtain ⟨mc5, n5, d1, d2, d3, d4, d5, d6⟩ := x_addF (y := -6) hu b5 b7
        refine ⟨F, mc5, mr4, n5, b1, b2, by rw [b3, q_bd1, d1, q_bd1], d5.trans b4, d2, by omega, d4, frC_t (frC_m frC_r v3) (frC_t b8 (frC_le d6 (by omega))), b9, frQ_t s6 (frQ_le b10 (by omega) (by omega) (by omega)), fun k hk => ?_⟩
        refine Rk (P := fun k2 => f_X11_reads_L11 k2 (nI r) (1 : Int32) mr = some (nI 0, mr4)) (a := a) (by omega) hk (fun j _ hj => ?_)
        rw [s1 j]
        exact b11 j (by omega)
      · right
        obtain ⟨B0, B1, B2, B3, B4, B5, B6, B7, B8, B9, B10, B11, B12, B13, B14⟩ := hB
        obtain ⟨mc5, d1, d2, d3, d4, d5⟩ := cs_add (y := -6) hu B7 (by omega)
        have lp : (p2 ++ [(-6 : Int32)]).length = p2.length + 1 := by simp
        have lf : ([(30 : Int32)] ++ f2).length = f2.length + 1 := by simp
        refine ⟨p2 ++ [-6], [30] ++ f2, a3, mc5, mr3, ⟨hr, g4_not B0 B1, by omega, by omega, by omega, by omega, B6, ?_, Seg_app.mpr ⟨Seg_fr B8 (fun i _ _ => d4 i (by omega)), d3, trivial⟩, frC_t (frC_m frC_r v3) (frC_t B9 (frC_le d5 (by omega))), ?_, ⟨?_, ?_⟩, frQ_t s6 (frQ_le B12 (by omega) (by omega) (by omega)), trivial, fun k hk => ?_⟩, by rw [hB2, q_bd1, d1, q_bd1]⟩
        · rw [lp, ← Nat.add_assoc]; exact d2
        · rw [lf, show c + (f2.length + 1) = c + 1 + f2.length from by omega]; exact B10
        · rw [frQ_g B12 (by omega) (by omega) (by omega) (by omega)]; exact s3
        · rw [show 1000 + c + 1 = 1000 + (c + 1) from by omega]; exact B11
        · refine Rk (P := fun k2 => ∃ k3, 1002 ≤ k3 + a3 ∧ f_X11_reads_L11 k2 (nI r) (1 : Int32) mr = f_X11_reads_L11 k3 (nI d0) (0 : Int32) mr3) (a := a) (by omega) hk (fun j _ hj => ?_)
          obtain ⟨k4, e1, e2⟩ := B14 j (by omega)
          exact ⟨k4, e1, by rw [s1 j]; exact e2⟩
    · rw [if_pos (b01.mpr hw)]
      by_cases hc1 : cdI q a = (-1 : Int32)
      · -- (
        have ho : siP q a 40 := by
          obtain ⟨c1, c2⟩ := cd_no.mp hc1
          rcases hb with h4 | h4 | h4 | h4
          · exact absurd h4 c1
          · exact absurd c2 h4
          · exact absurd h4 hw
          · exact h4
        obtain ⟨mr2, s1, s2, s3, s4, s5, s6⟩ := rt_open (d := r) (y := 28) (z := 2) hR hq ha (by omega) (by omega) (Or.inr ⟨hw, ho, rfl, rfl⟩)
        have hU2 : UwN 87 mr2 (r + 1) (r + 1) := ⟨Nat.le_refl _, fun i k1 k2 => absurd k1 (by omega), Or.inr (fun e => absurd (s4.symm.trans e) (by decide))⟩
        have hin2 := hCh k' (by omega) q (nxT q a) u n (c + 1) mc2 mr2 hu hq hnl v2 (by omega) s2 (by omega) hU2 (fun _ => s5)
        rw [if_pos hc1, v1, q_bd1, show nI r + (1 : Int32) = nI (r + 1) from by rw [q_l1, nI_add], show (0 : Int32) = nI 0 from rfl, show (41 : Int32) = nI 41 from rfl]
        have e0 : eL 0 (r + 1) = r + 1 := rfl
        rw [e0] at hin2
        rcases hin2 with hF | ⟨p2, f2, a3, mc3, mr3, hB, hB2⟩
        · left
          obtain ⟨F, mc4, mr4, n4, b1, b2, b3, b4, b5, b6, b7, b8, b9, b10, b11⟩ := hF
          refine ⟨F, mc4, mr4, n4, b1, b2, by rw [b3, q_bd1, c_passNo (F_nz b1 b2 b4), q_bd1], b4, b5, b6, b7, frC_t (frC_m frC_r v3) b8, b9, frQ_t s6 (frQ_le b10 (by omega) (by omega) (by omega)), fun k hk => ?_⟩
          refine Rk (P := fun k2 => f_X11_reads_L11 k2 (nI r) (1 : Int32) mr = some (nI 0, mr4)) (a := a) (by omega) hk (fun j _ hj => ?_)
          rw [s1 j]
          exact b11 j (by omega)
        · obtain ⟨B0, B1, B2, B3, B4, B5, B6, B7, B8, B9, B10, B11, B12, B13, B14⟩ := hB
          obtain ⟨E1, E2, E3, E4⟩ := B13
          by_cases h41 : siP q a3 41
          · right
            have hin3 := tkC_in (q := q) (a := a3) (by rw [h41.1]; decide)
            have hnx3 := nxT_lt (q := q) (a := a3) (by rw [h41.1]; decide)
            have hnl3 := nxT_le B6
            have hU3 : UwN 87 mr3 r d0 := ⟨h0, fun i k1 k2 => by rw [frQ_g B12 (by omega) (by omega) (by omega) (by omega), frQ_g s6 (by omega) (by omega) (by omega) (by omega)]; exact hU.2.1 i k1 k2, hU.2.2.imp id (fun k e => k (by rw [frQ_g B12 (by omega) (by omega) (by omega) (by omega), frQ_g s6 (by omega) (by omega) (by omega) (by omega)] at e; exact e))⟩
            obtain ⟨mr4, t1, t2, t3, t4⟩ := rt_shut (d := r) B10 hq B6 (by omega) (by omega) hU3 h41
            obtain ⟨mc4, j1, j2, j3⟩ := c_pass B7.1 hq B6 B7.2.1 (by omega) h41
            have lf : ([(28 : Int32)] ++ (f2 ++ [29])).length = f2.length + 2 := by simp
            refine ⟨p2, [28] ++ (f2 ++ [29]), nxT q a3, mc4, mr4, ⟨hr, g4_par B0 B1, B2, by omega, by omega, by omega, hnl3, ⟨j2, (mc_g j3 (by omega)).trans B7.2.1, (mc_g j3 (by omega)).trans B7.2.2⟩, Seg_fr B8 (fun i _ _ => mc_g j3 (by omega)), frC_m (frC_t (frC_m frC_r v3) B9) j3, ?_, ⟨?_, ?_⟩, frQ_t s6 (frQ_t (frQ_le B12 (by omega) (by omega) (by omega)) (frQ_le (t4 r) (by omega) (by omega) (by omega))), trivial, fun k hk => ?_⟩, by rw [hB2, q_bd1, j1, q_bd1]⟩
            · rw [lf, show c + (f2.length + 2) = c + 1 + f2.length + 1 from by omega]; exact t2
            · rw [frQ_g (t4 r) (by omega) (by omega) (by omega) (by omega), frQ_g B12 (by omega) (by omega) (by omega) (by omega)]; exact s3
            · show Seg 86 (1000 + c + 1) (f2 ++ [29]) mr4
              rw [show 1000 + c + 1 = 1000 + (c + 1) from by omega]
              refine Seg_app.mpr ⟨Seg_fr B11 (fun i k1 k2 => frQ_g (t4 r) (by omega) (by omega) (by omega) (by omega)), ?_, trivial⟩
              rw [Nat.add_assoc]; exact t3
            · refine Rk (P := fun k2 => ∃ k3, 1002 ≤ k3 + nxT q a3 ∧ f_X11_reads_L11 k2 (nI r) (1 : Int32) mr = f_X11_reads_L11 k3 (nI d0) (0 : Int32) mr4) (a := a) (by omega) hk (fun j _ hj => ?_)
              obtain ⟨k4, e1, e2⟩ := B14 j (by omega)
              rw [s1 j]
              rw [show f_X11_reads_L11 j (nI (r + 1)) (1 : Int32) mr2 = _ from e2]
              refine Rk (P := fun k2 => ∃ k3, 1002 ≤ k3 + nxT q a3 ∧ f_X11_reads_L11 k2 (nI (r + 1)) (0 : Int32) mr3 = f_X11_reads_L11 k3 (nI d0) (0 : Int32) mr4) (a := a3) (by omega) e1 (fun j2 _ hj2 => ?_)
              exact ⟨j2, by omega, t1 j2⟩
          · left
            have hnJ : noJ q a3 (r + 1) mr3 := ⟨(E2 (by omega)).1, (E2 (by omega)).2, E1 (by omega), E3 (by omega), (E4 rfl).1, (E4 rfl).2⟩
            rw [hB2, q_bd1, c_passBad B7.1 hq B6 B7.2.1 (by omega) h41, q_bd1]
            refine ⟨1 + 16 * a3, _, sI mr3 78 9 (nI (1 + 16 * a3)), n + p2.length, by omega, by omega, rfl, g_eq, ?_, by omega, by omega, frC_s (frC_t (frC_m frC_r v3) B9) (by omega), g_eq, frQ_s (frQ_t s6 (frQ_le B12 (by omega) (by omega) (by omega))) (by omega), fun k hk => ?_⟩
            · rw [g_ne (by omega)]; exact B7.2.2
            · refine Rk (P := fun k2 => f_X11_reads_L11 k2 (nI r) (1 : Int32) mr = some (nI 0, sI mr3 78 9 (nI (1 + 16 * a3)))) (a := a) (by omega) hk (fun j _ hj => ?_)
              obtain ⟨k4, e1, e2⟩ := B14 j (by omega)
              rw [s1 j]
              rw [show f_X11_reads_L11 j (nI (r + 1)) (1 : Int32) mr2 = _ from e2]
              exact Rk (P := fun k2 => f_X11_reads_L11 k2 (nI (r + 1)) (0 : Int32) mr3 = some (nI 0, sI mr3 78 9 (nI (1 + 16 * a3)))) (a := a3) (by omega) e1 (fun j2 _ hj2 => rt_bad B10 hq B6 (by omega) hnJ (fun _ => h41) (fun e => absurd e (by omega)))
      · -- a leaf
        right
        have ho : ¬ siP q a 40 := fun e => hc1 (cd_no.mpr ⟨fun e2 => absurd (e2.symm.trans e.1) (by decide), lq_0 (fun e2 => absurd (e2.symm.trans e.1) (by decide))⟩)
        have hl : ∃ y, ((lfq q a ≠ 0 ∧ y = nI (lfq q a)) ∨ (lfq q a = 0 ∧ tkC q a = 3 ∧ y = nI (100 + tkV q a))) ∧ G4 r [cdI q a] [y] := by
          have hv := tkV_lt (q := q) (a := a)
          by_cases k3 : tkC q a = 3
          · refine ⟨nI (100 + tkV q a), Or.inr ⟨lq_0 (fun e2 => absurd (e2.symm.trans k3) (by decide)), k3, rfl⟩, ?_⟩
            unfold cdI
            rw [if_pos k3]
            exact g4_num hr hv
          · have l0 : lfq q a ≠ 0 := fun e => hc1 (cd_no.mpr ⟨k3, e⟩)
            have hL := lq_le (q := q) (a := a)
            refine ⟨nI (lfq q a), Or.inl ⟨l0, rfl⟩, ?_⟩
            unfold cdI
            rw [if_neg k3]
            have hs : lfq q a = 1 ∨ lfq q a = 2 ∨ lfq q a = 3 ∨ lfq q a = 4 := by omega
            rcases hs with e | e | e | e
            · rw [e]; exact (g4_var hr).1
            · rw [e]; exact (g4_var hr).2.1
            · rw [e]; exact (g4_var hr).2.2.1
            · rw [e]; exact (g4_var hr).2.2.2
        obtain ⟨y, hy, hG⟩ := hl
        obtain ⟨mr2, s1, s2, s3, s4⟩ := rt_leaf (d := r) (y := y) hR hq ha (by omega) (by omega) hU hw ho hy
        obtain ⟨mc5, d1, d2, d3, d4, d5⟩ := cs_add (y := cdI q a) hu hC (by omega)
        obtain ⟨mc6, e1, e2, e3⟩ := cs_adv hu d2 hq ha
        refine ⟨[cdI q a], [y], nxT q a, mc6, mr2, ⟨hr, hG, Nat.succ_pos _, Nat.succ_pos _, by show 1 + a ≤ _; omega, by show 1 + a ≤ _; omega, hnl, e2, ⟨(mc_g e3 (by omega)).trans d3, trivial⟩, frC_m d5 e3, s2, ⟨s3, trivial⟩, s4 r, trivial, fun k hk => ?_⟩, ?_⟩
        · refine Rk (P := fun k2 => ∃ k3, 1002 ≤ k3 + nxT q a ∧ f_X11_reads_L11 k2 (nI r) (1 : Int32) mr = f_X11_reads_L11 k3 (nI d0) (0 : Int32) mr2) (a := a) (by omega) hk (fun j _ hj => ?_)
          exact ⟨j, by omega, s1 j⟩
        · rw [if_neg hc1, d1, q_bd1, e1, q_bd1]
  · left
    rw [c_partNo hC hq ha hb]
    exact out_f hu hC hq ha (by omega) (by omega) (by omega) (fun k hk => Rk (P := fun k => f_X11_reads_L11 k (nI r) (1 : Int32) mr = _) (a := a) (by omega) hk (fun j _ _ => rt_wno hR.1 hq ha hb))
theorem partAll : ∀ j, j ≤ 5 → PartOk (5 - j)
  | 0, _ => part5
  | j + 1, h => by
    have ih := partAll j (by omega)
    have e : 5 - j = 5 - (j + 1) + 1 := by omega
    rw [e] at ih
    exact partS (by omega) ih (chainAll ih)
theorem chain0 : ChainOk 0 0 := chainAll (partAll 5 (Nat.le_refl _))
end PartT
