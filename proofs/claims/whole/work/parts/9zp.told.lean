/-! MATH HALF: lines of an array, disks, speed, parity -/
def frU (u : Nat) (m m2 : Mm) : Prop := m2.2 = m.2 ∧ ∀ b i, ¬ (b = 1 ∧ 2 ≤ i ∧ i ≤ 6) → ¬ (u ≤ b ∧ b ≤ u + 5) → m2.1 b i = m.1 b i
def frT (m m2 : Mm) : Prop := (∀ b i, ¬ (b = 78 ∧ i = 7) → m2.2 b i = m.2 b i) ∧ ∀ b i, ¬ (b = 78 ∧ ((4 ≤ i ∧ i ≤ 9) ∨ i = 17 ∨ i = 18 ∨ i = 31)) → ¬ (b = 80 ∧ 3 ≤ i) → ¬ ((b = 81 ∨ b = 82) ∧ 6 ≤ i) → ¬ (b = 83 ∧ 30 ≤ i) → ¬ ((b = 84 ∨ b = 85) ∧ i = 1) → ¬ (b = 86 ∧ 1000 ≤ i) → ¬ (b = 87 ∨ b = 88) → m2.1 b i = m.1 b i
def TdC (u : Nat) (T : Lv) (sp : Nat) (m : Mm) : Prop := gI m u 0 = nI (tD T) ∧ gI m u 1 = nI sp ∧ gI m u 2 = nI (tB T) ∧ (∀ b, b < tB T → gI m (u + 1) b = nI (tK T b)) ∧ (∀ b, b < tB T → gI m (u + 2) b = nI (tZ T b)) ∧ ∀ b v, b < tB T → v < tZ T b → gI m (u + 3) (5 * b + v) = nI (tM T (5 * b + v))
def TdR (T : Lv) (sp : Nat) (m : Mm) : Prop := gI m 80 3 = nI (tD T) ∧ gI m 80 5 = nI (tP T) ∧ gI m 78 18 = nI (if sp = 0 then 0 else 1) ∧ gI m 80 4 = nI (tB T) ∧ (∀ b, b < tB T → gI m 81 (6 + b) = nI (tK T b)) ∧ (∀ b, b < tB T → gI m 82 (6 + b) = nI (tZ T b)) ∧ ∀ b v, b < tB T → v < tZ T b → gI m 83 (30 + (5 * b + v)) = nI (tM T (5 * b + v))
def LwC (u : Nat) (p : List Int32) (m : Mm) : Prop := gI m (u + 4) 1 = nI p.length ∧ Seg (u + 5) 0 p m
def LwR (f : List Int32) (m : Mm) : Prop := gI m 84 1 = nI 1000 ∧ gI m 85 1 = nI (1000 + f.length) ∧ gI m 78 17 = nI (1000 + f.length) ∧ Seg 86 1000 f m
def LwG (p f : List Int32) : Prop := (p = [] ∧ f = []) ∨ (G0 0 p f ∧ 0 < p.length ∧ 0 < f.length)
/-- both have told so far -/
def ArS (q : Tq) (u : Nat) (T : Lv) (sp : Nat) (p f : List Int32) (a : Nat) (mc mr : Mm) : Prop := a ≤ q.1 ∧ (CTk q a mc ∧ gI mc 1 6 = 0) ∧ RTk q a mr ∧ TdC u T sp mc ∧ TdR T sp mr ∧ LwC u p mc ∧ LwR f mr ∧ (WTo T ∧ cS T (tD T) (tB T) ≤ 40 ∧ tP T = (if sp = 0 then 4 else sp) ∧ sp ≤ 9) ∧ LwG p f ∧ p.length ≤ a ∧ f.length ≤ a
def LnF (u : Nat) (mc mr : Mm) (oc : Option Mm) (or' : Option (Int32 × Mm)) : Prop := ∃ F mc2 mr2, 0 < F ∧ F < 100000 ∧ oc = some mc2 ∧ gI mc2 1 6 = nI F ∧ frU u mc mc2 ∧ or' = some (nI 0, mr2) ∧ gI mr2 78 9 = nI F ∧ frT mr mr2
def LnS (q : Tq) (u a : Nat) (mc mr : Mm) (oc : Option Mm) (or' : Option (Int32 × Mm)) : Prop := ∃ T sp p f a1 mc2 mr2, a < a1 ∧ oc = some mc2 ∧ or' = some (nI 1, mr2) ∧ ArS q u T sp p f a1 mc2 mr2 ∧ frU u mc mc2 ∧ frT mr mr2
section Told
variable {q : Tq} {a b c d e i j k n s u x sp D : Nat} {m m2 m3 mc mr : Mm} {y z v : Int32} {p f : List Int32} {T : Lv} {lo hi : Int32}
theorem frU_r : frU u m m := ⟨rfl, fun _ _ _ _ => rfl⟩
theorem frU_t (h1 : frU u m m2) (h2 : frU u m2 m3) : frU u m m3 := ⟨h2.1.trans h1.1, fun b i k1 k2 => (h2.2 b i k1 k2).trans (h1.2 b i k1 k2)⟩
theorem frU_m (h1 : frU u m m2) (h2 : mvC m2 m3) : frU u m m3 := ⟨h2.1.trans h1.1, fun b i k1 k2 => (h2.2 b i (by omega)).trans (h1.2 b i k1 k2)⟩
theorem frU_s (h1 : frU u m m2) (h : (b = 1 ∧ i = 6) ∨ (u ≤ b ∧ b ≤ u + 5)) : frU u m (sI m2 b i y) := ⟨h1.1, fun b2 i2 k1 k2 => by
  simp only [sI]
  rw [if_neg (by omega)]
  exact h1.2 b2 i2 k1 k2⟩
theorem frT_r : frT m m := ⟨fun _ _ _ => rfl, fun _ _ _ _ _ _ _ _ _ => rfl⟩
theorem frT_t (h1 : frT m m2) (h2 : frT m2 m3) : frT m m3 := ⟨fun b i k => (h2.1 b i k).trans (h1.1 b i k), fun b i k1 k2 k3 k4 k5 k6 k7 => (h2.2 b i k1 k2 k3 k4 k5 k6 k7).trans (h1.2 b i k1 k2 k3 k4 k5 k6 k7)⟩
theorem frT_m (h1 : frT m m2) (h2 : mvR m2 m3) : frT m m3 := ⟨fun b i k => (h2.1 b i k).trans (h1.1 b i k), fun b i k1 k2 k3 k4 k5 k6 k7 => (h2.2 b i (by omega)).trans (h1.2 b i k1 k2 k3 k4 k5 k6 k7)⟩
theorem frT_s (h1 : frT m m2) (h : (b = 78 ∧ ((4 ≤ i ∧ i ≤ 9) ∨ i = 17 ∨ i = 18 ∨ i = 31)) ∨ (b = 80 ∧ 3 ≤ i) ∨ ((b = 81 ∨ b = 82) ∧ 6 ≤ i) ∨ (b = 83 ∧ 30 ≤ i) ∨ ((b = 84 ∨ b = 85) ∧ i = 1) ∨ (b = 86 ∧ 1000 ≤ i) ∨ b = 87 ∨ b = 88) : frT m (sI m2 b i y) := ⟨h1.1, fun b2 i2 k1 k2 k3 k4 k5 k6 k7 => by
  simp only [sI]
  rw [if_neg (by omega)]
  exact h1.2 b2 i2 k1 k2 k3 k4 k5 k6 k7⟩
theorem TdC_g (h : TdC u T sp m) (hg : ∀ b i, u ≤ b → b ≤ u + 3 → gI m2 b i = gI m b i) : TdC u T sp m2 := by
  obtain ⟨h1, h2, h3, h4, h5, h6⟩ := h
  exact ⟨(hg _ _ (by omega) (by omega)).trans h1, (hg _ _ (by omega) (by omega)).trans h2, (hg _ _ (by omega) (by omega)).trans h3, fun b hb => (hg _ _ (by omega) (by omega)).trans (h4 b hb), fun b hb => (hg _ _ (by omega) (by omega)).trans (h5 b hb), fun b v hb hv => (hg _ _ (by omega) (by omega)).trans (h6 b v hb hv)⟩
theorem TdR_g (h : TdR T sp m) (hg : ∀ b i, (80 ≤ b ∧ b ≤ 83) ∨ (b = 78 ∧ i = 18) → gI m2 b i = gI m b i) : TdR T sp m2 := by
  obtain ⟨h1, h2, h3, h4, h5, h6, h7⟩ := h
  exact ⟨(hg _ _ (by omega)).trans h1, (hg _ _ (by omega)).trans h2, (hg _ _ (by omega)).trans h3, (hg _ _ (by omega)).trans h4, fun b hb => (hg _ _ (by omega)).trans (h5 b hb), fun b hb => (hg _ _ (by omega)).trans (h6 b hb), fun b v hb hv => (hg _ _ (by omega)).trans (h7 b v hb hv)⟩
theorem LwC_g (h : LwC u p m) (hg : ∀ b i, (b = u + 4 ∧ i = 1) ∨ b = u + 5 → gI m2 b i = gI m b i) : LwC u p m2 := ⟨(hg _ _ (by omega)).trans h.1, Seg_fr h.2 (fun i _ _ => hg _ _ (by omega))⟩
theorem LwR_g (h : LwR f m) (hg : ∀ b i, ((b = 84 ∨ b = 85) ∧ i = 1) ∨ (b = 78 ∧ i = 17) ∨ (b = 86 ∧ 1000 ≤ i) → gI m2 b i = gI m b i) : LwR f m2 := ⟨(hg _ _ (by omega)).trans h.1, (hg _ _ (by omega)).trans h.2.1, (hg _ _ (by omega)).trans h.2.2.1, Seg_fr h.2.2.2 (fun i _ _ => hg _ _ (by omega))⟩
theorem nu_in (hl : lo = nI c) (hh : hi = nI d) (hc : c < 10000) (hd : d < 10000) (hf : nuF q a lo hi = 0) : c ≤ tkV q a ∧ tkV q a ≤ d ∧ tkC q a = 3 := by
  have hv := tkV_lt (q := q) (a := a)
  unfold nuF at hf
  by_cases k3 : tkC q a = 3
  · rw [if_pos k3] at hf
    by_cases kw : wiP lo hi (tkV q a)
    · rw [hl, hh] at kw
      refine ⟨?_, ?_, k3⟩
      · rcases Nat.lt_or_ge (tkV q a) c with h | h
        · exact absurd ((q_ltp (by omega) (by omega)).mpr h) kw.1
        · exact h
      · rcases Nat.lt_or_ge d (tkV q a) with h | h
        · exact absurd ((q_ltp (by omega) (by omega)).mpr h) kw.2
        · exact h
    · rw [if_neg kw] at hf; exact absurd hf (by decide)
  · rw [if_neg k3] at hf; exact absurd hf (by decide)
/-- a fault at a place, at once -/
theorem ln_now {v1 : Nat} (hq : TW q) (ha : a ≤ q.1) (h : CTk q a m) (h0 : gI m 1 6 = 0) (hR : RTk q a m2) (h1 : 1 ≤ v1) (h2 : v1 ≤ 5) (hf : frU u mc m) (hf2 : frT mr m2) : LnF u mc mr (f_X7_fail (nI v1) m) (f_X11_fails (nI v1) m2) := by
  have hq1 := hq.1
  refine ⟨v1 + 16 * a, _, _, by omega, by omega, c_fail h h0, g_eq, frU_s hf (by omega), r_fails hR, g_eq, frT_s hf2 (by omega)⟩
theorem bd2_gd {o : Option (Int32 × Mm)} (h : ∀ r m, o = some (r, m) → r = nI 0 ∨ r = nI 1) : bd2 o (fun r m => gd (isB r) (some (r, m))) = o := by
  cases o with
  | none => rfl
  | some x =>
    obtain ⟨r, m⟩ := x
    rw [q_bd2]
    rcases h r m rfl with rfl | rfl
    · exact q_gd2 (by omega)
    · exact q_gd2 (by omega)
theorem fails_gd (h : RTk q a m) : bd2 (f_X11_fails (nI c) m) (fun r m => gd (isB r) (some (r, m))) = f_X11_fails (nI c) m := by
  rw [r_fails h, q_bd2, q_gd2 (by omega)]
theorem cl_gd (h : RTk q a m) (hq : TW q) (ha : a ≤ q.1) : bd2 (f_X11_closes m) (fun r m => gd (isB r) (some (r, m))) = f_X11_closes m := by
  by_cases hp : siP q a 59
  · obtain ⟨m2, e, _⟩ := r_closes h hq ha hp
    rw [e, q_bd2, q_gd2 (by omega)]
  · rw [r_closesBad h hq ha hp, q_bd2, q_gd2 (by omega)]
/-- the end of a line -/
theorem ln_end (hq : TW q) (hu : u = 3 ∨ u = 10) (ha : a ≤ q.1) (h : CTk q a m) (h0 : gI m 1 6 = 0) (hR : RTk q a m2) (hf : frU u mc m) (hf2 : frT mr m2) : (LnF u mc mr (f_X7_pass (nI 59) m) (f_X11_closes m2)) ∨ ∃ mc2 mr2, f_X7_pass (nI 59) m = some mc2 ∧ f_X11_closes m2 = some (nI 1, mr2) ∧ CTk q (nxT q a) mc2 ∧ RTk q (nxT q a) mr2 ∧ mvC m mc2 ∧ mvR m2 mr2 ∧ a < nxT q a := by
  have hq1 := hq.1
  by_cases hp : siP q a 59
  · right
    obtain ⟨mc2, c1, c2, c3⟩ := c_pass h hq ha h0 (by omega) hp
    obtain ⟨mr2, r1, r2, r3⟩ := r_closes hR hq ha hp
    exact ⟨mc2, mr2, c1, r1, c2, r2, c3, r3, nxT_lt (by rw [hp.1]; decide)⟩
  · left
    exact ⟨1 + 16 * a, _, _, by omega, by omega, c_passBad h hq ha h0 (by omega) hp, g_eq, frU_s hf (by omega), r_closesBad hR hq ha hp, g_eq, frT_s hf2 (by omega)⟩
def upT (T : Lv) (i v : Nat) : Lv := fun c j => if c = 0 ∧ j = i then v else T c j
theorem ln_disks (hq : TW q) (hu : u = 3 ∨ u = 10) (hC0 : tkC q a ≠ 0) (h : ArS q u T sp p f a mc mr) : LnF u mc mr (f_X0_disksLine u mc) (f_X11_readsDisks mr) ∨ LnS q u a mc mr (f_X0_disksLine u mc) (f_X11_readsDisks mr) := by
  obtain ⟨ha, ⟨hc, h0⟩, hr, hTC, hTR, hLC, hLR, ⟨hW, hS, hP, hsp⟩, hG, hp, hf⟩ := h
  have hq1 := hq.1
  have hD := hW.2.1
  have i3 : ix (3 : Int32) = 3 := rfl
  unfold f_X0_disksLine f_X11_readsDisks
  rw [i3, hTC.1, hTR.1]
  by_cases hd : tD T = 0
  · rw [hd, if_pos (by rfl), if_neg (by decide)]
    obtain ⟨mc1, c1, c2, c3⟩ := c_adv2 hc hq ha
    obtain ⟨mr1, r1, r2, r3⟩ := r_next2 hr hq ha
    have a1 := nxT_le ha
    have l1 := nxT_lt hC0
    have z1 : gI mc1 1 6 = 0 := (mc_g c3 (by omega)).trans h0
    rw [c1, q_bd1, r1, q_bd1]
    by_cases hn : nuF q (nxT q a) (2 : Int32) (13 : Int32) = 0
    · obtain ⟨n1, n2, n3⟩ := nu_in (c := 2) (d := 13) rfl rfl (by omega) (by omega) hn
      obtain ⟨mc2, d1, d2, d3⟩ := c_nwOk c2 hq a1 z1 hn
      obtain ⟨mr2, s1, s2, s3, s4⟩ := r_needs r2 hq a1 hn
      have a2 := nxT_le a1
      have l2 := nxT_lt (q := q) (a := nxT q a) (by rw [n3]; decide)
      have z2 : gI (sI mc2 u 0 (nI (tkV q (nxT q a)))) 1 6 = 0 := by rw [g_ne (by omega), mc_g d3 (by omega)]; exact z1
      rw [d1, q_bd2, q_stI, s1, q_bd2, if_neg (by decide), q_stI, s3, bd1_id]
      have k2 : CTk q (nxT q (nxT q a)) (sI mc2 u 0 (nI (tkV q (nxT q a)))) := CTk_s d2 (by omega)
      have t2 : RTk q (nxT q (nxT q a)) (sI mr2 80 3 (nI (tkV q (nxT q a)))) := RTk_s s2 (by omega)
      have f1 : frU u mc (sI mc2 u 0 (nI (tkV q (nxT q a)))) := frU_s (frU_m (frU_m frU_r c3) d3) (by omega)
      have f2 : frT mr (sI mr2 80 3 (nI (tkV q (nxT q a)))) := frT_s (frT_m (frT_s (frT_m frT_r r3) (by omega)) s4) (by omega)
      rw [cl_gd t2 hq a2, q_l59]
      rcases ln_end hq hu a2 k2 z2 t2 f1 f2 with hE | ⟨mc3, mr3, e1, e2, e3, e4, e5, e6, e7⟩
      · exact Or.inl hE
      · right
        have hB : tB T = 0 := by
          rcases Nat.eq_zero_or_pos (tB T) with h | h
          · exact h
          · have := hW.2.2.2.1 h
            omega
        have gc : ∀ b i, ¬ (b = 1 ∧ 2 ≤ i ∧ i ≤ 5) → ¬ (b = u ∧ i = 0) → gI mc3 b i = gI mc b i := fun b i k1 k2 => by
          rw [mc_g e5 (by omega), g_ne (by omega), mc_g d3 (by omega), mc_g c3 (by omega)]
        have gr : ∀ b i, ¬ (b = 78 ∧ (i = 4 ∨ i = 5 ∨ i = 6 ∨ i = 8 ∨ i = 31)) → ¬ (b = 80 ∧ i = 3) → gI mr3 b i = gI mr b i := fun b i k1 k2 => by
          rw [mv_g e6 (by omega), g_ne (by omega), mv_g s4 (by omega), g_ne (by omega), mv_g r3 (by omega)]
        have gu0 : gI mc3 u 0 = nI (tkV q (nxT q a)) := by rw [mc_g e5 (by omega), g_eq]
        have gr3 : gI mr3 80 3 = nI (tkV q (nxT q a)) := by rw [mv_g e6 (by omega), g_eq]
        obtain ⟨_, T2, T3, T4, T5, T6⟩ := hTC
        obtain ⟨_, R2, R3, R4, R5, R6, R7⟩ := hTR
        have eB : tB (upT T 0 (tkV q (nxT q a))) = 0 := hB
        refine ⟨upT T 0 (tkV q (nxT q a)), sp, p, f, nxT q (nxT q (nxT q a)), mc3, mr3, by omega, e1, e2, ⟨nxT_le a2, ⟨e3, (gc _ _ (by omega) (by omega)).trans h0⟩, e4, ⟨gu0, (gc _ _ (by omega) (by omega)).trans T2, (gc _ _ (by omega) (by omega)).trans T3, fun b hb => absurd hb (by rw [eB]; omega), fun b hb => absurd hb (by rw [eB]; omega), fun b v hb => absurd hb (by rw [eB]; omega)⟩, ⟨gr3, (gr _ _ (by omega) (by omega)).trans R2, (gr _ _ (by omega) (by omega)).trans R3, (gr _ _ (by omega) (by omega)).trans R4, fun b hb => absurd hb (by rw [eB]; omega), fun b hb => absurd hb (by rw [eB]; omega), fun b v hb => absurd hb (by rw [eB]; omega)⟩, LwC_g hLC (fun b i hb => gc _ _ (by omega) (by omega)), LwR_g hLR (fun b i hb => gr _ _ (by omega) (by omega)), ⟨⟨Or.inr n1, n2, by rw [eB]; omega, fun h => absurd h (by rw [eB]; omega), hW.2.2.2.2.1, hW.2.2.2.2.2.1, fun b hb => absurd hb (by rw [eB]; omega), fun b v hb => absurd hb (by rw [eB]; omega), fun b v w hb => absurd hb (by rw [eB]; omega)⟩, by rw [eB]; exact Nat.zero_le _, hP, hsp⟩, hG, by omega, by omega⟩, frU_m f1 e5, frT_m f2 e6⟩
    · left
      have hnu := nu_le (q := q) (a := nxT q a) (lo := (2 : Int32)) (hi := (13 : Int32))
      have fz : 0 < nuF q (nxT q a) (2 : Int32) (13 : Int32) + 16 * nxT q a := by omega
      have fl : nuF q (nxT q a) (2 : Int32) (13 : Int32) + 16 * nxT q a < 100000 := by omega
      rw [c_nwBad c2 z1 hn, q_bd2, q_stI, r_needsBad r2 hn, q_bd2, if_pos (by rfl), bd1_id]
      generalize nuF q (nxT q a) (2 : Int32) (13 : Int32) + 16 * nxT q a = F at fz fl
      have gF : gI (sI (sI mc1 1 6 (nI F)) u 0 (nI 0)) 1 6 = nI F := by rw [g_ne (by omega), g_eq]
      rw [q_l59, c_passNo (F_nz fz fl gF)]
      exact ⟨F, _, _, fz, fl, rfl, gF, frU_s (frU_s (frU_m frU_r c3) (by omega)) (by omega), rfl, g_eq, frT_s (frT_m frT_r r3) (by omega)⟩
  · left
    rw [if_neg (show ¬ nI (tD T) = (0 : Int32) from fun e => hd ((q_eq (b := 0) (by omega) (by omega)).mp e)), if_pos (q_0lt (by omega) (by omega)), bd1_id, q_l3, fails_gd hr]
    exact ln_now hq ha hc h0 hr (by omega) (by omega) frU_r frT_r
theorem ln_speed (hq : TW q) (hu : u = 3 ∨ u = 10) (hC0 : tkC q a ≠ 0) (h : ArS q u T sp p f a mc mr) : LnF u mc mr (f_X0_speedLine u mc) (f_X11_readsSpeed mr) ∨ LnS q u a mc mr (f_X0_speedLine u mc) (f_X11_readsSpeed mr) := by
  obtain ⟨ha, ⟨hc, h0⟩, hr, hTC, hTR, hLC, hLR, ⟨hW, hS, hP, hsp⟩, hG, hp, hf⟩ := h
  have hq1 := hq.1
  have i5 : ix (5 : Int32) = 5 := rfl
  unfold f_X0_speedLine f_X11_readsSpeed
  rw [i5, hTC.2.1, hTR.2.2.1]
  by_cases hd : sp = 0
  · rw [hd, if_pos (by rfl), if_pos (by rfl)]
    have hr' : RTk q a (sI mr 78 18 (1 : Int32)) := RTk_s hr (by omega)
    obtain ⟨mc1, c1, c2, c3⟩ := c_adv2 hc hq ha
    obtain ⟨mr1, r1, r2, r3⟩ := r_next2 hr' hq ha
    have a1 := nxT_le ha
    have l1 := nxT_lt hC0
    have z1 : gI mc1 1 6 = 0 := (mc_g c3 (by omega)).trans h0
    have f0 : frT mr mr1 := frT_m (frT_s frT_r (by omega)) r3
    rw [c1, q_bd1, q_stI, r1, q_bd1]
    by_cases hn : nuF q (nxT q a) (1 : Int32) (9 : Int32) = 0
    · obtain ⟨n1, n2, n3⟩ := nu_in (c := 1) (d := 9) rfl rfl (by omega) (by omega) hn
      obtain ⟨mc2, d1, d2, d3⟩ := c_nwOk c2 hq a1 z1 hn
      obtain ⟨mr2, s1, s2, s3, s4⟩ := r_needs r2 hq a1 hn
      have a2 := nxT_le a1
      have l2 := nxT_lt (q := q) (a := nxT q a) (by rw [n3]; decide)
      have z2 : gI (sI mc2 u 1 (nI (tkV q (nxT q a)))) 1 6 = 0 := by rw [g_ne (by omega), mc_g d3 (by omega)]; exact z1
      rw [d1, q_bd2, q_stI, s1, q_bd2, if_neg (by decide), q_stI, s3, bd1_id]
      have k2 : CTk q (nxT q (nxT q a)) (sI mc2 u 1 (nI (tkV q (nxT q a)))) := CTk_s d2 (by omega)
      have t2 : RTk q (nxT q (nxT q a)) (sI mr2 80 5 (nI (tkV q (nxT q a)))) := RTk_s s2 (by omega)
      have f1 : frU u mc (sI mc2 u 1 (nI (tkV q (nxT q a)))) := frU_s (frU_m (frU_m frU_r c3) d3) (by omega)
      have f2 : frT mr (sI mr2 80 5 (nI (tkV q (nxT q a)))) := frT_s (frT_m (frT_s f0 (by omega)) s4) (by omega)
      rw [cl_gd t2 hq a2, q_l59]
      rcases ln_end hq hu a2 k2 z2 t2 f1 f2 with hE | ⟨mc3, mr3, e1, e2, e3, e4, e5, e6, e7⟩
      · exact Or.inl hE
      · right
        have gc : ∀ b i, ¬ (b = 1 ∧ 2 ≤ i ∧ i ≤ 5) → ¬ (b = u ∧ i = 1) → gI mc3 b i = gI mc b i := fun b i k1 k2 => by
          rw [mc_g e5 (by omega), g_ne (by omega), mc_g d3 (by omega), mc_g c3 (by omega)]
        have gr : ∀ b i, ¬ (b = 78 ∧ (i = 4 ∨ i = 5 ∨ i = 6 ∨ i = 8 ∨ i = 31 ∨ i = 18)) → ¬ (b = 80 ∧ i = 5) → gI mr3 b i = gI mr b i := fun b i k1 k2 => by
          rw [mv_g e6 (by omega), g_ne (by omega), mv_g s4 (by omega), g_ne (by omega), mv_g r3 (by omega), g_ne (by omega)]
        have gu1 : gI mc3 u 1 = nI (tkV q (nxT q a)) := by rw [mc_g e5 (by omega), g_eq]
        have gr5 : gI mr3 80 5 = nI (tkV q (nxT q a)) := by rw [mv_g e6 (by omega), g_eq]
        have gr18 : gI mr3 78 18 = nI 1 := by rw [mv_g e6 (by omega), g_ne (by omega), mv_g s4 (by omega), g_ne (by omega), mv_g r3 (by omega), g_eq]; rfl
        obtain ⟨T1, _, T3, T4, T5, T6⟩ := hTC
        obtain ⟨R1, _, _, R4, R5, R6, R7⟩ := hTR
        refine ⟨upT T 2 (tkV q (nxT q a)), tkV q (nxT q a), p, f, nxT q (nxT q (nxT q a)), mc3, mr3, by omega, e1, e2, ⟨nxT_le a2, ⟨e3, (gc _ _ (by omega) (by omega)).trans h0⟩, e4, ⟨(gc _ _ (by omega) (by omega)).trans T1, gu1, (gc _ _ (by omega) (by omega)).trans T3, fun b hb => (gc _ _ (by omega) (by omega)).trans (T4 b hb), fun b hb => (gc _ _ (by omega) (by omega)).trans (T5 b hb), fun b v hb hv => (gc _ _ (by omega) (by omega)).trans (T6 b v hb hv)⟩, ⟨(gr _ _ (by omega) (by omega)).trans R1, gr5, by rw [if_neg (by omega)]; exact gr18, (gr _ _ (by omega) (by omega)).trans R4, fun b hb => (gr _ _ (by omega) (by omega)).trans (R5 b hb), fun b hb => (gr _ _ (by omega) (by omega)).trans (R6 b hb), fun b v hb hv => (gr _ _ (by omega) (by omega)).trans (R7 b v hb hv)⟩, LwC_g hLC (fun b i hb => gc _ _ (by omega) (by omega)), LwR_g hLR (fun b i hb => gr _ _ (by omega) (by omega)), ⟨⟨hW.1, hW.2.1, hW.2.2.1, hW.2.2.2.1, n1, n2, hW.2.2.2.2.2.2⟩, ?_, ?_, n2⟩, hG, by omega, by omega⟩, frU_m f1 e5, frT_m f2 e6⟩
        · have ec : ∀ n, cS (upT T 2 (tkV q (nxT q a))) (tD T) n = cS T (tD T) n := fun n => by
            induction n with
            | zero => rfl
            | succ n ih =>
              show cS (upT T 2 (tkV q (nxT q a))) (tD T) n + _ = cS T (tD T) n + _
              rw [ih]
              rfl
          show cS (upT T 2 (tkV q (nxT q a))) (tD T) (tB T) ≤ 40
          rw [ec]
          exact hS
        · rw [if_neg (by omega)]
          rfl
    · left
      have hnu := nu_le (q := q) (a := nxT q a) (lo := (1 : Int32)) (hi := (9 : Int32))
      have fz : 0 < nuF q (nxT q a) (1 : Int32) (9 : Int32) + 16 * nxT q a := by omega
      have fl : nuF q (nxT q a) (1 : Int32) (9 : Int32) + 16 * nxT q a < 100000 := by omega
      rw [c_nwBad c2 z1 hn, q_bd2, q_stI, r_needsBad r2 hn, q_bd2, if_pos (by rfl), bd1_id]
      generalize nuF q (nxT q a) (1 : Int32) (9 : Int32) + 16 * nxT q a = F at fz fl
      have gF : gI (sI (sI mc1 1 6 (nI F)) u 1 (nI 0)) 1 6 = nI F := by rw [g_ne (by omega), g_eq]
      rw [q_l59, c_passNo (F_nz fz fl gF)]
      exact ⟨F, _, _, fz, fl, rfl, gF, frU_s (frU_s (frU_m frU_r c3) (by omega)) (by omega), rfl, g_eq, frT_s f0 (by omega)⟩
  · left
    rw [if_neg hd, if_neg (show ¬ nI sp = (0 : Int32) from fun e => hd ((q_eq (b := 0) (by omega) (by omega)).mp e)), if_neg (by decide), bd1_id, q_l3, fails_gd hr]
    exact ln_now hq ha hc h0 hr (by omega) (by omega) frU_r frT_r
end Told
