/-! MATH HALF: the reference's reading of an expression, what is wanted and what ends -/
section RefF
variable {q : Tq} {a b c d d0 e i j k n p s u x r : Nat} {m m2 m3 : Mm} {y z g f v : Int32}
theorem q_m1 (h : 0 < d) : nI d + (-1 : Int32) = nI (d - 1) := by
  have := q_sub1 (n := d) (by omega)
  rw [← this, Int32.sub_eq_add_neg]
  rfl
theorem r_152 {K : Int32 → Mm → Option (Int32 × Mm)} {v2 : Int32} : ∀ (n k d : Nat), d = d0 + n → d < 7 → n < k → UwN 87 m d d0 → f_X11_reads_L152 v2 K k (nI d) m = K (nI d0) m
  | 0, k + 1, d, hd, h7, hk, h => by
    have e : d = d0 := by omega
    subst e
    rw [f_X11_reads_L152]
    by_cases h0 : d = 0
    · subst h0
      rw [if_neg (by decide)]
    · rw [if_pos (q_0lt (by omega) (by omega)), q_gd h7 (by omega), q_ix (by omega), if_neg (by
        rcases h.2.2 with h2 | h2
        · exact absurd h2 h0
        · exact h2)]
  | n + 1, k + 1, d, hd, h7, hk, h => by
    have ih := r_152 (K := K) (v2 := v2) n k (d - 1) (by omega) (by omega) (by omega) ⟨by omega, fun i h1 h2 => h.2.1 i h1 (by omega), h.2.2⟩
    rw [f_X11_reads_L152, if_pos (q_0lt (by omega) (by omega)), q_gd h7 (by omega), q_ix (by omega), if_pos (h.2.1 d (by omega) (by omega)), q_m1 (by omega), ih]
theorem r_379 {K : Int32 → Mm → Option (Int32 × Mm)} {v2 : Int32} : ∀ (n k d : Nat), d = d0 + n → d < 7 → n < k → UwN 87 m d d0 → f_X11_reads_L379 v2 K k (nI d) m = K (nI d0) m
  | 0, k + 1, d, hd, h7, hk, h => by
    have e : d = d0 := by omega
    subst e
    rw [f_X11_reads_L379]
    by_cases h0 : d = 0
    · subst h0
      rw [if_neg (by decide)]
    · rw [if_pos (q_0lt (by omega) (by omega)), q_gd h7 (by omega), q_ix (by omega), if_neg (by
        rcases h.2.2 with h2 | h2
        · exact absurd h2 h0
        · exact h2)]
  | n + 1, k + 1, d, hd, h7, hk, h => by
    have ih := r_379 (K := K) (v2 := v2) n k (d - 1) (by omega) (by omega) (by omega) ⟨by omega, fun i h1 h2 => h.2.1 i h1 (by omega), h.2.2⟩
    rw [f_X11_reads_L379, if_pos (q_0lt (by omega) (by omega)), q_gd h7 (by omega), q_ix (by omega), if_pos (h.2.1 d (by omega) (by omega)), q_m1 (by omega), ih]
/-- what may begin a part -/
abbrev bgP (q : Tq) (a : Nat) : Prop := tkC q a = 3 ∨ lfq q a ≠ 0 ∨ woP q a 2010 ∨ siP q a 40
theorem rt_w (h : RTk q a m) (hq : TW q) (ha : a ≤ q.1) (hb : bgP q a) : f_X11_reads_L11 (k + 1) (nI d) (1 : Int32) m = f_X11_reads_J65 (fun w1 w2 m => f_X11_reads_L11 k w1 w2 m) (nI d) (1 : Int32) (nI (lfq q a)) (nI (if woP q a 2010 then 1 else 0)) (nI (if siP q a 40 then 1 else 0)) m := by
  have hC := tkC_le (q := q) (a := a)
  have hK := kr_le hC
  have hL := lq_le (q := q) (a := a)
  have s40 : f_X11_isSign (40 : Int32) m = _ := r_sign (s := 40) h hq ha (by omega)
  rw [f_X11_reads_L11, if_neg (by decide), r_fact h hq ha, q_bd2, r_not h hq ha, q_bd2, s40, q_bd2]
  by_cases h1 : nI (lfq q a) = 0
  · rw [if_pos h1]
    by_cases h2 : woP q a 2010
    · rw [if_neg (fun e => b01.mp e h2)]
    · rw [if_pos (b01.mpr h2)]
      by_cases h3 : siP q a 40
      · rw [if_neg (fun e => b01.mp e h3)]
      · rw [if_pos (b01.mpr h3), if_pos]
        rw [h.2.2.2.1]
        rcases hb with h4 | h4 | h4 | h4
        · rw [(kr_2 hC).mpr h4]; rfl
        · exact absurd ((q_eq (b := 0) (by omega) (by omega)).mp h1) h4
        · exact absurd h4 h2
        · exact absurd h4 h3
  · rw [if_neg h1]
theorem rt_wno (h : RTk q a m) (hq : TW q) (ha : a ≤ q.1) (hb : ¬ bgP q a) : f_X11_reads_L11 (k + 1) (nI d) (1 : Int32) m = some (nI 0, sI m 78 9 (nI (1 + 16 * a))) := by
  have hC := tkC_le (q := q) (a := a)
  have hK := kr_le hC
  have s40 : f_X11_isSign (40 : Int32) m = _ := r_sign (s := 40) h hq ha (by omega)
  have l0 : lfq q a = 0 := Classical.not_not.mp (fun e => hb (Or.inr (Or.inl e)))
  have w0 : ¬ woP q a 2010 := fun e => hb (Or.inr (Or.inr (Or.inl e)))
  have o0 : ¬ siP q a 40 := fun e => hb (Or.inr (Or.inr (Or.inr e)))
  have c0 : ¬ tkC q a = 3 := fun e => hb (Or.inl e)
  rw [f_X11_reads_L11, if_neg (by decide), r_fact h hq ha, q_bd2, r_not h hq ha, q_bd2, s40, q_bd2, l0, if_pos (by rfl), if_pos (b01.mpr w0), if_pos (b01.mpr o0), if_neg (by
    rw [h.2.2.2.1]
    exact fun e => c0 ((kr_2 hC).mp ((q_eq (b := 2) (by omega) (by omega)).mp e))), q_l1, r_fails h, q_bd2, q_gd2 (by omega)]
theorem rt_w5 (h : RTk q a m) (hq : TW q) (ha : a ≤ q.1) (hb : bgP q a) : f_X11_reads_L11 (k + 1) (nI 5) (1 : Int32) m = some (nI 0, sI m 78 9 (nI (5 + 16 * a))) := by
  rw [rt_w h hq ha hb]
  unfold f_X11_reads_J65
  rw [if_pos (by rfl), q_l5, r_fails h, q_bd2, q_gd2 (by omega)]
/-- a leaf -/
theorem rt_leaf (h : RSt q a c m) (hq : TW q) (ha : a ≤ q.1) (hc : c < 1000) (hd : d < 5) (hU : UwN 87 m d d0) (w0 : ¬ woP q a 2010) (o0 : ¬ siP q a 40) (ho : (lfq q a ≠ 0 ∧ y = nI (lfq q a)) ∨ (lfq q a = 0 ∧ tkC q a = 3 ∧ y = nI (100 + tkV q a))) : ∃ m2, (∀ k, f_X11_reads_L11 (k + 1) (nI d) (1 : Int32) m = f_X11_reads_L11 k (nI d0) (0 : Int32) m2) ∧ RSt q (nxT q a) (c + 1) m2 ∧ gI m2 86 (1000 + c) = y ∧ (∀ d, frQ c d (d + 1) m m2) := by
  have h0 := hU.1
  have hL := lq_le (q := q) (a := a)
  have h1 : RTk q a (sI (sI m 86 (1000 + c) y) 78 17 (nI (1000 + (c + 1)))) := RTk_s (RTk_s h.1 (by omega)) (by omega)
  obtain ⟨m2, e1, e2, e3⟩ := r_next2 h1 hq ha
  have hU2 : UwN 87 (sI (sI m 86 (1000 + c) y) 78 17 (nI (1000 + (c + 1)))) d d0 := ⟨h0, fun i k1 k2 => by rw [g_ne (by omega), g_ne (by omega)]; exact hU.2.1 i k1 k2, hU.2.2.imp id (fun k e => k (by rw [g_ne (by omega), g_ne (by omega)] at e; exact e))⟩
  refine ⟨m2, fun k => ?_, ⟨e2, ?_⟩, ?_, fun d => frQ_m (frQ_s (frQ_s frQ_r (by omega)) (by omega)) e3⟩
  · have hb : bgP q a := by
      rcases ho with ⟨o, _⟩ | ⟨_, o, _⟩
      · exact Or.inr (Or.inl o)
      · exact Or.inl o
    have j : f_X11_reads_J147 (fun w1 w2 m => f_X11_reads_L11 k w1 w2 m) (nI d) y m = f_X11_reads_L11 k (nI d0) (0 : Int32) m2 := by
      unfold f_X11_reads_J147
      rw [r_puts h.2 hc, q_bd1, r_152 (d - d0) FU d (by omega) (by omega) (by show _ < 4096; omega) hU2, e1, q_bd1]
    rw [rt_w h.1 hq ha hb]
    unfold f_X11_reads_J65
    rw [if_neg (show ¬ nI d = (5 : Int32) from fun e => absurd ((q_eq (b := 5) (by omega) (by omega)).mp e) (by omega)), if_pos (b01.mpr w0), if_pos (b01.mpr o0)]
    rcases ho with ⟨o, rfl⟩ | ⟨o, o2, rfl⟩
    · rw [if_pos (q_0lt (by omega) (by omega)), j]
    · rw [o, if_neg (by decide), h.1.2.2.2.2.2 o2, q_l100, nI_add, j]
  · rw [mv_g e3 (by omega), g_eq]
  · rw [mv_g e3 (by omega), g_ne (by omega), g_eq]
/-- not, ( -/
theorem rt_open (h : RSt q a c m) (hq : TW q) (ha : a ≤ q.1) (hc : c < 1000) (hd : d < 5) (ho : (woP q a 2010 ∧ y = 30 ∧ z = 1) ∨ (¬ woP q a 2010 ∧ siP q a 40 ∧ y = 28 ∧ z = 2)) : ∃ m2, (∀ k, f_X11_reads_L11 (k + 1) (nI d) (1 : Int32) m = f_X11_reads_L11 k (nI (d + 1)) (1 : Int32) m2) ∧ RSt q (nxT q a) (c + 1) m2 ∧ gI m2 86 (1000 + c) = y ∧ gI m2 87 (d + 1) = z ∧ gI m2 88 (d + 1) = 0 ∧ frQ c d (d + 1) m m2 := by
  have h1 : RTk q a (sI (sI (sI (sI m 86 (1000 + c) y) 78 17 (nI (1000 + (c + 1)))) 87 (d + 1) z) 88 (d + 1) 0) := RTk_s (RTk_s (RTk_s (RTk_s h.1 (by omega)) (by omega)) (by omega)) (by omega)
  obtain ⟨m2, e1, e2, e3⟩ := r_next2 h1 hq ha
  refine ⟨m2, fun k => ?_, ⟨e2, ?_⟩, ?_, ?_, ?_, frQ_m (frQ_s (frQ_s (frQ_s (frQ_s frQ_r (by omega)) (by omega)) (by omega)) (by omega)) e3⟩
  · have hb : bgP q a := by
      rcases ho with ⟨o, _⟩ | ⟨_, o, _⟩
      · exact Or.inr (Or.inr (Or.inl o))
      · exact Or.inr (Or.inr (Or.inr o))
    have j : f_X11_reads_J120 (fun w1 w2 m => f_X11_reads_L11 k w1 w2 m) (nI (d + 1)) (1 : Int32) z (nI (d + 1)) (sI (sI m 86 (1000 + c) y) 78 17 (nI (1000 + (c + 1)))) = f_X11_reads_L11 k (nI (d + 1)) (1 : Int32) m2 := by
      unfold f_X11_reads_J120
      rw [q_gd (by omega) (by omega), q_ix (by omega), q_stI, q_gd (by omega) (by omega), q_stI, e1, q_bd1]
    have d1 : nI d + (1 : Int32) = nI (d + 1) := by rw [q_l1, nI_add]
    rw [rt_w h.1 hq ha hb]
    unfold f_X11_reads_J65
    rw [if_neg (show ¬ nI d = (5 : Int32) from fun e => absurd ((q_eq (b := 5) (by omega) (by omega)).mp e) (by omega))]
    rcases ho with ⟨o, rfl, rfl⟩ | ⟨o0, o, rfl, rfl⟩
    · rw [if_neg (fun e => b01.mp e o)]
      unfold f_X11_reads_J86 f_X11_reads_J99
      rw [if_neg (fun e => b01.mp e o), r_puts h.2 hc, q_bd1, if_neg (fun e => b01.mp e o), d1, j]
    · rw [if_pos (b01.mpr o0), if_neg (fun e => b01.mp e o)]
      unfold f_X11_reads_J86 f_X11_reads_J99
      rw [if_pos (b01.mpr o0), r_puts h.2 hc, q_bd1, if_pos (b01.mpr o0), d1, j]
  · rw [mv_g e3 (by omega), g_ne (by omega), g_ne (by omega), g_eq]
  · rw [mv_g e3 (by omega), g_ne (by omega), g_ne (by omega), g_ne (by omega), g_eq]
  · rw [mv_g e3 (by omega), g_ne (by omega), g_eq]
  · rw [mv_g e3 (by omega), g_eq]
/-- ) -/
theorem rt_shut (h : RSt q a c m) (hq : TW q) (ha : a ≤ q.1) (hc : c < 1000) (hd : d < 5) (hU : UwN 87 m d d0) (o : siP q a 41) : ∃ m2, (∀ k, f_X11_reads_L11 (k + 1) (nI (d + 1)) (0 : Int32) m = f_X11_reads_L11 k (nI d0) (0 : Int32) m2) ∧ RSt q (nxT q a) (c + 1) m2 ∧ gI m2 86 (1000 + c) = 29 ∧ (∀ d, frQ c d (d + 1) m m2) := by
  have h0 := hU.1
  have h1 : RTk q a (sI (sI m 86 (1000 + c) 29) 78 17 (nI (1000 + (c + 1)))) := RTk_s (RTk_s h.1 (by omega)) (by omega)
  obtain ⟨m2, e1, e2, e3⟩ := r_next2 h1 hq ha
  have hU2 : UwN 87 (sI (sI m 86 (1000 + c) 29) 78 17 (nI (1000 + (c + 1)))) d d0 := ⟨h0, fun i k1 k2 => by rw [g_ne (by omega), g_ne (by omega)]; exact hU.2.1 i k1 k2, hU.2.2.imp id (fun k e => k (by rw [g_ne (by omega), g_ne (by omega)] at e; exact e))⟩
  refine ⟨m2, fun k => ?_, ⟨e2, ?_⟩, ?_, fun d => frQ_m (frQ_s (frQ_s frQ_r (by omega)) (by omega)) e3⟩
  · have s41 : f_X11_isSign (41 : Int32) m = _ := r_sign (s := 41) h.1 hq ha (by omega)
    rw [rt_304 h hq ha (by omega) (n_ne o.2 (by decide)) (n_ne o.2 (by decide)) (n_ne o.2 (by decide)) (fun e => absurd e (fun e2 => e2.elim (n_ne o.2 (by decide)) (n_ne o.2 (by decide))))]
    unfold f_X11_reads_J304
    rw [r_and h.1 hq ha, q_bd2, if_pos (b01.mpr (n_ws o.1)), r_or h.1 hq ha, q_bd2, if_pos (b01.mpr (n_ws o.1)), s41, q_bd2, if_neg (fun e => b01.mp e o), if_pos (q_0lt (by omega) (by omega)), r_puts h.2 hc, q_bd1, q_m1 (by omega), Nat.add_sub_cancel, r_379 (d - d0) FU d (by omega) (by omega) (by show _ < 4096; omega) hU2, e1, q_bd1]
  · rw [mv_g e3 (by omega), g_eq]
  · rw [mv_g e3 (by omega), g_ne (by omega), g_eq]
/-- nothing that joins -/
abbrev noJ (q : Tq) (a d : Nat) (m : Mm) : Prop := ¬ siP q a 43 ∧ ¬ siP q a 45 ∧ ¬ siP q a 42 ∧ (siP q a 60 ∨ siP q a 61 → ¬ gI m 88 d = 0) ∧ ¬ woP q a 2008 ∧ ¬ woP q a 2009
theorem rt_bad (h : RSt q a c m) (hq : TW q) (ha : a ≤ q.1) (hd : d < 6) (hn : noJ q a d m) (h1 : 0 < d → ¬ siP q a 41) (h2 : d = 0 → ¬ siP q a 59) : f_X11_reads_L11 (k + 1) (nI d) (0 : Int32) m = some (nI 0, sI m 78 9 (nI (1 + 16 * a))) := by
  obtain ⟨n1, n2, n3, n4, n5, n6⟩ := hn
  have s41 : f_X11_isSign (41 : Int32) m = _ := r_sign (s := 41) h.1 hq ha (by omega)
  have s59 : f_X11_isSign (59 : Int32) m = _ := r_sign (s := 59) h.1 hq ha (by omega)
  have j : f_X11_reads_J399 (nI d) m = some (nI 0, sI m 78 9 (nI (1 + 16 * a))) := by
    unfold f_X11_reads_J399
    by_cases d0 : d = 0
    · subst d0
      rw [if_pos (by rfl), s59, q_bd2, if_pos (b01.mpr (h2 rfl)), q_l1, r_fails h.1, q_bd2, q_gd2 (by omega)]
    · rw [if_neg (show ¬ nI d = (0 : Int32) from fun e => absurd ((q_eq (b := 0) (by omega) (by omega)).mp e) (by omega)), q_l1, r_fails h.1, q_bd2, q_gd2 (by omega)]
  rw [rt_304 h hq ha (by omega) n1 n2 n3 n4]
  unfold f_X11_reads_J304
  rw [r_and h.1 hq ha, q_bd2, if_pos (b01.mpr n5), r_or h.1 hq ha, q_bd2, if_pos (b01.mpr n6), s41, q_bd2]
  by_cases o : siP q a 41
  · rw [if_neg (fun e => b01.mp e o)]
    by_cases d0 : d = 0
    · subst d0
      rw [if_neg (by decide), j]
    · exact absurd o (h1 (by omega))
  · rw [if_pos (b01.mpr o), j]
theorem rx_end (h : RSt q a c m) (hq : TW q) (ha : a ≤ q.1) (o : siP q a 59) : ∃ m2, (∀ k, f_X11_reads_L11 (k + 1) (nI 0) (0 : Int32) m = some (nI 1, m2)) ∧ RTk q (nxT q a) m2 ∧ mvR m m2 := by
  obtain ⟨m2, e1, e2, e3⟩ := r_next2 h.1 hq ha
  refine ⟨m2, fun k => ?_, e2, e3⟩
  have s41 : f_X11_isSign (41 : Int32) m = _ := r_sign (s := 41) h.1 hq ha (by omega)
  have s59 : f_X11_isSign (59 : Int32) m = _ := r_sign (s := 59) h.1 hq ha (by omega)
  rw [rt_304 h hq ha (by omega) (n_ne o.2 (by decide)) (n_ne o.2 (by decide)) (n_ne o.2 (by decide)) (fun e => absurd e (fun e2 => e2.elim (n_ne o.2 (by decide)) (n_ne o.2 (by decide))))]
  unfold f_X11_reads_J304
  rw [r_and h.1 hq ha, q_bd2, if_pos (b01.mpr (n_ws o.1)), r_or h.1 hq ha, q_bd2, if_pos (b01.mpr (n_ws o.1)), s41, q_bd2, if_pos (b01.mpr (n_ne o.2 (by decide)))]
  unfold f_X11_reads_J399
  rw [if_pos (by rfl), s59, q_bd2, if_neg (fun e => b01.mp e o), e1, q_bd1]
  rfl
end RefF
