/-! MATH HALF: the reference's reading of an expression, step by step -/
/-- what one word of an expression may change: codes from c on, open ones above d, compared from e on -/
def frQ (c d e : Nat) (m m2 : Mm) : Prop := (∀ b i, ¬ (b = 78 ∧ i = 7) → m2.2 b i = m.2 b i) ∧ ∀ b i, ¬ (b = 78 ∧ (i = 4 ∨ i = 5 ∨ i = 6 ∨ i = 8 ∨ i = 9 ∨ i = 17)) → ¬ (b = 86 ∧ 1000 + c ≤ i) → ¬ (b = 87 ∧ d < i) → ¬ (b = 88 ∧ e ≤ i) → m2.1 b i = m.1 b i
def RSt (q : Tq) (a c : Nat) (m : Mm) : Prop := RTk q a m ∧ gI m 78 17 = nI (1000 + c)
/-- the leaf in hand: 1 stripe, 2 size, 3 first, 4 which -/
def lfq (q : Tq) (a : Nat) : Nat := if woP q a 2011 then 1 else if woP q a 2012 then 2 else if woP q a 2013 then 3 else if woP q a 2014 then 4 else 0
section RefE
variable {q : Tq} {a b c d d0 e i j k n p s u x r : Nat} {m m2 m3 : Mm} {y z g f v : Int32}
theorem frQ_r : frQ c d e m m := ⟨fun _ _ _ => rfl, fun _ _ _ _ _ _ => rfl⟩
theorem frQ_t (h1 : frQ c d e m m2) (h2 : frQ c d e m2 m3) : frQ c d e m m3 := ⟨fun b i k => (h2.1 b i k).trans (h1.1 b i k), fun b i k1 k2 k3 k4 => (h2.2 b i k1 k2 k3 k4).trans (h1.2 b i k1 k2 k3 k4)⟩
theorem frQ_le {c2 d2 e2 : Nat} (h : frQ c2 d2 e2 m m2) (h1 : c ≤ c2) (h2 : d ≤ d2) (h3 : e ≤ e2) : frQ c d e m m2 := ⟨h.1, fun b i k1 k2 k3 k4 => h.2 b i k1 (by omega) (by omega) (by omega)⟩
theorem frQ_m (h1 : frQ c d e m m2) (h2 : mvR m2 m3) : frQ c d e m m3 := ⟨fun b i k => (h2.1 b i k).trans (h1.1 b i k), fun b i k1 k2 k3 k4 => (h2.2 b i (by omega)).trans (h1.2 b i k1 k2 k3 k4)⟩
theorem frQ_s (h1 : frQ c d e m m2) (h : (b = 78 ∧ (i = 9 ∨ i = 17)) ∨ (b = 86 ∧ 1000 + c ≤ i) ∨ (b = 87 ∧ d < i) ∨ (b = 88 ∧ e ≤ i)) : frQ c d e m (sI m2 b i y) := ⟨h1.1, fun b2 i2 k1 k2 k3 k4 => by
  simp only [sI]
  rw [if_neg (by omega)]
  exact h1.2 b2 i2 k1 k2 k3 k4⟩
theorem frQ_g (h : frQ c d e m m2) (k1 : ¬ (b = 78 ∧ (i = 4 ∨ i = 5 ∨ i = 6 ∨ i = 8 ∨ i = 9 ∨ i = 17))) (k2 : ¬ (b = 86 ∧ 1000 + c ≤ i)) (k3 : ¬ (b = 87 ∧ d < i)) (k4 : ¬ (b = 88 ∧ e ≤ i)) : gI m2 b i = gI m b i := h.2 b i k1 k2 k3 k4
theorem r_puts (h : gI m 78 17 = nI (1000 + c)) (hc : c < 1000) : f_X11_puts y m = some (sI (sI m 86 (1000 + c) y) 78 17 (nI (1000 + (c + 1)))) := by
  unfold f_X11_puts
  rw [h, q_gd (by omega) (by omega), q_ix (by omega), q_stI, q_stI, g_ne (by omega), h, q_l1, nI_add]
  rfl
theorem r_wcmp (h : RTk q a m) (hq : TW q) (ha : a ≤ q.1) (hp : p < 21) (hx : x = wvN (txQ (2000 + p)) 0 (txn (2000 + p))) (hx2 : x < 27 ^ 8) (k2 : tkC q a = 2) : lg_cmp (gL m 78 7) (lN x) = 0 ↔ woP q a (2000 + p) := by
  have e := r_word2 h hq ha hp hx hx2
  have hC := tkC_le (q := q) (a := a)
  unfold f_X11_isWord at e
  rw [if_pos (by rw [h.2.2.2.1, (kr_1 hC).mpr k2]; rfl)] at e
  by_cases hl : lg_cmp (gL m 78 7) (lN x) = 0
  · rw [if_pos hl] at e
    refine ⟨fun _ => ?_, fun _ => hl⟩
    by_cases hw : woP q a (2000 + p)
    · exact hw
    · rw [if_neg hw] at e
      exact absurd (congrArg Prod.fst (Option.some.inj e)) (show ¬ (1 : Int32) = nI 0 by decide)
  · rw [if_neg hl] at e
    refine ⟨fun h2 => absurd h2 hl, fun hw => ?_⟩
    rw [if_pos hw] at e
    exact absurd (congrArg Prod.fst (Option.some.inj e)) (show ¬ (0 : Int32) = nI 1 by decide)
theorem lq_0 (h : ¬ tkC q a = 2) : lfq q a = 0 := by
  have hw : ∀ x, ¬ woP q a x := fun x hx => h hx.1
  unfold lfq
  rw [if_neg (hw _), if_neg (hw _), if_neg (hw _), if_neg (hw _)]
theorem lq_le : lfq q a ≤ 4 := by
  unfold lfq
  repeat' split
  all_goals omega
theorem lq_C (h : lfq q a ≠ 0) : tkC q a = 2 := by
  by_cases k : tkC q a = 2
  · exact k
  · exact absurd (lq_0 k) h
theorem r_fact (h : RTk q a m) (hq : TW q) (ha : a ≤ q.1) : f_X11_fact m = some (nI (lfq q a), m) := by
  have hC := tkC_le (q := q) (a := a)
  have hK := kr_le hC
  unfold f_X11_fact
  by_cases k2 : tkC q a = 2
  · have w1 : lg_cmp (gL m 78 7) (283619345 : Int64) = 0 ↔ _ := r_wcmp (p := 11) (x := 283619345) h hq ha (by omega) (by decide +kernel) (by decide) k2
    have w2 : lg_cmp (gL m 78 7) (381245 : Int64) = 0 ↔ _ := r_wcmp (p := 12) (x := 381245) h hq ha (by omega) (by decide +kernel) (by decide) k2
    have w3 : lg_cmp (gL m 78 7) (3379448 : Int64) = 0 ↔ _ := r_wcmp (p := 13) (x := 3379448) h hq ha (by omega) (by decide +kernel) (by decide) k2
    have w4 : lg_cmp (gL m 78 7) (12387257 : Int64) = 0 ↔ _ := r_wcmp (p := 14) (x := 12387257) h hq ha (by omega) (by decide +kernel) (by decide) k2
    unfold lfq
    rw [if_pos (by rw [h.2.2.2.1, (kr_1 hC).mpr k2]; rfl)]
    by_cases p1 : woP q a 2011
    · rw [if_pos (w1.mpr p1), if_pos p1]; rfl
    · rw [if_neg (fun e => p1 (w1.mp e)), if_neg p1]
      by_cases p2 : woP q a 2012
      · rw [if_pos (w2.mpr p2), if_pos p2]; rfl
      · rw [if_neg (fun e => p2 (w2.mp e)), if_neg p2]
        by_cases p3 : woP q a 2013
        · rw [if_pos (w3.mpr p3), if_pos p3]; rfl
        · rw [if_neg (fun e => p3 (w3.mp e)), if_neg p3]
          by_cases p4 : woP q a 2014
          · rw [if_pos (w4.mpr p4), if_pos p4]; rfl
          · rw [if_neg (fun e => p4 (w4.mp e)), if_neg p4]; rfl
  · rw [if_neg (by
      rw [h.2.2.2.1]
      exact fun e => k2 ((kr_1 hC).mp ((q_eq (b := 1) (by omega) (by omega)).mp e))), lq_0 k2]; rfl
theorem r_not (h : RTk q a m) (hq : TW q) (ha : a ≤ q.1) : f_X11_isWord (10631 : Int64) m = some (nI (if woP q a 2010 then 1 else 0), m) := r_word2 (p := 10) (x := 10631) h hq ha (by omega) (by decide +kernel) (by decide)
theorem r_and (h : RTk q a m) (hq : TW q) (ha : a ≤ q.1) : f_X11_isWord (1111 : Int64) m = some (nI (if woP q a 2008 then 1 else 0), m) := r_word2 (p := 8) (x := 1111) h hq ha (by omega) (by decide +kernel) (by decide)
theorem r_or (h : RTk q a m) (hq : TW q) (ha : a ≤ q.1) : f_X11_isWord (423 : Int64) m = some (nI (if woP q a 2009 then 1 else 0), m) := r_word2 (p := 9) (x := 423) h hq ha (by omega) (by decide +kernel) (by decide)
theorem mv_g (h : mvR m m2) (hb : ¬ (b = 78 ∧ (i = 4 ∨ i = 5 ∨ i = 6 ∨ i = 8))) : gI m2 b i = gI m b i := h.2 b i hb
theorem n_ne (h : q.2 a = s) (h2 : s ≠ u) : ¬ siP q a u := fun e => h2 (h.symm.trans e.2)
theorem n_sw (h : tkC q a = 2) : ¬ siP q a u := fun e => absurd (h.symm.trans e.1) (by decide)
theorem n_ws (h : tkC q a = 4) : ¬ woP q a u := fun e => absurd (h.symm.trans e.1) (by decide)
/-- a word put down, one forward -/
theorem r_putn (h : RSt q a c m) (hq : TW q) (ha : a ≤ q.1) (hc : c < 1000) : ∃ m2, bd1 (f_X11_puts y m) f_X11_nextToken = some m2 ∧ RSt q (nxT q a) (c + 1) m2 ∧ gI m2 86 (1000 + c) = y ∧ (∀ d, frQ c d (d + 1) m m2) := by
  have h1 : RTk q a (sI (sI m 86 (1000 + c) y) 78 17 (nI (1000 + (c + 1)))) := RTk_s (RTk_s h.1 (by omega)) (by omega)
  obtain ⟨m2, e1, e2, e3⟩ := r_next2 h1 hq ha
  refine ⟨m2, ?_, ⟨e2, ?_⟩, ?_, fun d => frQ_m (frQ_s (frQ_s frQ_r (by omega)) (by omega)) e3⟩
  · rw [r_puts h.2 hc, q_bd1, e1]
  · rw [mv_g e3 (by omega), g_eq]
  · rw [mv_g e3 (by omega), g_ne (by omega), g_eq]
theorem bd1_2 {α : Type} {o : Option Mm} {F : Mm → Option Mm} {K : Mm → Option α} : bd1 o (fun m => bd1 (F m) K) = bd1 (bd1 o F) K := by
  cases o <;> rfl
/-- + - * -/
theorem rt_206 (h : RSt q a c m) (hq : TW q) (ha : a ≤ q.1) (hc : c < 1000) (ho : (siP q a 43 ∧ y = 20) ∨ (siP q a 45 ∧ y = 21) ∨ (siP q a 42 ∧ y = 22)) : ∃ m2, (∀ k, f_X11_reads_L11 (k + 1) (nI d) (0 : Int32) m = f_X11_reads_L11 k (nI d) (1 : Int32) m2) ∧ RSt q (nxT q a) (c + 1) m2 ∧ gI m2 86 (1000 + c) = y ∧ (∀ d, frQ c d (d + 1) m m2) := by
  obtain ⟨m2, e1, e2, e3, e4⟩ := r_putn (y := y) h hq ha hc
  refine ⟨m2, fun k => ?_, e2, e3, e4⟩
  have s43 : f_X11_isSign (43 : Int32) m = _ := r_sign (s := 43) h.1 hq ha (by omega)
  have s45 : f_X11_isSign (45 : Int32) m = _ := r_sign (s := 45) h.1 hq ha (by omega)
  have s42 : f_X11_isSign (42 : Int32) m = _ := r_sign (s := 42) h.1 hq ha (by omega)
  rw [f_X11_reads_L11, if_pos rfl, s43, q_bd2]
  have e : f_X11_reads_J206 (fun w1 w2 m => f_X11_reads_L11 k w1 w2 m) (nI d) m = f_X11_reads_L11 k (nI d) (1 : Int32) m2 := by
    unfold f_X11_reads_J206
    rw [s43, q_bd2]
    rcases ho with ⟨o, rfl⟩ | ⟨o, rfl⟩ | ⟨o, rfl⟩
    · rw [if_neg (fun e => b01.mp e o), bd1_2, e1, q_bd1]
    · rw [if_pos (b01.mpr (n_ne o.2 (by decide))), s45, q_bd2, if_neg (fun e => b01.mp e o), bd1_2, e1, q_bd1]
    · rw [if_pos (b01.mpr (n_ne o.2 (by decide))), s45, q_bd2, if_pos (b01.mpr (n_ne o.2 (by decide))), bd1_2, e1, q_bd1]
  rcases ho with ⟨o, rfl⟩ | ⟨o, rfl⟩ | ⟨o, rfl⟩
  · rw [if_neg (fun e => b01.mp e o), e]
  · rw [if_pos (b01.mpr (n_ne o.2 (by decide))), s45, q_bd2, if_neg (fun e => b01.mp e o), e]
  · rw [if_pos (b01.mpr (n_ne o.2 (by decide))), s45, q_bd2, if_pos (b01.mpr (n_ne o.2 (by decide))), s42, q_bd2, if_neg (fun e => b01.mp e o), e]
/-- a word put down, a note of what is compared, one forward -/
theorem r_put8 (h : RSt q a c m) (hq : TW q) (ha : a ≤ q.1) (hc : c < 1000) (hd : d < 7) : ∃ m1 m2, f_X11_puts y m = some m1 ∧ f_X11_nextToken (sI m1 88 d z) = some m2 ∧ RSt q (nxT q a) (c + 1) m2 ∧ gI m2 86 (1000 + c) = y ∧ gI m2 88 d = z ∧ frQ c d d m m2 := by
  have h1 : RTk q a (sI (sI (sI m 86 (1000 + c) y) 78 17 (nI (1000 + (c + 1)))) 88 d z) := RTk_s (RTk_s (RTk_s h.1 (by omega)) (by omega)) (by omega)
  obtain ⟨m2, e1, e2, e3⟩ := r_next2 h1 hq ha
  refine ⟨_, m2, r_puts h.2 hc, e1, ⟨e2, ?_⟩, ?_, ?_, frQ_m (frQ_s (frQ_s (frQ_s frQ_r (by omega)) (by omega)) (by omega)) e3⟩
  · rw [mv_g e3 (by omega), g_ne (by omega), g_eq]
  · rw [mv_g e3 (by omega), g_ne (by omega), g_ne (by omega), g_eq]
  · rw [mv_g e3 (by omega), g_eq]
/-- < = -/
theorem rt_263 (h : RSt q a c m) (hq : TW q) (ha : a ≤ q.1) (hc : c < 1000) (hd : d < 7) (h88 : gI m 88 d = 0) (ho : (siP q a 60 ∧ y = 24) ∨ (siP q a 61 ∧ y = 25)) : ∃ m2, (∀ k, f_X11_reads_L11 (k + 1) (nI d) (0 : Int32) m = f_X11_reads_L11 k (nI d) (1 : Int32) m2) ∧ RSt q (nxT q a) (c + 1) m2 ∧ gI m2 86 (1000 + c) = y ∧ gI m2 88 d = 1 ∧ frQ c d d m m2 := by
  obtain ⟨m1, m2, e0, e1, e2, e3, e4, e5⟩ := r_put8 (y := y) (z := 1) h hq ha hc hd
  refine ⟨m2, fun k => ?_, e2, e3, e4, e5⟩
  have s43 : f_X11_isSign (43 : Int32) m = _ := r_sign (s := 43) h.1 hq ha (by omega)
  have s45 : f_X11_isSign (45 : Int32) m = _ := r_sign (s := 45) h.1 hq ha (by omega)
  have s42 : f_X11_isSign (42 : Int32) m = _ := r_sign (s := 42) h.1 hq ha (by omega)
  have s60 : f_X11_isSign (60 : Int32) m = _ := r_sign (s := 60) h.1 hq ha (by omega)
  have s61 : f_X11_isSign (61 : Int32) m = _ := r_sign (s := 61) h.1 hq ha (by omega)
  have j : f_X11_reads_J289 (fun w1 w2 m => f_X11_reads_L11 k w1 w2 m) (nI d) y m = f_X11_reads_L11 k (nI d) (1 : Int32) m2 := by
    unfold f_X11_reads_J289
    rw [e0, q_bd1, q_gd hd (by omega), q_ix (by omega), q_stI, e1, q_bd1]
  rw [f_X11_reads_L11, if_pos rfl, s43, q_bd2]
  rcases ho with ⟨o, rfl⟩ | ⟨o, rfl⟩
  · rw [if_pos (b01.mpr (n_ne o.2 (by decide))), s45, q_bd2, if_pos (b01.mpr (n_ne o.2 (by decide))), s42, q_bd2, if_pos (b01.mpr (n_ne o.2 (by decide))), s60, q_bd2, if_neg (fun e => b01.mp e o)]
    unfold f_X11_reads_J263
    rw [q_gd hd (by omega), q_ix (by omega), if_pos h88, s60, q_bd2, if_neg (fun e => b01.mp e o), j]
  · rw [if_pos (b01.mpr (n_ne o.2 (by decide))), s45, q_bd2, if_pos (b01.mpr (n_ne o.2 (by decide))), s42, q_bd2, if_pos (b01.mpr (n_ne o.2 (by decide))), s60, q_bd2, if_pos (b01.mpr (n_ne o.2 (by decide))), s61, q_bd2, if_neg (fun e => b01.mp e o)]
    unfold f_X11_reads_J263
    rw [q_gd hd (by omega), q_ix (by omega), if_pos h88, s60, q_bd2, if_pos (b01.mpr (n_ne o.2 (by decide))), j]
/-- no sign that joins: on to and, or, ) and ; -/
theorem rt_304 (h : RSt q a c m) (hq : TW q) (ha : a ≤ q.1) (hd : d < 7) (n1 : ¬ siP q a 43) (n2 : ¬ siP q a 45) (n3 : ¬ siP q a 42) (n4 : siP q a 60 ∨ siP q a 61 → ¬ gI m 88 d = 0) : f_X11_reads_L11 (k + 1) (nI d) (0 : Int32) m = f_X11_reads_J304 (fun w1 w2 m => f_X11_reads_L11 k w1 w2 m) (nI d) (0 : Int32) m := by
  have s43 : f_X11_isSign (43 : Int32) m = _ := r_sign (s := 43) h.1 hq ha (by omega)
  have s45 : f_X11_isSign (45 : Int32) m = _ := r_sign (s := 45) h.1 hq ha (by omega)
  have s42 : f_X11_isSign (42 : Int32) m = _ := r_sign (s := 42) h.1 hq ha (by omega)
  have s60 : f_X11_isSign (60 : Int32) m = _ := r_sign (s := 60) h.1 hq ha (by omega)
  have s61 : f_X11_isSign (61 : Int32) m = _ := r_sign (s := 61) h.1 hq ha (by omega)
  rw [f_X11_reads_L11, if_pos rfl, s43, q_bd2, if_pos (b01.mpr n1), s45, q_bd2, if_pos (b01.mpr n2), s42, q_bd2, if_pos (b01.mpr n3), s60, q_bd2]
  by_cases c1 : siP q a 60
  · rw [if_neg (fun e => b01.mp e c1)]
    unfold f_X11_reads_J263
    rw [q_gd hd (by omega), q_ix (by omega), if_neg (n4 (Or.inl c1))]
  · rw [if_pos (b01.mpr c1), s61, q_bd2]
    by_cases c2 : siP q a 61
    · rw [if_neg (fun e => b01.mp e c2)]
      unfold f_X11_reads_J263
      rw [q_gd hd (by omega), q_ix (by omega), if_neg (n4 (Or.inr c2))]
    · rw [if_pos (b01.mpr c2)]
/-- and or -/
theorem rt_342 (h : RSt q a c m) (hq : TW q) (ha : a ≤ q.1) (hc : c < 1000) (hd : d < 7) (ho : (woP q a 2008 ∧ y = 26) ∨ (¬ woP q a 2008 ∧ woP q a 2009 ∧ y = 27)) : ∃ m2, (∀ k, f_X11_reads_L11 (k + 1) (nI d) (0 : Int32) m = f_X11_reads_L11 k (nI d) (1 : Int32) m2) ∧ RSt q (nxT q a) (c + 1) m2 ∧ gI m2 86 (1000 + c) = y ∧ gI m2 88 d = 0 ∧ frQ c d d m m2 := by
  obtain ⟨m1, m2, e0, e1, e2, e3, e4, e5⟩ := r_put8 (y := y) (z := 0) h hq ha hc hd
  refine ⟨m2, fun k => ?_, e2, e3, e4, e5⟩
  have hw : tkC q a = 2 := by
    rcases ho with ⟨o, _⟩ | ⟨_, o, _⟩
    · exact o.1
    · exact o.1
  have w1 := r_and h.1 hq ha
  have w2 := r_or h.1 hq ha
  rw [rt_304 h hq ha hd (n_sw hw) (n_sw hw) (n_sw hw) (fun e => absurd e (fun e2 => e2.elim (n_sw hw) (n_sw hw)))]
  unfold f_X11_reads_J304
  have j : f_X11_reads_J342 (fun w1 w2 m => f_X11_reads_L11 k w1 w2 m) (nI d) y m = f_X11_reads_L11 k (nI d) (1 : Int32) m2 := by
    unfold f_X11_reads_J342
    rw [e0, q_bd1, q_gd hd (by omega), q_ix (by omega), q_stI, e1, q_bd1]
  rcases ho with ⟨o, rfl⟩ | ⟨o1, o, rfl⟩
  · rw [w1, q_bd2, if_neg (fun e => b01.mp e o)]
    unfold f_X11_reads_J324
    rw [w1, q_bd2, if_neg (fun e => b01.mp e o), j]
  · rw [w1, q_bd2, if_pos (b01.mpr o1), w2, q_bd2, if_neg (fun e => b01.mp e o)]
    unfold f_X11_reads_J324
    rw [w1, q_bd2, if_pos (b01.mpr o1), j]
end RefE
