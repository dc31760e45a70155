/-! MATH HALF: all lines of an array -/
def ArF (u : Nat) (mc mr : Mm) (oc or' : Option (Int32 × Mm)) : Prop := ∃ F mc2 mr2, 0 < F ∧ F < 100000 ∧ oc = some (nI F, mc2) ∧ frU u mc mc2 ∧ or' = some (nI 0, mr2) ∧ gI mr2 78 9 = nI F ∧ frT mr mr2
def ArE (q : Tq) (u : Nat) (mc mr : Mm) (oc or' : Option (Int32 × Mm)) : Prop := ∃ T sp p f a mc2 mr2, oc = some (nI 0, mc2) ∧ or' = some (nI 1, mr2) ∧ ArS q u T sp p f a mc2 mr2 ∧ frU u mc mc2 ∧ frT mr mr2
section Lines4
variable {q : Tq} {a b c d e i j k n s u x sp D B : Nat} {m m2 m3 mc mr : Mm} {y z v : Int32} {p f : List Int32} {T : Lv}
theorem l21_no (h : ¬ gI m 1 6 = 0) : f_X0_fill_L21 u (k + 1) v m = some (gI m 1 6, m) := by
  rw [f_X0_fill_L21, if_neg h]
  split <;> rfl
/-- which line it is, on both sides -/
theorem ar_w (hq : TW q) (hu : u = 3 ∨ u = 10) (hC0 : tkC q a ≠ 0) (h : ArS q u T sp p f a mc mr) (hj : j < 1000) (fu fv : Nat) : ∃ oc or', f_X0_fill_L21 u (fu + 1) (nI j) mc = bd1 oc (fun m => f_X0_fill_L21 u fu (nI (j + 1)) m) ∧ f_X11_readsAll_L65 (fv + 1) mr = bd2 or' (fun r m => if r = 0 then some ((0 : Int32), m) else f_X11_readsAll_L65 fv m) ∧ (LnF u mc mr oc or' ∨ LnS q u a mc mr oc or') := by
  have h' := h
  obtain ⟨ha, ⟨hc, h0⟩, hr, hTC, hTR, hLC, hLR, ⟨hW, hS, hP, hsp⟩, hG, hp, hf⟩ := h'
  have hC := tkC_le (q := q) (a := a)
  have hK := kr_le hC
  have w0 : f_X7_isWord 1000 mc = _ := c_word (p := 0) hc hq ha (by omega)
  have w1 : f_X7_isWord 1001 mc = _ := c_word (p := 1) hc hq ha (by omega)
  have w2 : f_X7_isWord 1002 mc = _ := c_word (p := 2) hc hq ha (by omega)
  have w3 : f_X7_isWord 1003 mc = _ := c_word (p := 3) hc hq ha (by omega)
  have x0 : f_X11_isWord (2317078 : Int64) mr = _ := r_word2 (p := 0) (x := 2317078) hr hq ha (by omega) (by decide +kernel) (by decide)
  have x1 : f_X11_isWord (1310105 : Int64) mr = _ := r_word2 (p := 1) (x := 1310105) hr hq ha (by omega) (by decide +kernel) (by decide)
  have x2 : f_X11_isWord (230475373 : Int64) mr = _ := r_word2 (p := 2) (x := 230475373) hr hq ha (by omega) (by decide +kernel) (by decide)
  have x3 : f_X11_isWord (10416091 : Int64) mr = _ := r_word2 (p := 3) (x := 10416091) hr hq ha (by omega) (by decide +kernel) (by decide)
  have lt : nI j < (1000 : Int32) := (q_ltp (b := 1000) (by omega) (by omega)).mpr hj
  have e1 : ¬ gI mc 1 2 = 0 := by
    rw [hc.2.1]
    exact fun e => hC0 ((q_eq (b := 0) (by omega) (by omega)).mp e)
  have e2 : ¬ gI mr 78 6 = 0 := by
    rw [hr.2.2.2.1]
    exact fun e => hC0 ((kr_0 hC).mp ((q_eq (b := 0) (by omega) (by omega)).mp e))
  have ej : nI j + (1 : Int32) = nI (j + 1) := by rw [q_l1, nI_add]
  rw [f_X0_fill_L21, if_pos lt, if_pos h0, if_neg e1, w0, q_bd2, f_X11_readsAll_L65, if_neg e2, x0, q_bd2, ej]
  by_cases p0 : woP q a 2000
  · rw [if_neg (fun e => b01.mp e p0), if_neg (fun e => b01.mp e p0)]
    exact ⟨_, _, rfl, rfl, ln_disks hq hu hC0 h⟩
  · rw [if_pos (b01.mpr p0), if_pos (b01.mpr p0), w1, q_bd2, x1, q_bd2]
    by_cases p1 : woP q a 2001
    · rw [if_neg (fun e => b01.mp e p1), if_neg (fun e => b01.mp e p1)]
      exact ⟨_, _, rfl, rfl, ln_block hq hu hC0 h⟩
    · rw [if_pos (b01.mpr p1), if_pos (b01.mpr p1), w2, q_bd2, x2, q_bd2]
      by_cases p2 : woP q a 2002
      · rw [if_neg (fun e => b01.mp e p2), if_neg (fun e => b01.mp e p2)]
        exact ⟨_, _, rfl, rfl, ln_parity hq hu hC0 h⟩
      · rw [if_pos (b01.mpr p2), if_pos (b01.mpr p2), w3, q_bd2, x3, q_bd2]
        by_cases p3 : woP q a 2003
        · rw [if_neg (fun e => b01.mp e p3), if_neg (fun e => b01.mp e p3)]
          exact ⟨_, _, rfl, rfl, ln_speed hq hu hC0 h⟩
        · rw [if_pos (b01.mpr p3), if_pos (b01.mpr p3)]
          exact ⟨_, _, rfl, rfl, Or.inl (ln_now hq ha hc h0 hr (v1 := 1) (by omega) (by omega) frU_r frT_r)⟩
theorem arL (hq : TW q) (hu : u = 3 ∨ u = 10) : ∀ (w : Nat) (T : Lv) (sp : Nat) (p f : List Int32) (a : Nat) (mc mr : Mm) (j fu fv : Nat), q.1 - a ≤ w → w < fu → w < fv → j ≤ a → ArS q u T sp p f a mc mr → ArF u mc mr (f_X0_fill_L21 u fu (nI j) mc) (f_X11_readsAll_L65 fv mr) ∨ ArE q u mc mr (f_X0_fill_L21 u fu (nI j) mc) (f_X11_readsAll_L65 fv mr) := by
  intro w
  induction w with
  | zero =>
    intro T sp p f a mc mr j fu fv hw hfu hfv hj h
    obtain ⟨fu', rfl⟩ : ∃ x, fu = x + 1 := ⟨fu - 1, by omega⟩
    obtain ⟨fv', rfl⟩ : ∃ x, fv = x + 1 := ⟨fv - 1, by omega⟩
    have h' := h
    obtain ⟨ha, ⟨hc, h0⟩, hr, _⟩ := h'
    have hC := tkC_le (q := q) (a := a)
    have hC0 : tkC q a = 0 := Classical.not_not.mp (fun e => absurd (tkC_in e) (by omega))
    have e1 : gI mc 1 2 = 0 := by rw [hc.2.1, hC0]; rfl
    have e2 : gI mr 78 6 = 0 := by rw [hr.2.2.2.1, (kr_0 hC).mpr hC0]; rfl
    right
    refine ⟨T, sp, p, f, a, mc, mr, ?_, ?_, h, frU_r, frT_r⟩
    · rw [f_X0_fill_L21, if_pos h0, if_pos e1, h0]
      split <;> rfl
    · rw [f_X11_readsAll_L65, if_pos e2]; rfl
  | succ w ih =>
    intro T sp p f a mc mr j fu fv hw hfu hfv hj h
    obtain ⟨fu', rfl⟩ : ∃ x, fu = x + 1 := ⟨fu - 1, by omega⟩
    obtain ⟨fv', rfl⟩ : ∃ x, fv = x + 1 := ⟨fv - 1, by omega⟩
    have h' := h
    obtain ⟨ha, ⟨hc, h0⟩, hr, _⟩ := h'
    have hq1 := hq.1
    have hC := tkC_le (q := q) (a := a)
    by_cases hC0 : tkC q a = 0
    · have e1 : gI mc 1 2 = 0 := by rw [hc.2.1, hC0]; rfl
      have e2 : gI mr 78 6 = 0 := by rw [hr.2.2.2.1, (kr_0 hC).mpr hC0]; rfl
      right
      refine ⟨T, sp, p, f, a, mc, mr, ?_, ?_, h, frU_r, frT_r⟩
      · rw [f_X0_fill_L21, if_pos h0, if_pos e1, h0]
        split <;> rfl
      · rw [f_X11_readsAll_L65, if_pos e2]; rfl
    · have hin := tkC_in hC0
      obtain ⟨oc, or', E1, E2, E3⟩ := ar_w hq hu hC0 h (j := j) (by omega) fu' fv'
      rw [E1, E2]
      rcases E3 with ⟨F, mc2, mr2, b1, b2, b3, b4, b5, b6, b7, b8⟩ | ⟨T', sp', p', f', a1, mc2, mr2, b1, b2, b3, b4, b5, b6⟩
      · left
        obtain ⟨fu2, rfl⟩ : ∃ x, fu' = x + 1 := ⟨fu' - 1, by omega⟩
        rw [b3, q_bd1, l21_no (F_nz b1 b2 b4), b6, q_bd2, if_pos (by rfl), b4]
        exact ⟨F, mc2, mr2, b1, b2, rfl, b5, rfl, b7, b8⟩
      · rw [b2, q_bd1, b3, q_bd2, if_neg (by decide)]
        rcases ih T' sp' p' f' a1 mc2 mr2 (j + 1) fu' fv' (by omega) (by omega) (by omega) (by omega) b4 with ⟨F, mc3, mr3, c1, c2, c3, c4, c5, c6, c7⟩ | ⟨T3, sp3, p3, f3, a3, mc3, mr3, c1, c2, c3, c4, c5⟩
        · exact Or.inl ⟨F, mc3, mr3, c1, c2, c3, frU_t b5 c4, c5, c6, frT_t b6 c7⟩
        · exact Or.inr ⟨T3, sp3, p3, f3, a3, mc3, mr3, c1, c2, c3, frU_t b5 c4, frT_t b6 c5⟩
end Lines4
