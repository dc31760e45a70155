/-! MATH HALF: numbers and ends of lines, on both sides -/
abbrev wiP (lo hi : Int32) (v : Nat) : Prop := ¬ nI v < lo ∧ ¬ hi < nI v
/-- the fault that a number wanting gives, or none -/
def nuF (q : Tq) (a : Nat) (lo hi : Int32) : Nat := if tkC q a = 3 then (if wiP lo hi (tkV q a) then 0 else 4) else 1
section Prim
variable {q : Tq} {a b c d e i j k n p s u x : Nat} {m m2 : Mm} {lo hi : Int32}
theorem CTk_s (h : CTk q a m) {y : Int32} (hb : b ≠ 1 ∧ b ≠ 2 ∨ (b = 1 ∧ i = 6)) : CTk q a (sI m b i y) := by
  have hg : ∀ c j, (c = 1 ∧ j ≤ 5) ∨ c = 2 → gI (sI m b i y) c j = gI m c j := fun c j hc => by
    simp only [gI, sI]
    rw [if_neg (by omega)]
  obtain ⟨⟨h1, h2⟩, h3, h4, h5, h6⟩ := h
  exact ⟨⟨(hg _ _ (by omega)).trans h1, fun i hi => (hg _ _ (by omega)).trans (h2 i hi)⟩, (hg _ _ (by omega)).trans h3, (hg _ _ (by omega)).trans h4, (hg _ _ (by omega)).trans h5, (hg _ _ (by omega)).trans h6⟩
theorem RTk_s (h : RTk q a m) {y : Int32} (hb : ¬ (b = 78 ∧ 3 ≤ i ∧ i ≤ 8) ∧ b ≠ 79) : RTk q a (sI m b i y) := by
  have hg : ∀ c j, (c = 78 ∧ 3 ≤ j ∧ j ≤ 8) ∨ c = 79 → gI (sI m b i y) c j = gI m c j := fun c j hc => by
    simp only [gI, sI]
    rw [if_neg (by omega)]
  obtain ⟨⟨h1, h2⟩, h3, h4, h5, h6, h7⟩ := h
  exact ⟨⟨(hg _ _ (by omega)).trans h1, fun i hi => (hg _ _ (by omega)).trans (h2 i hi)⟩, (hg _ _ (by omega)).trans h3, (hg _ _ (by omega)).trans h4, (hg _ _ (by omega)).trans h5, h6, fun k3 => (hg _ _ (by omega)).trans (h7 k3)⟩
theorem q_m16 (k : Nat) : (16 : Int32) * nI k = nI (16 * k) := pk_mul 16 k
theorem c_fail (h : CTk q a m) (h0 : gI m 1 6 = 0) : f_X7_fail (nI c) m = some (sI m 1 6 (nI (c + 16 * a))) := by
  unfold f_X7_fail
  rw [if_pos h0, h.2.2.1, q_m16, nI_add, q_stI]
theorem r_fails (h : RTk q a m) : f_X11_fails (nI c) m = some (nI 0, sI m 78 9 (nI (c + 16 * a))) := by
  unfold f_X11_fails
  rw [h.2.1, q_m16, nI_add, q_stI]
  rfl
theorem c_nwOk (h : CTk q a m) (hq : TW q) (ha : a ≤ q.1) (h0 : gI m 1 6 = 0) (hf : nuF q a lo hi = 0) : ∃ m2, f_X7_numberWithin lo hi m = some (nI (tkV q a), m2) ∧ CTk q (nxT q a) m2 ∧ mvC m m2 := by
  obtain ⟨m2, e1, e2, e3⟩ := c_adv2 h hq ha
  have hC := tkC_le (q := q) (a := a)
  unfold nuF at hf
  have k3 : tkC q a = 3 := by
    by_cases k : tkC q a = 3
    · exact k
    · rw [if_neg k] at hf; exact absurd hf (by decide)
  rw [if_pos k3] at hf
  have kw : wiP lo hi (tkV q a) := by
    by_cases k : wiP lo hi (tkV q a)
    · exact k
    · rw [if_neg k] at hf; exact absurd hf (by decide)
  refine ⟨m2, ?_, e2, e3⟩
  unfold f_X7_numberWithin
  rw [if_pos h0, h.2.1, if_pos (by rw [k3]; rfl), h.2.2.2.2, if_neg kw.1, if_neg kw.2, e1, q_bd1]
theorem c_nwBad (h : CTk q a m) (h0 : gI m 1 6 = 0) (hf : nuF q a lo hi ≠ 0) : f_X7_numberWithin lo hi m = some (nI 0, sI m 1 6 (nI (nuF q a lo hi + 16 * a))) := by
  have hC := tkC_le (q := q) (a := a)
  unfold f_X7_numberWithin
  rw [if_pos h0, h.2.1, q_l3]
  unfold nuF at hf ⊢
  by_cases k3 : tkC q a = 3
  · rw [if_pos k3] at hf ⊢
    have kw : ¬ wiP lo hi (tkV q a) := fun k => hf (if_pos k)
    rw [if_pos (by rw [k3]), h.2.2.2.2, if_neg kw, q_l4, c_fail h h0, q_bd1]
    by_cases k1 : nI (tkV q a) < lo
    · rw [if_pos k1]; rfl
    · rw [if_neg k1, if_pos (Classical.not_not.mp (fun k2 => kw ⟨k1, k2⟩))]; rfl
  · rw [if_neg (fun e => k3 ((q_eq (by omega) (by omega)).mp e)), if_neg k3, q_l1, c_fail h h0, q_bd1]
    rfl
theorem c_nwNo (h0 : ¬ gI m 1 6 = 0) : f_X7_numberWithin lo hi m = some (nI 0, m) := by
  unfold f_X7_numberWithin
  rw [if_neg h0]
  rfl
theorem r_needs (h : RTk q a m) (hq : TW q) (ha : a ≤ q.1) (hf : nuF q a lo hi = 0) : ∃ m2, f_X11_needsNumber lo hi m = some (nI 1, m2) ∧ RTk q (nxT q a) m2 ∧ gI m2 78 31 = nI (tkV q a) ∧ mvR (sI m 78 31 (nI (tkV q a))) m2 := by
  obtain ⟨m2, e1, e2, e3⟩ := r_next2 (RTk_s (b := 78) (i := 31) (y := nI (tkV q a)) h (by omega)) hq ha
  have hC := tkC_le (q := q) (a := a)
  have hK := kr_le hC
  unfold nuF at hf
  have k3 : tkC q a = 3 := by
    by_cases k : tkC q a = 3
    · exact k
    · rw [if_neg k] at hf; exact absurd hf (by decide)
  rw [if_pos k3] at hf
  have kw : wiP lo hi (tkV q a) := by
    by_cases k : wiP lo hi (tkV q a)
    · exact k
    · rw [if_neg k] at hf; exact absurd hf (by decide)
  refine ⟨m2, ?_, e2, ?_, e3⟩
  · unfold f_X11_needsNumber f_X11_within
    rw [h.2.2.2.1, if_pos (by rw [(kr_2 hC).mpr k3]; rfl), h.2.2.2.2.2 k3, if_neg kw.1, if_neg kw.2, q_bd2, if_neg (by decide), h.2.2.2.2.2 k3, q_stI, e1, q_bd1]
    rfl
  · have := e3.2 78 31 (by omega)
    refine Eq.trans this ?_
    simp [sI]
theorem r_needsBad (h : RTk q a m) (hf : nuF q a lo hi ≠ 0) : f_X11_needsNumber lo hi m = some (nI 0, sI m 78 9 (nI (nuF q a lo hi + 16 * a))) := by
  have hC := tkC_le (q := q) (a := a)
  have hK := kr_le hC
  unfold f_X11_needsNumber f_X11_within
  rw [h.2.2.2.1, q_l2]
  unfold nuF at hf ⊢
  by_cases k3 : tkC q a = 3
  · rw [if_pos k3] at hf ⊢
    have kw : ¬ wiP lo hi (tkV q a) := fun k => hf (if_pos k)
    rw [if_pos (by rw [(kr_2 hC).mpr k3]), h.2.2.2.2.2 k3, if_neg kw]
    by_cases k1 : nI (tkV q a) < lo
    · rw [if_pos k1, q_bd2, if_pos (by rfl), q_l4, r_fails h, q_bd2, q_gd2 (by omega)]
    · rw [if_neg k1, if_pos (Classical.not_not.mp (fun k2 => kw ⟨k1, k2⟩)), q_bd2, if_pos (by rfl), q_l4, r_fails h, q_bd2, q_gd2 (by omega)]
  · rw [if_neg (fun e => k3 ((kr_2 hC).mp ((q_eq (by omega) (by omega)).mp e))), if_neg k3, q_l1, r_fails h, q_bd2, q_gd2 (by omega)]
theorem c_pass (h : CTk q a m) (hq : TW q) (ha : a ≤ q.1) (h0 : gI m 1 6 = 0) (hs : s < 1000) (hp : siP q a s) : ∃ m2, f_X7_pass (nI s) m = some m2 ∧ CTk q (nxT q a) m2 ∧ mvC m m2 := by
  obtain ⟨m2, e1, e2, e3⟩ := c_adv2 h hq ha
  refine ⟨m2, ?_, e2, e3⟩
  unfold f_X7_pass
  rw [if_pos h0, c_sign h hq ha hs, if_pos hp, q_bd2, if_neg (by decide), e1, q_bd1]
theorem c_passBad (h : CTk q a m) (hq : TW q) (ha : a ≤ q.1) (h0 : gI m 1 6 = 0) (hs : s < 1000) (hp : ¬ siP q a s) : f_X7_pass (nI s) m = some (sI m 1 6 (nI (1 + 16 * a))) := by
  unfold f_X7_pass
  rw [if_pos h0, c_sign h hq ha hs, if_neg hp, q_bd2, if_pos (by rfl), q_l1, c_fail h h0, q_bd1]
theorem c_passNo (h0 : ¬ gI m 1 6 = 0) : f_X7_pass (nI s) m = some m := by
  unfold f_X7_pass
  rw [if_neg h0]
theorem r_closes (h : RTk q a m) (hq : TW q) (ha : a ≤ q.1) (hp : siP q a 59) : ∃ m2, f_X11_closes m = some (nI 1, m2) ∧ RTk q (nxT q a) m2 ∧ mvR m m2 := by
  obtain ⟨m2, e1, e2, e3⟩ := r_next2 h hq ha
  refine ⟨m2, ?_, e2, e3⟩
  unfold f_X11_closes
  rw [q_l59, r_sign h hq ha (by omega), if_pos hp, q_bd2, if_neg (by decide), e1, q_bd1]
  rfl
theorem r_closesBad (h : RTk q a m) (hq : TW q) (ha : a ≤ q.1) (hp : ¬ siP q a 59) : f_X11_closes m = some (nI 0, sI m 78 9 (nI (1 + 16 * a))) := by
  unfold f_X11_closes
  rw [q_l59, r_sign h hq ha (by omega), if_neg hp, q_bd2, if_pos (by rfl), q_l1, r_fails h, q_bd2, q_gd2 (by omega)]
end Prim
