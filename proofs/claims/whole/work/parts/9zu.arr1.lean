/-! MATH HALF: the call array, its beginning and what is laid -/
def T00 : Lv := fun c j => if c = 0 ∧ j = 2 then 4 else 0
def shM (p n k : Nat) (m : Mm) : Mm := (fun b i => if b = p ∧ i < k then m.1 p (n + i) else m.1 b i, m.2)
section Arr1
variable {q : Tq} {a b c d e i j k n s u x sp D B : Nat} {m m2 m3 mc mr : Mm} {y z v : Int32} {p f : List Int32} {T : Lv}
theorem t00_W : WTo T00 ∧ cS T00 (tD T00) (tB T00) ≤ 40 ∧ tP T00 = (if (0 : Nat) = 0 then 4 else 0) ∧ (0 : Nat) ≤ 9 := by
  have eD : tD T00 = 0 := rfl
  have eB : tB T00 = 0 := rfl
  have eP : tP T00 = 4 := rfl
  refine ⟨⟨Or.inl eD, by rw [eD]; omega, by rw [eB]; omega, by rw [eB]; intro h; omega, by rw [eP]; omega, by rw [eP]; omega, fun b hb => absurd hb (by rw [eB]; omega), fun b v hb => absurd hb (by rw [eB]; omega), fun b v w hb => absurd hb (by rw [eB]; omega)⟩, by rw [eB]; exact Nat.zero_le _, eP, by omega⟩
theorem ar_C0 (hu : u = 3 ∨ u = 10) (h : TC q m) (hq : TW q) : ∃ ma, f_X0_fill u m = f_X0_fill_L21 u FU (nI 0) ma ∧ (CTk q (skT q 0) ma ∧ gI ma 1 6 = 0) ∧ TdC u T00 0 ma ∧ LwC u [] ma ∧ frU u m ma := by
  have tc : TC q (sI (sI (sI (sI (sI (sI m u 0 (nI 0)) u 1 (nI 0)) u 2 (nI 0)) (u + 4) 1 (nI 0)) 1 6 (nI 0)) 1 4 (nI 0)) := ⟨by rw [g_ne (by omega), g_ne (by omega), g_ne (by omega), g_ne (by omega), g_ne (by omega), g_ne (by omega)]; exact h.1, fun i hi => by rw [g_ne (by omega), g_ne (by omega), g_ne (by omega), g_ne (by omega), g_ne (by omega), g_ne (by omega)]; exact h.2 i hi⟩
  obtain ⟨ma, a1, a2, a3⟩ := c_advP tc hq (Nat.zero_le _) g_eq
  refine ⟨ma, ?_, ⟨a2, ?_⟩, ⟨?_, ?_, ?_, fun b hb => absurd hb (Nat.not_lt_zero _), fun b hb => absurd hb (Nat.not_lt_zero _), fun b v hb => absurd hb (Nat.not_lt_zero _)⟩, ⟨?_, trivial⟩, ?_⟩
  · unfold f_X0_fill f_X8_clear f_X7_rewind
    rw [q_l0, q_stI, q_stI, q_stI, q_stI, q_bd1, q_stI, q_stI, a1, q_bd1, q_bd1]
  · rw [mc_g a3 (by omega), g_ne (by omega), g_eq]; rfl
  · rw [mc_g a3 (by omega), g_ne (by omega), g_ne (by omega), g_ne (by omega), g_ne (by omega), g_ne (by omega), g_eq]; rfl
  · rw [mc_g a3 (by omega), g_ne (by omega), g_ne (by omega), g_ne (by omega), g_ne (by omega), g_eq]
  · rw [mc_g a3 (by omega), g_ne (by omega), g_ne (by omega), g_ne (by omega), g_eq]; rfl
  · rw [mc_g a3 (by omega), g_ne (by omega), g_ne (by omega), g_eq]; rfl
  · refine frU_m (m2 := sI (sI (sI (sI (sI (sI m u 0 (nI 0)) u 1 (nI 0)) u 2 (nI 0)) (u + 4) 1 (nI 0)) 1 6 (nI 0)) 1 4 (nI 0)) ⟨rfl, fun b i k1 k2 => ?_⟩ a3
    exact (show gI _ b i = gI m b i by rw [g_ne (by omega), g_ne (by omega), g_ne (by omega), g_ne (by omega), g_ne (by omega), g_ne (by omega)])
theorem ar_R0 (h : TR q m) (hq : TW q) : ∃ md, f_X11_readsAll m = f_X11_readsAll_L65 FU md ∧ RTk q (skT q 0) md ∧ TdR T00 0 md ∧ LwR [] md ∧ gI md 78 1 = nI 0 ∧ (∀ b i, ¬ (b = 78 ∧ (i = 1 ∨ i = 3)) → ¬ (b = 78 ∧ ((4 ≤ i ∧ i ≤ 9) ∨ i = 17 ∨ i = 18 ∨ i = 31)) → ¬ (b = 80 ∧ 3 ≤ i) → ¬ ((b = 84 ∨ b = 85) ∧ i = 1) → md.1 b i = m.1 b i) ∧ ∀ b i, ¬ (b = 78 ∧ i = 7) → md.2 b i = m.2 b i := by
  obtain ⟨jf, hj⟩ := FU_n (n := 3) (by omega)
  have h781 : gI (sI (sI (sI (sI (sI (sI (sI m 80 3 (nI 0)) 80 4 (nI 0)) 80 5 (nI 4)) 78 18 (nI 0)) 84 1 (nI 1000)) 85 1 (nI 1000)) 78 17 (nI 1000)) 78 1 = nI q.1 := by
    rw [g_ne (by omega), g_ne (by omega), g_ne (by omega), g_ne (by omega), g_ne (by omega), g_ne (by omega), g_ne (by omega)]; exact h.1
  generalize hm5 : sI (sI (sI (sI (sI (sI (sI m 80 3 (nI 0)) 80 4 (nI 0)) 80 5 (nI 4)) 78 18 (nI 0)) 84 1 (nI 1000)) 85 1 (nI 1000)) 78 17 (nI 1000) = m5 at h781
  have g5 : ∀ b i, ¬ (b = 78 ∧ (i = 17 ∨ i = 18)) → ¬ (b = 80 ∧ 3 ≤ i) → ¬ ((b = 84 ∨ b = 85) ∧ i = 1) → gI m5 b i = gI m b i := fun b i k1 k2 k3 => by
    rw [← hm5, g_ne (by omega), g_ne (by omega), g_ne (by omega), g_ne (by omega), g_ne (by omega), g_ne (by omega), g_ne (by omega)]
  have tr : TRn q (sI (sI (sI m5 78 3 (nI q.1)) 78 1 (nI 0)) 78 4 (nI 0)) := ⟨by rw [g_ne (by omega), g_ne (by omega), g_eq], fun i hi => by
    rw [g_ne (by omega), g_ne (by omega), g_ne (by omega), g5 _ _ (by omega) (by omega) (by omega)]
    exact h.2 i hi⟩
  obtain ⟨md, d1, d2, d3⟩ := r_nextP tr hq (Nat.zero_le _) g_eq
  have gd1 : ∀ b i, ¬ (b = 78 ∧ (i = 1 ∨ i = 3 ∨ i = 4 ∨ i = 5 ∨ i = 6 ∨ i = 8)) → gI md b i = gI m5 b i := fun b i k => by
    rw [mv_g d3 (by omega), g_ne (by omega), g_ne (by omega), g_ne (by omega)]
  have x0 : ix (nI 3) = 3 := rfl
  have x1 : ix (nI 4) = 4 := rfl
  have x2 : ix (nI 5) = 5 := rfl
  have x3 : ix (nI 1) = 1 := rfl
  refine ⟨md, ?_, d2, ⟨?_, ?_, ?_, ?_, fun b hb => absurd hb (Nat.not_lt_zero _), fun b hb => absurd hb (Nat.not_lt_zero _), fun b v hb => absurd hb (Nat.not_lt_zero _)⟩, ⟨?_, ?_, ?_, trivial⟩, ?_, fun b i k1 k2 k3 k4 => ?_, fun b i k1 => ?_⟩
  · unfold f_X11_readsAll
    rw [hj, f_X11_readsAll_L2, if_pos (by decide), if_neg (by decide), q_l0, q_l3, nI_add, q_gd (by omega) (by omega), x0, q_stI, q_l1, nI_add, f_X11_readsAll_L2, if_pos (by decide), if_neg (by decide), q_l0, q_l3, nI_add, q_gd (by omega) (by omega), x1, q_stI, q_l1, nI_add, f_X11_readsAll_L2, if_pos (by decide), if_pos (by decide), q_l3, nI_add, q_gd (by omega) (by omega), x2, q_stI, q_l1, nI_add, f_X11_readsAll_L2, if_neg (by decide), q_l0, q_stI, q_l1, x3, q_l1000, q_stI, q_stI, q_stI, q_l4, hm5]
    unfold f_X11_begins
    rw [q_l0, h781, q_stI, q_stI, q_stI, d1, q_bd1, q_bd1, ← hj]
  · rw [gd1 _ _ (by omega), ← hm5, g_ne (by omega), g_ne (by omega), g_ne (by omega), g_ne (by omega), g_ne (by omega), g_ne (by omega), g_eq]; rfl
  · rw [gd1 _ _ (by omega), ← hm5, g_ne (by omega), g_ne (by omega), g_ne (by omega), g_ne (by omega), g_eq]; rfl
  · rw [gd1 _ _ (by omega), ← hm5, g_ne (by omega), g_ne (by omega), g_ne (by omega), g_eq, if_pos rfl]
  · rw [gd1 _ _ (by omega), ← hm5, g_ne (by omega), g_ne (by omega), g_ne (by omega), g_ne (by omega), g_ne (by omega), g_eq]; rfl
  · rw [gd1 _ _ (by omega), ← hm5, g_ne (by omega), g_ne (by omega), g_eq]
  · rw [gd1 _ _ (by omega), ← hm5, g_ne (by omega), g_eq]; rfl
  · rw [gd1 _ _ (by omega), ← hm5, g_eq]; rfl
  · rw [mv_g d3 (by omega), g_ne (by omega), g_eq]
  · exact (show gI md b i = _ from gd1 b i (by omega)).trans (g5 b i (by omega) k3 k4)
  · exact (d3.1 b i k1).trans (by rw [← hm5]; rfl)
/-- one row moved to the front -/
theorem r_shift (hn : n ≤ 1000) (hl : 2 * n ≤ (lay k).2) : f_X11_shifts k (nI n) m = some (shM k n n m) := by
  have e0 : m = shM k n 0 m := by
    refine mm_ext (fun b i => ?_) rfl
    simp only [shM]
    rw [if_neg (by omega)]
  unfold f_X11_shifts
  rw [q_l0]
  conv => lhs; rw [e0]
  refine lp0 (fun j v => f_X11_shifts_L2 k j (nI n) (nI v) (shM k n v m)) n _ (fun j => ?_) (fun j v hv => ?_) (by omega)
  · simp only [f_X11_shifts_L2]
    rw [if_neg (fun e => absurd ((q_ltp (by omega) (by omega)).mp e) (by omega))]
  · have r1 : gI (shM k n v m) k (n + v) = gI m k (n + v) := by
      simp only [gI, shM]
      rw [if_neg (by omega)]
    have r2 : sI (shM k n v m) k v (gI m k (n + v)) = shM k n (v + 1) m := by
      refine mm_ext (fun b i => ?_) rfl
      simp only [sI, gI, shM]
      by_cases h : b = k ∧ i = v
      · obtain ⟨rfl, rfl⟩ := h
        rw [if_pos ⟨rfl, rfl⟩, if_pos (by omega)]
      · rw [if_neg h]
        by_cases h2 : b = k ∧ i < v
        · rw [if_pos h2, if_pos (by omega)]
        · rw [if_neg h2, if_neg (by omega)]
    simp only [f_X11_shifts_L2]
    rw [if_pos ((q_ltp (by omega) (by omega)).mpr hv), nI_add, q_gd (by omega) (by omega), q_gd (by omega) (by omega), q_ix (by omega), q_ix (by omega), r1, q_stI, r2, q_l1, nI_add]
theorem shf_g (h : ¬ (b = k ∧ i < n)) : gI (shM k n n m) b i = gI m b i := by
  simp only [gI, shM]
  rw [if_neg h]
theorem shf_e (h : i < n) : gI (shM k n n m) k i = gI m k (n + i) := by
  show (if k = k ∧ i < n then m.1 k (n + i) else m.1 k i) = _
  rw [if_pos ⟨rfl, h⟩]
  rfl
theorem ar_lays : ∃ m2, f_X11_lays m = some m2 ∧ (∀ i, i < 3 → gI m2 80 i = gI m 80 (3 + i)) ∧ (∀ i, i < 6 → gI m2 81 i = gI m 81 (6 + i) ∧ gI m2 82 i = gI m 82 (6 + i)) ∧ (∀ i, i < 30 → gI m2 83 i = gI m 83 (30 + i)) ∧ (∀ i, i < 1000 → gI m2 86 i = gI m 86 (1000 + i)) ∧ gI m2 84 0 = gI m 84 1 - nI 1000 ∧ gI m2 85 0 = gI m 85 1 - nI 1000 ∧ m2.2 = m.2 ∧ ∀ b i, ¬ (b = 80 ∧ i < 3) → ¬ ((b = 81 ∨ b = 82) ∧ i < 6) → ¬ (b = 83 ∧ i < 30) → ¬ (b = 86 ∧ i < 1000) → ¬ ((b = 84 ∨ b = 85) ∧ i = 0) → gI m2 b i = gI m b i := by
  have s1 : f_X11_shifts 80 (3 : Int32) m = _ := r_shift (n := 3) (k := 80) (m := m) (by omega) (by decide +kernel)
  have s2 : ∀ m, f_X11_shifts 81 (6 : Int32) m = some (shM 81 6 6 m) := fun m => r_shift (n := 6) (k := 81) (m := m) (by omega) (by decide +kernel)
  have s3 : ∀ m, f_X11_shifts 82 (6 : Int32) m = some (shM 82 6 6 m) := fun m => r_shift (n := 6) (k := 82) (m := m) (by omega) (by decide +kernel)
  have s4 : ∀ m, f_X11_shifts 83 (30 : Int32) m = some (shM 83 30 30 m) := fun m => r_shift (n := 30) (k := 83) (m := m) (by omega) (by decide +kernel)
  have s5 : ∀ m, f_X11_shifts 86 (1000 : Int32) m = some (shM 86 1000 1000 m) := fun m => r_shift (n := 1000) (k := 86) (m := m) (by omega) (by decide +kernel)
  have i0 : ix (0 : Int32) = 0 := rfl
  have i1 : ix (1 : Int32) = 1 := rfl
  unfold f_X11_lays
  rw [s1, q_bd1, s2, q_bd1, s3, q_bd1, s4, q_bd1, s5, q_bd1, i0, i1, q_stI, q_stI, q_l1000]
  refine ⟨_, rfl, fun i hi => ?_, fun i hi => ⟨?_, ?_⟩, fun i hi => ?_, fun i hi => ?_, ?_, ?_, rfl, fun b i k1 k2 k3 k4 k5 => ?_⟩
  · rw [g_ne (by omega), g_ne (by omega), shf_g (by omega), shf_g (by omega), shf_g (by omega), shf_g (by omega), shf_e hi]
  · rw [g_ne (by omega), g_ne (by omega), shf_g (by omega), shf_g (by omega), shf_g (by omega), shf_e hi, shf_g (by omega)]
  · rw [g_ne (by omega), g_ne (by omega), shf_g (by omega), shf_g (by omega), shf_e hi, shf_g (by omega), shf_g (by omega)]
  · rw [g_ne (by omega), g_ne (by omega), shf_g (by omega), shf_e hi, shf_g (by omega), shf_g (by omega), shf_g (by omega)]
  · rw [g_ne (by omega), g_ne (by omega), shf_e hi, shf_g (by omega), shf_g (by omega), shf_g (by omega), shf_g (by omega)]
  · rw [g_ne (by omega), g_eq, shf_g (by omega), shf_g (by omega), shf_g (by omega), shf_g (by omega), shf_g (by omega)]
  · rw [g_eq, g_ne (by omega), shf_g (by omega), shf_g (by omega), shf_g (by omega), shf_g (by omega), shf_g (by omega)]
  · rw [g_ne (by omega), g_ne (by omega), shf_g (by omega), shf_g (by omega), shf_g (by omega), shf_g (by omega), shf_g (by omega)]
end Arr1
