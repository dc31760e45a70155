/-! MATH HALF: lines laid -/
def llM (u : Nat) (m : Mm) : Mm := (fun b i => if b = 110 ∧ i = 0 then m.1 110 3 else if 111 ≤ b ∧ b ≤ 113 ∧ i < u then m.1 b (120 + i) else m.1 b i, m.2)
section Lines3
variable {q : Tq} {a b c d e i j k n p s u x A X D v : Nat} {m m2 m3 : Mm} {y : Int32}
theorem r_lays : f_X11_laysLines (3 : Int32) (0 : Int32) m = some (llM 40 m) := by
  have e0 : sI m 110 0 (gI m 110 3) = llM 0 m := by
    refine mm_ext (fun b i => ?_) rfl
    simp only [sI, gI, llM]
    by_cases h : b = 110 ∧ i = 0
    · rw [if_pos h, if_pos h]
    · rw [if_neg h, if_neg h, if_neg (by omega)]
  have i3 : ix (3 : Int32) = 3 := rfl
  have i0 : ix (0 : Int32) = 0 := rfl
  unfold f_X11_laysLines
  rw [i3, i0, q_l3, q_l0, q_gd (by omega) (by omega), q_gd (by omega) (by omega), q_stI, e0]
  refine lp0 (fun j u => f_X11_laysLines_L14 j (nI 3) (nI 0) (nI u) (llM u m)) 40 _ (fun j => ?_) (fun j u hu => ?_) (by omega)
  · simp only [f_X11_laysLines_L14]
    rw [if_neg (by decide)]
  · have r1 : gI (llM u m) 111 (120 + u) = gI m 111 (120 + u) := by
      simp only [gI, llM]
      rw [if_neg (by omega), if_neg (by omega)]
    have r2 : gI (sI (llM u m) 111 u (gI m 111 (120 + u))) 112 (120 + u) = gI m 112 (120 + u) := by
      rw [g_ne (by omega)]
      simp only [gI, llM]
      rw [if_neg (by omega), if_neg (by omega)]
    have r3 : gI (sI (sI (llM u m) 111 u (gI m 111 (120 + u))) 112 u (gI m 112 (120 + u))) 113 (120 + u) = gI m 113 (120 + u) := by
      rw [g_ne (by omega), g_ne (by omega)]
      simp only [gI, llM]
      rw [if_neg (by omega), if_neg (by omega)]
    have r4 : sI (sI (sI (llM u m) 111 u (gI m 111 (120 + u))) 112 u (gI m 112 (120 + u))) 113 u (gI m 113 (120 + u)) = llM (u + 1) m := by
      refine mm_ext (fun b i => ?_) rfl
      simp only [sI, gI, llM]
      by_cases h3 : b = 113 ∧ i = u
      · obtain ⟨rfl, rfl⟩ := h3
        rw [if_pos ⟨rfl, rfl⟩, if_neg (by omega), if_pos (by omega)]
      · rw [if_neg h3]
        by_cases h2 : b = 112 ∧ i = u
        · obtain ⟨rfl, rfl⟩ := h2
          rw [if_pos ⟨rfl, rfl⟩, if_neg (by omega), if_pos (by omega)]
        · rw [if_neg h2]
          by_cases h1 : b = 111 ∧ i = u
          · obtain ⟨rfl, rfl⟩ := h1
            rw [if_pos ⟨rfl, rfl⟩, if_neg (by omega), if_pos (by omega)]
          · rw [if_neg h1]
            by_cases h0 : b = 110 ∧ i = 0
            · rw [if_pos h0, if_pos h0]
            · rw [if_neg h0, if_neg h0]
              by_cases h4 : 111 ≤ b ∧ b ≤ 113 ∧ i < u
              · rw [if_pos h4, if_pos (by omega)]
              · rw [if_neg h4, if_neg (by omega)]
    have e3 : nI 40 * nI 3 = nI 120 := by decide
    have e4 : nI 40 * nI 0 = nI 0 := by decide
    simp only [f_X11_laysLines_L14]
    rw [q_l40, if_pos ((q_ltp (by omega) (by omega)).mpr hu), e3, e4, nI_add, nI_add, Nat.zero_add, q_gd (by omega) (by omega), q_gd (by omega) (by omega), q_ix (by omega), q_ix (by omega), r1, q_stI, q_gd (by omega) (by omega), q_gd (by omega) (by omega), r2, q_stI, q_gd (by omega) (by omega), q_gd (by omega) (by omega), r3, q_stI, r4, q_l1, nI_add]
end Lines3
