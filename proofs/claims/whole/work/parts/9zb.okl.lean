/-! MATH HALF: lines that were read are such as may be -/
section Okl
variable {q : Tq} {a b c d e i j k n p s u x A X D v : Nat} {m m2 m3 : Mm} {y : Int32} {Λ : Lv}
theorem tkV_lt : tkV q a < 10000 := by
  unfold tkV
  by_cases k3 : tkC q a = 3
  · rw [if_pos k3]
    have hT : ¬ 4 < rnN q 48 57 a - a ∧ tkE q a = rnN q 48 57 a := by
      unfold tkC at k3
      unfold tkE
      by_cases e1 : a < q.1
      · rw [if_pos e1] at k3 ⊢
        by_cases e2 : leP (q.2 a)
        · rw [if_pos e2] at k3
          split at k3 <;> exact absurd k3 (by decide)
        · rw [if_neg e2] at k3 ⊢
          by_cases e3 : diP (q.2 a)
          · rw [if_pos e3] at k3 ⊢
            by_cases e4 : 4 < rnN q 48 57 a - a
            · rw [if_pos e4] at k3
              exact absurd k3 (by decide)
            · exact ⟨e4, rfl⟩
          · rw [if_neg e3] at k3
            split at k3 <;> exact absurd k3 (by decide)
      · rw [if_neg e1] at k3
        exact absurd k3 (by decide)
    obtain ⟨t1, t2⟩ := hT
    have h1 := nv_lt (q := q) (a := a) (k := tkE q a - a) (fun i hi => by
      rw [t2] at hi
      exact run_is hi) _ (Nat.le_refl _)
    have h2 : 10 ^ (tkE q a - a) ≤ 10 ^ 4 := Nat.pow_le_pow_right (by decide) (by rw [t2]; omega)
    exact Nat.lt_of_lt_of_le h1 h2
  · rw [if_neg k3]; decide
theorem in_range (hX : X < 2147483648) (h : ¬ nI X - nI 1 < nI (tkV q a)) : tkV q a < X := by
  have hv := tkV_lt (q := q) (a := a)
  by_cases h0 : X = 0
  · subst h0
    have e : nI 0 - nI 1 = mo := by decide
    rw [e] at h
    exfalso
    apply h
    rw [Int32.lt_iff_toInt_lt, nI_toInt (by show _ < 2147483648; omega)]
    have h2 : mo.toInt = -1 := by decide
    omega
  · rw [q_sub1 (by omega)] at h
    rcases Nat.lt_or_ge (X - 1) (tkV q a) with h2 | h2
    · exact absurd ((q_ltp (by omega) (by omega)).mpr h2) h
    · omega
theorem okl_L (h1 : WL1 Λ) (h : okl q (yX Λ) (yD Λ) (paN q i) i) : okL Λ (vbN q (paN q i)) (tkV q (nxT q (paN q i))) := by
  obtain ⟨o1, o2, o3, o4⟩ := h
  have hX := h1.2.2.1
  have hD := h1.1
  have hv := tkV_lt (q := q) (a := nxT q (paN q i))
  have k1 : nuF q (nxT q (paN q i)) (oLo (vbN q (paN q i))) (oHi (yX Λ) (yD Λ) (vbN q (paN q i))) = 0 := by
    by_cases k : nuF q (nxT q (paN q i)) (oLo (vbN q (paN q i))) (oHi (yX Λ) (yD Λ) (vbN q (paN q i))) = 0
    · exact k
    · unfold lnG at o4
      rw [if_pos k] at o4
      omega
  have kw : wiP (oLo (vbN q (paN q i))) (oHi (yX Λ) (yD Λ) (vbN q (paN q i))) (tkV q (nxT q (paN q i))) := by
    unfold nuF at k1
    by_cases k3 : tkC q (nxT q (paN q i)) = 3
    · rw [if_pos k3] at k1
      by_cases k : wiP (oLo (vbN q (paN q i))) (oHi (yX Λ) (yD Λ) (vbN q (paN q i))) (tkV q (nxT q (paN q i)))
      · exact k
      · rw [if_neg k] at k1; exact absurd k1 (by decide)
    · rw [if_neg k3] at k1; exact absurd k1 (by decide)
  refine ⟨by omega, fun hh => ?_, fun hh => ?_, by omega⟩
  · have k2 := kw.2
    unfold oHi at k2
    rw [if_pos (by omega)] at k2
    exact in_range (by omega) k2
  · have k2 := kw.2
    unfold oHi at k2
    rw [if_neg (by omega), if_pos (by omega)] at k2
    exact in_range (by omega) k2
end Okl
