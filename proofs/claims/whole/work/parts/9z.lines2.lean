/-! MATH HALF: all lines of work, the reference -/
def stV (q : Tq) (u : Nat) (m : Mm) : Prop := ∀ i, i < u → gI m 111 (120 + i) = nI (vbN q (paN q i)) ∧ gI m 112 (120 + i) = nI (tkV q (nxT q (paN q i))) ∧ (vbN q (paN q i) = 1 → gI m 113 (120 + i) = nI (tkV q (nxT q (nxT q (paN q i)))))
def fwR (m m2 : Mm) : Prop := (∀ b i, ¬ (b = 78 ∧ i = 7) → m2.2 b i = m.2 b i) ∧ ∀ b i, ¬ (b = 78 ∧ ((4 ≤ i ∧ i ≤ 9) ∨ i = 31)) → ¬ (b = 110 ∧ i = 3) → ¬ (111 ≤ b ∧ b ≤ 113 ∧ 120 ≤ i) → m2.1 b i = m.1 b i
section Lines2
variable {q : Tq} {a b c d e i j k n p s u x A X D v : Nat} {m m2 m3 : Mm} {y : Int32}
theorem fwR_f (h1 : fwR m m2) (h2 : frR n m2 m3) : fwR m m3 := ⟨fun b i k => (h2.1 b i k).trans (h1.1 b i k), fun b i k1 k2 k3 => (h2.2 b i k1 k2 (by omega)).trans (h1.2 b i k1 k2 k3)⟩
theorem fwR_s (h1 : fwR m m2) : fwR m (sI m2 78 9 y) := ⟨h1.1, fun b i k1 k2 k3 => by
  simp only [sI]
  rw [if_neg (by omega)]
  exact h1.2 b i k1 k2 k3⟩
theorem r_workL (h : RTk q (paN q 0) m) (hq : TW q) (h3 : gI m 110 3 = nI 0) (hX : gI m 108 0 = nI X) (hD : gI m 80 0 = nI D) : ∃ m2, fwR m m2 ∧ (wkF q X D = 0 → f_X11_work_L16 FU m = bd1 (f_X11_laysLines (3 : Int32) (0 : Int32) m2) (fun m4 => some ((0 : Int32), m4)) ∧ gI m2 110 3 = nI (noN q X D) ∧ stV q (noN q X D) m2) ∧ (wkF q X D ≠ 0 → f_X11_work_L16 FU m = some (nI (wkF q X D), m2)) := by
  have h1 := hq.1
  obtain ⟨hN, hno⟩ := no_is (q := q) (X := X) (D := D)
  refine lpI (fun j _ m => f_X11_work_L16 j m) (fun u m2 => RTk q (paN q u) m2 ∧ gI m2 110 3 = nI u ∧ stV q u m2 ∧ fwR m m2) (noN q X D) (fun o => ∃ m2, fwR m m2 ∧ (wkF q X D = 0 → o = bd1 (f_X11_laysLines (3 : Int32) (0 : Int32) m2) (fun m4 => some ((0 : Int32), m4)) ∧ gI m2 110 3 = nI (noN q X D) ∧ stV q (noN q X D) m2) ∧ (wkF q X D ≠ 0 → o = some (nI (wkF q X D), m2))) (fun k m2 hI => ?_) (fun k u m2 hu hI => ?_) FU 0 m (by omega) (by show _ < 0 + 4096; omega) ⟨h, h3, fun i hi => absurd hi (Nat.not_lt_zero _), fun _ _ _ => rfl, fun _ _ _ _ _ => rfl⟩
  · obtain ⟨i1, i3, i4, i5⟩ := hI
    have ha := pa_le (q := q) (noN q X D)
    have hC := tkC_le (q := q) (a := paN q (noN q X D))
    have hK := kr_le hC
    have hV := vb_le (q := q) (a := paN q (noN q X D))
    have x5 : gI m2 108 0 = nI X := (i5.2 _ _ (by omega) (by omega) (by omega)).trans hX
    have d5 : gI m2 80 0 = nI D := (i5.2 _ _ (by omega) (by omega) (by omega)).trans hD
    have ix3 : ix (3 : Int32) = 3 := rfl
    simp only [f_X11_work_L16]
    unfold wkF
    by_cases k0 : tkC q (paN q (noN q X D)) = 0
    · have e : gI m2 78 6 = 0 := by rw [i1.2.2.2.1, (kr_0 hC).mpr k0]; rfl
      rw [if_pos e, if_pos k0]
      exact ⟨m2, i5, fun _ => ⟨rfl, i3, i4⟩, fun hh => absurd rfl hh⟩
    · have e : ¬ gI m2 78 6 = 0 := by
        rw [i1.2.2.2.1]
        exact fun e => k0 ((kr_0 hC).mp ((q_eq (b := 0) (by omega) (by omega)).mp e))
      rw [if_neg e, if_neg k0, r_verb i1 hq ha]
      by_cases k6 : vbN q (paN q (noN q X D)) = 6
      · have ej : f_X11_readsLine_J85 mo m2 = some (nI 0, sI m2 78 9 (nI (1 + 16 * paN q (noN q X D)))) := by
          unfold f_X11_readsLine_J85
          rw [if_pos (by decide), q_l1, r_fails i1, q_bd2, q_gd2 (by omega)]
        rw [if_pos k6, if_pos k6, ej, q_bd2, if_pos (by rfl), g_eq]
        exact ⟨_, fwR_s i5, fun hz => by omega, fun _ => rfl⟩
      · rw [if_neg k6, if_neg k6]
        by_cases k40 : noN q X D = 40
        · have ej : f_X11_readsLine_J85 (nI (vbN q (paN q (noN q X D)))) m2 = some (nI 0, sI m2 78 9 (nI (5 + 16 * paN q (noN q X D)))) := by
            unfold f_X11_readsLine_J85
            rw [if_neg (nI_pos (by show _ < 2147483648; omega)), ix3, i3, if_pos (by rw [k40]; rfl), q_l5, r_fails i1, q_bd2, q_gd2 (by omega)]
          rw [if_pos k40, ej, q_bd2, if_pos (by rfl), g_eq]
          exact ⟨_, fwR_s i5, fun hz => by omega, fun _ => rfl⟩
        · obtain ⟨m5, d1, d2, d3, d4⟩ := r_line (X := X) (D := D) i1 hq ha i3 x5 d5 (by omega) (by omega)
          have hz : lnG q X D (paN q (noN q X D)) ≠ 0 := fun hz => hno ⟨k0, by omega, by omega, hz⟩
          rw [if_neg k40, d1, q_bd2, if_neg hz, if_pos (by rfl), d4 hz]
          exact ⟨m5, fwR_f i5 d2, fun h2 => absurd h2 hz, fun _ => rfl⟩
  · obtain ⟨i1, i3, i4, i5⟩ := hI
    obtain ⟨o1, o2, o3, o4⟩ := no_ok hu
    have ha := pa_le (q := q) u
    have hC := tkC_le (q := q) (a := paN q u)
    have hK := kr_le hC
    have x5 : gI m2 108 0 = nI X := (i5.2 _ _ (by omega) (by omega) (by omega)).trans hX
    have d5 : gI m2 80 0 = nI D := (i5.2 _ _ (by omega) (by omega) (by omega)).trans hD
    have n6 : ¬ vbN q (paN q u) = 6 := by omega
    have e : ¬ gI m2 78 6 = 0 := by
      rw [i1.2.2.2.1]
      exact fun e => o1 ((kr_0 hC).mp ((q_eq (b := 0) (by omega) (by omega)).mp e))
    obtain ⟨m5, d1, d2, d3, d4⟩ := r_line (X := X) (D := D) i1 hq ha i3 x5 d5 (by omega) o2
    obtain ⟨p1, p3, p4, p5, p6⟩ := d3 o4
    refine ⟨m5, ⟨p1, p3, fun i hi => ?_, fwR_f i5 d2⟩, ?_⟩
    · by_cases ei : i = u
      · subst ei
        exact ⟨p4, p5, p6⟩
      · obtain ⟨s1, s2, s3⟩ := i4 i (by omega)
        have g : ∀ b, 111 ≤ b → b ≤ 113 → gI m5 b (120 + i) = gI m2 b (120 + i) := fun b k1 k2 => d2.2 b (120 + i) (by omega) (by omega) (by omega)
        exact ⟨(g _ (by omega) (by omega)).trans s1, (g _ (by omega) (by omega)).trans s2, fun hh => (g _ (by omega) (by omega)).trans (s3 hh)⟩
    · simp only [f_X11_work_L16]
      rw [if_neg e, r_verb i1 hq ha, if_neg n6, d1, q_bd2, if_pos o4, if_neg (by decide)]
end Lines2
