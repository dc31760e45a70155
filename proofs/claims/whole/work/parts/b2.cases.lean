/-! MATH HALF: every call keeps what holds -/
section Pre
variable {q : Tq} {X D : Nat} {Λ : Lv}
theorem xd_pos (h1 : WL1 Λ) (h3 : WL3 Λ) (h : 0 < yX Λ) : 0 < yD Λ := by
  have := h1.2.2.2.2 _ (h3.1 0 h).1
  omega
theorem wk_lt (hq : q.1 ≤ 1000) : wkF q X D < 100000 := by
  have ha := pa_le (q := q) (noN q X D)
  have a1 := nxT_le ha
  have a2 := nxT_le a1
  have a3 := lnA_le ha
  have n1 := nu_le (q := q) (a := nxT q (paN q (noN q X D))) (lo := oLo (vbN q (paN q (noN q X D)))) (hi := oHi X D (vbN q (paN q (noN q X D))))
  have n2 := nu_le (q := q) (a := nxT q (nxT q (paN q (noN q X D)))) (lo := nI 0) (hi := nI 255)
  unfold wkF lnG
  repeat' split
  all_goals omega
end Pre
section Cases
variable {q : Tq} {a b c d e i j k n s u x sp D' B B2 t w v A M y : Nat} {m m1 m2 m3 : Mm} {x1 x2 x3 : Int32} {y1 y2 y3 : Int64} {T Λ : Lv} {P : Pv} {S S2 : Sv} {D vb ob : Nat → Nat}
theorem i_stripe (h : Inv t u w v B m) : ∃ r m1 m2, f_X10_stripe t u w v x1 x2 m = some (r, m1) ∧ f_X11_stripe x1 x2 m1 = some (r, m2) ∧ Inv t u w v (B + 80) m2 := by
  obtain ⟨k1, k2, ⟨Λ, T, P, S, s, D, M, n, vb, ob, hP⟩, q, k4, k5, k6⟩ := id h
  obtain ⟨⟨w1, w2, w3, w4, w5, w6⟩, p2, p3, p4, p5, p6, p7, p8, p9, p10, p11, p12, p13, p14, p15⟩ := id hP
  obtain ⟨r, e1, e2⟩ := a_stripe (t := t) (u := u) (w := w) (v := v) (x1 := x1) (x2 := x2) p9 w1
  exact ⟨r, m, th m, e1, e2, Inv_mono (Inv_Sc Sc_th h) (by omega)⟩
theorem i_unit (h : Inv t u w v B m) : ∃ r m1 m2, f_X10_unit t u w v x1 x2 x3 m = some (r, m1) ∧ f_X11_unit x1 x2 x3 m1 = some (r, m2) ∧ Inv t u w v (B + 80) m2 := by
  obtain ⟨k1, k2, ⟨Λ, T, P, S, s, D, M, n, vb, ob, hP⟩, q, k4, k5, k6⟩ := id h
  obtain ⟨⟨w1, w2, w3, w4, w5, w6⟩, p2, p3, p4, p5, p6, p7, p8, p9, p10, p11, p12, p13, p14, p15⟩ := id hP
  obtain ⟨r, e1, e2⟩ := a_unit (t := t) (u := u) (w := w) (v := v) (x1 := x1) (x2 := x2) (x3 := x3) p9 w1 w3
  exact ⟨r, m, th m, e1, e2, Inv_mono (Inv_Sc Sc_th h) (by omega)⟩
theorem i_datum (h : Inv t u w v B m) : ∃ r m1 m2, f_X10_datum t u w v x1 x2 m = some (r, m1) ∧ f_X11_datum x1 x2 m1 = some (r, m2) ∧ Inv t u w v (B + 80) m2 := by
  obtain ⟨k1, k2, ⟨Λ, T, P, S, s, D, M, n, vb, ob, hP⟩, q, k4, k5, k6⟩ := id h
  obtain ⟨⟨w1, w2, w3, w4, w5, w6⟩, p2, p3, p4, p5, p6, p7, p8, p9, p10, p11, p12, p13, p14, p15⟩ := id hP
  obtain ⟨r, e1, e2⟩ := a_datum (t := t) (u := u) (w := w) (v := v) (x1 := x1) (x2 := x2) p9 w1 w3 p10.1
  exact ⟨r, m, th m, e1, e2, Inv_mono (Inv_Sc Sc_th h) (by omega)⟩
theorem i_cost (h : Inv t u w v B m) : ∃ r m1 m2, f_X10_cost t u w v x1 m = some (r, m1) ∧ f_X11_cost x1 m1 = some (r, m2) ∧ Inv t u w v (B + 80) m2 := by
  obtain ⟨k1, k2, ⟨Λ, T, P, S, s, D, M, n, vb, ob, hP⟩, q, k4, k5, k6⟩ := id h
  obtain ⟨⟨w1, w2, w3, w4, w5, w6⟩, p2, p3, p4, p5, p6, p7, p8, p9, p10, p11, p12, p13, p14, p15⟩ := id hP
  obtain ⟨r, e1, e2⟩ := a_cost (t := t) (u := u) (w := w) (v := v) (x1 := x1) p9 w1 w3
  exact ⟨r, m, th m, e1, e2, Inv_mono (Inv_Sc Sc_th h) (by omega)⟩
theorem i_price (h : Inv t u w v B m) : ∃ r m1 m2, f_X10_price t u w v x1 m = some (r, m1) ∧ f_X11_price x1 m1 = some (r, m2) ∧ Inv t u w v (B + 80) m2 := by
  obtain ⟨k1, k2, ⟨Λ, T, P, S, s, D, M, n, vb, ob, hP⟩, q, k4, k5, k6⟩ := id h
  obtain ⟨⟨w1, w2, w3, w4, w5, w6⟩, p2, p3, p4, p5, p6, p7, p8, p9, p10, p11, p12, p13, p14, p15⟩ := id hP
  obtain ⟨r, e1, e2⟩ := a_price (t := t) (u := u) (w := w) (v := v) (x1 := x1) p9 w1 w3
  exact ⟨r, m, th m, e1, e2, Inv_mono (Inv_Sc Sc_th h) (by omega)⟩
theorem i_pairs (h : Inv t u w v B m) : ∃ r m1 m2, f_X10_pairs t u w v x1 x2 m = some (r, m1) ∧ f_X11_pairs x1 x2 m1 = some (r, m2) ∧ Inv t u w v (B + 80) m2 := by
  obtain ⟨k1, k2, ⟨Λ, T, P, S, s, D, M, n, vb, ob, hP⟩, q, k4, k5, k6⟩ := id h
  obtain ⟨⟨w1, w2, w3, w4, w5, w6⟩, p2, p3, p4, p5, p6, p7, p8, p9, p10, p11, p12, p13, p14, p15⟩ := id hP
  obtain ⟨r, e1, e2⟩ := a_pairs (t := t) (u := u) (w := w) (v := v) (x1 := x1) (x2 := x2) p9 w1 w4
  exact ⟨r, m, th m, e1, e2, Inv_mono (Inv_Sc Sc_th h) (by omega)⟩
theorem i_even (h : Inv t u w v B m) : ∃ r m1 m2, f_X10_even t u w v m = some (r, m1) ∧ f_X11_even m1 = some (r, m2) ∧ Inv t u w v (B + 80) m2 := by
  obtain ⟨k1, k2, ⟨Λ, T, P, S, s, D, M, n, vb, ob, hP⟩, q, k4, k5, k6⟩ := id h
  obtain ⟨⟨w1, w2, w3, w4, w5, w6⟩, p2, p3, p4, p5, p6, p7, p8, p9, p10, p11, p12, p13, p14, p15⟩ := id hP
  obtain ⟨r, e1, e2⟩ := a_even (t := t) (u := u) (w := w) (v := v) p9 w1 w4
  exact ⟨r, m, th m, e1, e2, Inv_mono (Inv_Sc Sc_th h) (by omega)⟩
theorem i_worst (h : Inv t u w v B m) : ∃ r m1 m2, f_X10_worst t u w v x1 m = some (r, m1) ∧ f_X11_worst x1 m1 = some (r, m2) ∧ Inv t u w v (B + 80) m2 := by
  obtain ⟨k1, k2, ⟨Λ, T, P, S, s, D, M, n, vb, ob, hP⟩, q, k4, k5, k6⟩ := id h
  obtain ⟨⟨w1, w2, w3, w4, w5, w6⟩, p2, p3, p4, p5, p6, p7, p8, p9, p10, p11, p12, p13, p14, p15⟩ := id hP
  obtain ⟨r, e1, e2⟩ := a_worst (t := t) (u := u) (w := w) (v := v) (x1 := x1) p9 w1 w4
  exact ⟨r, m, th m, e1, e2, Inv_mono (Inv_Sc Sc_th h) (by omega)⟩
theorem i_spread (h : Inv t u w v B m) : ∃ r m1 m2, f_X10_spread t u w v x1 m = some (r, m1) ∧ f_X11_spread x1 m1 = some (r, m2) ∧ Inv t u w v (B + 80) m2 := by
  obtain ⟨k1, k2, ⟨Λ, T, P, S, s, D, M, n, vb, ob, hP⟩, q, k4, k5, k6⟩ := id h
  obtain ⟨⟨w1, w2, w3, w4, w5, w6⟩, p2, p3, p4, p5, p6, p7, p8, p9, p10, p11, p12, p13, p14, p15⟩ := id hP
  obtain ⟨r, e1, e2⟩ := a_spread (t := t) (u := u) (w := w) (v := v) (x1 := x1) p9 w1 w5
  exact ⟨r, m, th m, e1, e2, Inv_mono (Inv_Sc Sc_th h) (by omega)⟩
theorem i_disk (h : Inv t u w v B m) : ∃ r m1 m2, f_X10_disk t u w v x1 x2 m = some (r, m1) ∧ f_X11_disk x1 x2 m1 = some (r, m2) ∧ Inv t u w v (B + 80) m2 := by
  obtain ⟨k1, k2, ⟨Λ, T, P, S, s, D, M, n, vb, ob, hP⟩, q, k4, k5, k6⟩ := id h
  obtain ⟨⟨w1, w2, w3, w4, w5, w6⟩, p2, p3, p4, p5, p6, p7, p8, p9, p10, p11, p12, p13, p14, p15⟩ := id hP
  obtain ⟨r, e1, e2⟩ := a_disk (t := t) (u := u) (w := w) (v := v) (x1 := x1) (x2 := x2) p9 w1 w2 w5 p10.1 p10.2.1
  exact ⟨r, m, th m, e1, e2, Inv_mono (Inv_Sc Sc_th h) (by omega)⟩
theorem i_at (h : Inv t u w v B m) : ∃ r m1 m2, f_X10_at t u w v x1 x2 m = some (r, m1) ∧ f_X11_at x1 x2 m1 = some (r, m2) ∧ Inv t u w v (B + 80) m2 := by
  obtain ⟨k1, k2, ⟨Λ, T, P, S, s, D, M, n, vb, ob, hP⟩, q, k4, k5, k6⟩ := id h
  obtain ⟨⟨w1, w2, w3, w4, w5, w6⟩, p2, p3, p4, p5, p6, p7, p8, p9, p10, p11, p12, p13, p14, p15⟩ := id hP
  obtain ⟨r, e1, e2⟩ := a_at (t := t) (u := u) (w := w) (v := v) (x1 := x1) (x2 := x2) p9 w1 w2 w6
  exact ⟨r, m, th m, e1, e2, Inv_mono (Inv_Sc Sc_th h) (by omega)⟩
theorem i_differs (h : Inv t u w v B m) : ∃ r m1 m2, f_X10_differs t u w v x1 x2 m = some (r, m1) ∧ f_X11_differs x1 x2 m1 = some (r, m2) ∧ Inv t u w v (B + 80) m2 := by
  obtain ⟨k1, k2, ⟨Λ, T, P, S, s, D, M, n, vb, ob, hP⟩, q, k4, k5, k6⟩ := id h
  obtain ⟨⟨w1, w2, w3, w4, w5, w6⟩, p2, p3, p4, p5, p6, p7, p8, p9, p10, p11, p12, p13, p14, p15⟩ := id hP
  obtain ⟨r, e1, e2⟩ := a_differs (t := t) (u := u) (w := w) (v := v) (x1 := x1) (x2 := x2) p4 p5 p2
  exact ⟨r, m, th m, e1, e2, Inv_mono (Inv_Sc Sc_th h) (by omega)⟩
theorem i_family (h : Inv t u w v B m) : ∃ r m1 m2, f_X10_family t u w v m = some (r, m1) ∧ f_X11_family m1 = some (r, m2) ∧ Inv t u w v (B + 80) m2 := by
  obtain ⟨k1, k2, ⟨Λ, T, P, S, s, D, M, n, vb, ob, hP⟩, q, k4, k5, k6⟩ := id h
  obtain ⟨⟨w1, w2, w3, w4, w5, w6⟩, p2, p3, p4, p5, p6, p7, p8, p9, p10, p11, p12, p13, p14, p15⟩ := id hP
  obtain ⟨r, e1, e2⟩ := a_family (t := t) (u := u) (w := w) (v := v) p4 p5 p2
  exact ⟨r, m, th m, e1, e2, Inv_mono (Inv_Sc Sc_th h) (by omega)⟩
theorem i_seek (h : Inv t u w v B m) : ∃ r m1 m2, f_X10_seek t u w v x1 m = some (r, m1) ∧ f_X11_seek x1 m1 = some (r, m2) ∧ Inv t u w v (B + 80) m2 := by
  obtain ⟨k1, k2, ⟨Λ, T, P, S, s, D, M, n, vb, ob, hP⟩, q, k4, k5, k6⟩ := id h
  obtain ⟨⟨w1, w2, w3, w4, w5, w6⟩, p2, p3, p4, p5, p6, p7, p8, p9, p10, p11, p12, p13, p14, p15⟩ := id hP
  obtain ⟨r, e1, e2⟩ := a_seek (t := t) (u := u) (w := w) (v := v) (x1 := x1) p4 p5 p2
  exact ⟨r, m, th m, e1, e2, Inv_mono (Inv_Sc Sc_th h) (by omega)⟩
theorem i_would (h : Inv t u w v B m) : ∃ r m1 m2, f_X10_would t u w v x1 x2 m = some (r, m1) ∧ f_X11_would x1 x2 m1 = some (r, m2) ∧ Inv t u w v (B + 80) m2 := by
  obtain ⟨k1, k2, ⟨Λ, T, P, S, s, D, M, n, vb, ob, hP⟩, q, k4, k5, k6⟩ := id h
  obtain ⟨⟨w1, w2, w3, w4, w5, w6⟩, p2, p3, p4, p5, p6, p7, p8, p9, p10, p11, p12, p13, p14, p15⟩ := id hP
  obtain ⟨r, e1, e2⟩ := a_would (t := t) (u := u) (w := w) (v := v) (x1 := x1) (x2 := x2) p9 w1 p10.1
  exact ⟨r, m, th m, e1, e2, Inv_mono (Inv_Sc Sc_th h) (by omega)⟩
theorem i_count (h : Inv t u w v B m) : ∃ r m1 m2, f_X10_count t u w v x1 m = some (r, m1) ∧ f_X11_count x1 m1 = some (r, m2) ∧ Inv t u w v (B + 80) m2 := by
  obtain ⟨k1, k2, ⟨Λ, T, P, S, s, D, M, n, vb, ob, hP⟩, q, k4, k5, k6⟩ := id h
  obtain ⟨⟨w1, w2, w3, w4, w5, w6⟩, p2, p3, p4, p5, p6, p7, p8, p9, p10, p11, p12, p13, p14, p15⟩ := id hP
  obtain ⟨r, e1, e2⟩ := a_count (t := t) (u := u) (w := w) (v := v) (x1 := x1) p9 w1 p10.2.2 p4 p5 p2 p3 (p11.2.1.trans p11.2.2.1.symm) (p12.2.2.1.trans p12.2.2.2.2.1.symm) (k4.1.trans k5.1.symm)
  exact ⟨r, m, th m, e1, e2, Inv_mono (Inv_Sc Sc_th h) (by omega)⟩
theorem i_read (h : Inv t u w v B m) : ∃ r m1 m2, f_X10_read t u w v x1 m = some (r, m1) ∧ f_X11_read x1 m1 = some (r, m2) ∧ Inv t u w v (B + 80) m2 := by
  obtain ⟨k1, k2, ⟨Λ, T, P, S, s, D, M, n, vb, ob, hP⟩, q, k4, k5, k6⟩ := id h
  obtain ⟨⟨w1, w2, w3, w4, w5, w6⟩, p2, p3, p4, p5, p6, p7, p8, p9, p10, p11, p12, p13, p14, p15⟩ := id hP
  obtain ⟨r, S2, e1, e2, e3⟩ := a_read (t := t) (u := u) (w := w) (v := v) (x1 := x1) p9 w1 w2 w3 p10
  exact ⟨r, _, _, e1, e2, Inv_nx h hP e3⟩
theorem i_write (h : Inv t u w v B m) : ∃ r m1 m2, f_X10_write t u w v x1 x2 m = some (r, m1) ∧ f_X11_write x1 x2 m1 = some (r, m2) ∧ Inv t u w v (B + 80) m2 := by
  obtain ⟨k1, k2, ⟨Λ, T, P, S, s, D, M, n, vb, ob, hP⟩, q, k4, k5, k6⟩ := id h
  obtain ⟨⟨w1, w2, w3, w4, w5, w6⟩, p2, p3, p4, p5, p6, p7, p8, p9, p10, p11, p12, p13, p14, p15⟩ := id hP
  obtain ⟨r, S2, e1, e2, e3⟩ := a_write (t := t) (u := u) (w := w) (v := v) (x1 := x1) (x2 := x2) p9 w1 w2 w3 p10
  exact ⟨r, _, _, e1, e2, Inv_nx h hP e3⟩
theorem i_lose (h : Inv t u w v B m) : ∃ r m1 m2, f_X10_lose t u w v x1 m = some (r, m1) ∧ f_X11_lose x1 m1 = some (r, m2) ∧ Inv t u w v (B + 80) m2 := by
  obtain ⟨k1, k2, ⟨Λ, T, P, S, s, D, M, n, vb, ob, hP⟩, q, k4, k5, k6⟩ := id h
  obtain ⟨⟨w1, w2, w3, w4, w5, w6⟩, p2, p3, p4, p5, p6, p7, p8, p9, p10, p11, p12, p13, p14, p15⟩ := id hP
  obtain ⟨r, S2, e1, e2, e3⟩ := a_lose (t := t) (u := u) (w := w) (v := v) (x1 := x1) p9 w1 w2 w3 p10
  exact ⟨r, _, _, e1, e2, Inv_nx h hP e3⟩
theorem i_replace (h : Inv t u w v B m) : ∃ r m1 m2, f_X10_replace t u w v x1 m = some (r, m1) ∧ f_X11_replace x1 m1 = some (r, m2) ∧ Inv t u w v (B + 80) m2 := by
  obtain ⟨k1, k2, ⟨Λ, T, P, S, s, D, M, n, vb, ob, hP⟩, q, k4, k5, k6⟩ := id h
  obtain ⟨⟨w1, w2, w3, w4, w5, w6⟩, p2, p3, p4, p5, p6, p7, p8, p9, p10, p11, p12, p13, p14, p15⟩ := id hP
  obtain ⟨r, S2, e1, e2, e3⟩ := a_replace (t := t) (u := u) (w := w) (v := v) (x1 := x1) p9 w1 w2 w3 p10
  exact ⟨r, _, _, e1, e2, Inv_nx h hP e3⟩
theorem i_rebuild (h : Inv t u w v B m) : ∃ r m1 m2, f_X10_rebuild t u w v x1 m = some (r, m1) ∧ f_X11_rebuild x1 m1 = some (r, m2) ∧ Inv t u w v (B + 80) m2 := by
  obtain ⟨k1, k2, ⟨Λ, T, P, S, s, D, M, n, vb, ob, hP⟩, q, k4, k5, k6⟩ := id h
  obtain ⟨⟨w1, w2, w3, w4, w5, w6⟩, p2, p3, p4, p5, p6, p7, p8, p9, p10, p11, p12, p13, p14, p15⟩ := id hP
  obtain ⟨r, S2, e1, e2, e3⟩ := a_rebuild (t := t) (u := u) (w := w) (v := v) (x1 := x1) p9 w1 w2 w3 p10
  exact ⟨r, _, _, e1, e2, Inv_nx h hP e3⟩
theorem i_home (h : Inv t u w v B m) : ∃ r m1 m2, f_X10_home t u w v x1 m = some (r, m1) ∧ f_X11_home x1 m1 = some (r, m2) ∧ Inv t u w v (B + 80) m2 := by
  obtain ⟨k1, k2, ⟨Λ, T, P, S, s, D, M, n, vb, ob, hP⟩, q, k4, k5, k6⟩ := id h
  obtain ⟨⟨w1, w2, w3, w4, w5, w6⟩, p2, p3, p4, p5, p6, p7, p8, p9, p10, p11, p12, p13, p14, p15⟩ := id hP
  obtain ⟨r, S2, e1, e2, e3⟩ := a_home (t := t) (u := u) (w := w) (v := v) (x1 := x1) p9 w1 w2 w3 p10
  exact ⟨r, _, _, e1, e2, Inv_nx h hP e3⟩
theorem i_bears (h : Inv t u w v B m) : ∃ r m1 m2, f_X10_bears t u w v x1 m = some (r, m1) ∧ f_X11_bears x1 m1 = some (r, m2) ∧ Inv t u w v (B + 80) m2 := by
  obtain ⟨k1, k2, ⟨Λ, T, P, S, s, D, M, n, vb, ob, hP⟩, q, k4, k5, k6⟩ := id h
  obtain ⟨⟨w1, w2, w3, w4, w5, w6⟩, p2, p3, p4, p5, p6, p7, p8, p9, p10, p11, p12, p13, p14, p15⟩ := id hP
  obtain ⟨r, m2, e1, e2, e3⟩ := a_bears (t := t) (u := u) (w := w) (v := v) (x1 := x1) p9 w1 w2 p10.1 p10.2.1
  exact ⟨r, m, m2, e1, e2, Inv_mono (Inv_Sc e3 h) (by omega)⟩
theorem i_risk (h : Inv t u w v B m) : ∃ r m1 m2, f_X10_risk t u w v m = some (r, m1) ∧ f_X11_risk m1 = some (r, m2) ∧ Inv t u w v (B + 80) m2 := by
  obtain ⟨k1, k2, ⟨Λ, T, P, S, s, D, M, n, vb, ob, hP⟩, q, k4, k5, k6⟩ := id h
  obtain ⟨⟨w1, w2, w3, w4, w5, w6⟩, p2, p3, p4, p5, p6, p7, p8, p9, p10, p11, p12, p13, p14, p15⟩ := id hP
  obtain ⟨r, m2, e1, e2, e3⟩ := a_risk (t := t) (u := u) (w := w) (v := v) p9 w1 w2 p10.1 p10.2.1
  exact ⟨r, m, m2, e1, e2, Inv_mono (Inv_Sc e3 h) (by omega)⟩
theorem i_who (h : Inv t u w v B m) : ∃ r m1 m2, f_X10_who t u w v m = some (r, m1) ∧ f_X11_who m1 = some (r, m2) ∧ Inv t u w v (B + 80) m2 := by
  obtain ⟨k1, k2, ⟨Λ, T, P, S, s, D, M, n, vb, ob, hP⟩, q, k4, k5, k6⟩ := id h
  obtain ⟨⟨w1, w2, w3, w4, w5, w6⟩, p2, p3, p4, p5, p6, p7, p8, p9, p10, p11, p12, p13, p14, p15⟩ := id hP
  obtain ⟨r, m2, e1, e2, e3⟩ := a_who (t := t) (u := u) (w := w) (v := v) p9 w1 w2 w3 p10.1 p10.2.1 p12
  exact ⟨r, m, m2, e1, e2, Inv_mono (Inv_Sc e3 h) (by omega)⟩
theorem i_ask (h : Inv t u w v B m) : ∃ r m1 m2, f_X10_ask t u w v m = some (r, m1) ∧ f_X11_ask m1 = some (r, m2) ∧ Inv t u w v (B + 80) m2 := by
  obtain ⟨k1, k2, ⟨Λ, T, P, S, s, D, M, n, vb, ob, hP⟩, q, k4, k5, k6⟩ := id h
  obtain ⟨⟨w1, w2, w3, w4, w5, w6⟩, p2, p3, p4, p5, p6, p7, p8, p9, p10, p11, p12, p13, p14, p15⟩ := id hP
  obtain ⟨r, m2, e1, e2, e3⟩ := a_ask (t := t) (u := u) (w := w) (v := v) p9 w1 w2 w3 p10.1 p10.2.1 p12
  exact ⟨r, m, m2, e1, e2, Inv_mono (Inv_Sc e3 h) (by omega)⟩
theorem i_judged (h : Inv t u w v B m) : ∃ r m1 m2, f_X10_judged t u w v x1 m = some (r, m1) ∧ f_X11_judged x1 m1 = some (r, m2) ∧ Inv t u w v (B + 80) m2 := by
  obtain ⟨k1, k2, ⟨Λ, T, P, S, s, D, M, n, vb, ob, hP⟩, q, k4, k5, k6⟩ := id h
  obtain ⟨⟨w1, w2, w3, w4, w5, w6⟩, p2, p3, p4, p5, p6, p7, p8, p9, p10, p11, p12, p13, p14, p15⟩ := id hP
  obtain ⟨r, m1, m2, e1, e2, e3⟩ := a_judged (t := t) (u := u) (w := w) (v := v) (x1 := x1) p9 w1 w2 w3 (by omega) p11
  exact ⟨r, m1, m2, e1, e2, Inv_mono (Inv_Sc e3 h) (by omega)⟩
theorem i_time (h : Inv t u w v B m) : ∃ r m1 m2, f_X10_time t u w v x1 x2 m = some (r, m1) ∧ f_X11_time x1 x2 m1 = some (r, m2) ∧ Inv t u w v (B + 80) m2 := by
  obtain ⟨k1, k2, ⟨Λ, T, P, S, s, D, M, n, vb, ob, hP⟩, q, k4, k5, k6⟩ := id h
  obtain ⟨⟨w1, w2, w3, w4, w5, w6⟩, p2, p3, p4, p5, p6, p7, p8, p9, p10, p11, p12, p13, p14, p15⟩ := id hP
  obtain ⟨r, m1, m2, e1, e2, e3⟩ := a_time (t := t) (u := u) (w := w) (v := v) (x1 := x1) (x2 := x2) p9 w1 w2 w4 p10.1 p4 p5 p2
  exact ⟨r, m1, m2, e1, e2, Inv_mono (Inv_Sc e3 h) (by omega)⟩
theorem i_loads (h : Inv t u w v B m) (hB : B + 7920 ≤ 99999) : ∃ r m1 m2, f_X10_loads t u w v x1 x2 x3 m = some (r, m1) ∧ f_X11_loads x1 x2 x3 m1 = some (r, m2) ∧ Inv t u w v (B + 80) m2 := by
  obtain ⟨k1, k2, ⟨Λ, T, P, S, s, D, M, n, vb, ob, hP⟩, q, k4, k5, k6⟩ := id h
  obtain ⟨⟨w1, w2, w3, w4, w5, w6⟩, p2, p3, p4, p5, p6, p7, p8, p9, p10, p11, p12, p13, p14, p15⟩ := id hP
  obtain ⟨r, m1, m2, e1, e2, e3⟩ := a_loads (t := t) (u := u) (w := w) (v := v) (x1 := x1) (x2 := x2) (x3 := x3) p9 w1 w2 w3 p10 hB (xd_pos w1 w3)
  exact ⟨r, m1, m2, e1, e2, Inv_mono (Inv_Sc e3 h) (by omega)⟩
theorem i_grow (h : Inv t u w v B m) : ∃ r m1 m2, f_X10_grow t u w v x1 x2 m = some (r, m1) ∧ f_X11_grow x1 x2 m1 = some (r, m2) ∧ Inv t u w v (B + 80) m2 := by
  obtain ⟨k1, k2, ⟨Λ, T, P, S, s, D, M, n, vb, ob, hP⟩, q, k4, k5, k6⟩ := id h
  obtain ⟨⟨w1, w2, w3, w4, w5, w6⟩, p2, p3, p4, p5, p6, p7, p8, p9, p10, p11, p12, p13, p14, p15⟩ := id hP
  obtain ⟨r, m1, m2, e1, e2, e3⟩ := a_grow (t := t) (u := u) (w := w) (v := v) (x1 := x1) (x2 := x2) p9 w1 w3 w6 (by omega) p4 p5 p2 p3 p6 p7 p8
  exact ⟨r, m1, m2, e1, e2, Inv_mono (Inv_Sc e3 h) (by omega)⟩
theorem i_feed (h : Inv t u w v B m) : ∃ r m1 m2, f_X10_feed t u w v y1 y2 y3 m = some (r, m1) ∧ f_X11_feed y1 y2 y3 m1 = some (r, m2) ∧ Inv t u w v (B + 80) m2 := by
  obtain ⟨k1, k2, k3, q, k4, k5, k6⟩ := id h
  obtain ⟨r, m1, m2, e1, e2, e3, e4, e5, e6, e7⟩ := a_feed (t := t) (u := u) (w := w) (v := v) (x1 := y1) (x3 := y2) (x5 := y3) k4 k5 k6
  exact ⟨r, m1, m2, e1, e2, k1, k2, InB_mono (InB_nt (fun b i hb => e7 b i (by unfold nt at hb; omega) (by unfold nt at hb; omega) (by unfold nt at hb; omega) (by unfold nt at hb; omega) (by unfold nt at hb; omega)) k3) (by omega), _, e3, e4, e5⟩
theorem i_see (h : Inv t u w v B m) (hy : y < 2) : ∃ r m1 m2, f_X10_see t u w v x1 (nI y) m = some (r, m1) ∧ f_X11_see x1 (nI y) m1 = some (r, m2) ∧ Inv t u w v (B + 80) m2 := by
  obtain ⟨k1, k2, ⟨Λ, T, P, S, s, D, M, n, vb, ob, hP⟩, q, k4, k5, k6⟩ := id h
  obtain ⟨⟨w1, w2, w3, w4, w5, w6⟩, p2, p3, p4, p5, p6, p7, p8, p9, p10, p11, p12, p13, p14, p15⟩ := id hP
  rcases a_see (t := t) (u := u) (w := w) (v := v) (x1 := x1) p9 w1 p12 hy with ⟨r, e1, e2⟩ | ⟨r, i, hi, hs8, e1, e2⟩
  · exact ⟨r, m, th m, e1, e2, Inv_mono (Inv_Sc Sc_th h) (by omega)⟩
  · refine ⟨r, _, _, e1, e2, Inv_mono ?_ (show B ≤ B + 80 by omega)⟩
    have hN := SeenAt_new w1 p12 hy hi hs8
    generalize hM2 : (if y = 0 then M else M ||| 2 ^ s) = M2 at hN
    have hg : ∀ b j, ¬ (b = 58 ∧ j = s) → ¬ (b = 54 ∧ (j = 5 ∨ j = 7)) → ¬ (b = 78 ∧ j = 0) → ¬ ((b = 115 ∨ b = 116) ∧ j = s) → ¬ (b = 114 ∧ j = 0) → gI (snR s (nI i) y (th (snM s (nI i) M2 m))) b j = gI m b j := fun b j c1 c2 c3 c4 c5 => by
      unfold snR snM th
      rw [g_ne (by omega), g_ne (by omega), g_ne (by omega), g_ne (by omega), g_ne (by omega), g_ne (by omega), g_ne (by omega)]
    have g116 : gI (snR s (nI i) y (th (snM s (nI i) M2 m))) 116 s = nI y := by
      unfold snR
      rw [g_ne (by omega), g_eq]
    generalize snR s (nI i) y (th (snM s (nI i) M2 m)) = m2 at hN hg g116
    obtain ⟨u1, u2, u3, u4⟩ := pS_un p9.2.2.1
    have hX := w1.2.2.1
    have key : ∀ k, k < 2 → MkI Λ B k m → MkI Λ B k m2 := fun k hk hM => MkI_ag hX (hg _ _ (by omega) (by omega) (by omega) (by omega) (by omega)) (hg _ _ (by omega) (by omega) (by omega) (by omega) (by omega)) (fun b i c1 c2 => hg _ _ (by omega) (by omega) (by omega) (by omega) (by omega)) (fun j hj => hg _ _ (by omega) (by omega) (by omega) (by omega) (by omega)) (hg _ _ (by omega) (by omega) (by omega) (by omega) (by omega)) (fun b i c1 c2 => hg _ _ (by omega) (by omega) (by omega) (by omega) (by omega)) hM
    refine ⟨k1, k2, ⟨Λ, T, P, S, s + 1, _, M2, n, vb, ob, ⟨w1, w2, w3, w4, w5, w6⟩, p2, p3, ToC_gg p2 (fun b i c1 c2 => hg _ _ (by omega) (by omega) (by omega) (by omega) (by omega)) p4, ToR_gg p2 (fun b i hb => hg _ _ (by omega) (by omega) (by omega) (by omega) (by omega)) p5, LawC_g (fun b i hb => hg _ _ (by omega) (by omega) (by omega) (by omega) (by omega)) p6, LawR_g (fun b i hb => hg _ _ (by omega) (by omega) (by omega) (by omega) (by omega)) p7, p8, ⟨RelC_g (fun b i c1 c2 => hg _ _ (by omega) (by omega) (by omega) (by omega) (by omega)) p9.1, RelR_g w1 (fun b i hb => hg _ _ (by omega) (by omega) (by omega) (by omega) (by omega)) p9.2.1, pS_fix ((hg _ _ (by omega) (by omega) (by omega) (by omega) (by omega)).trans u1) (fun i => (hg _ _ (by omega) (by omega) (by omega) (by omega) (by omega)).trans (u2 i)) (fun i => (hg _ _ (by omega) (by omega) (by omega) (by omega) (by omega)).trans (u3 i)) (fun i => (hg _ _ (by omega) (by omega) (by omega) (by omega) (by omega)).trans (u4 i)), pR_fix (fun i _ => hg _ _ (by omega) (by omega) (by omega) (by omega) (by omega)) p9.2.2.2⟩, p10, Lines_g (fun b i hb => hg _ _ (by omega) (by omega) (by omega) (by omega) (by omega)) p11, hN, fun i' hi' => ?_, key 0 (by omega) p14, key 1 (by omega) p15⟩, q, ⟨(hg _ _ (by omega) (by omega) (by omega) (by omega) (by omega)).trans k4.1, fun i hi => (hg _ _ (by omega) (by omega) (by omega) (by omega) (by omega)).trans (k4.2 i hi)⟩, ⟨(hg _ _ (by omega) (by omega) (by omega) (by omega) (by omega)).trans k5.1, fun i hi => (hg _ _ (by omega) (by omega) (by omega) (by omega) (by omega)).trans (k5.2 i hi)⟩, k6⟩
    by_cases e : i' = s
    · rw [e, g116]
      have hy2 : y = 0 ∨ y = 1 := by omega
      rcases hy2 with rfl | rfl <;> decide
    · rw [hg _ _ (by omega) (by omega) (by omega) (by omega) (by omega)]
      exact p13 i' hi'
theorem i_mark (h : Inv t u w v B m) (hy : y < 2) : ∃ r m1 m2, f_X10_mark t u w v x1 (nI y) m = some (r, m1) ∧ f_X11_mark x1 (nI y) m1 = some (r, m2) ∧ Inv t u w v (B + 80) m2 := by
  obtain ⟨k1, k2, ⟨Λ, T, P, S, s, D, M, n, vb, ob, hP⟩, q, k4, k5, k6⟩ := id h
  obtain ⟨⟨w1, w2, w3, w4, w5, w6⟩, p2, p3, p4, p5, p6, p7, p8, p9, p10, p11, p12, p13, p14, p15⟩ := id hP
  obtain ⟨r, m1, m2, e1, e2, ⟨⟨S2, s2, D2, M2, f1, f2, f3⟩, f4, f5, f6⟩, e4⟩ := a_mark (t := t) (u := u) (w := w) (v := v) (x1 := x1) p9 w1 w3 p10 p12 p13 p14 p15 hy
  have hg : ∀ b i, ¬ (54 ≤ b ∧ b ≤ 58) → ¬ (65 ≤ b ∧ b ≤ 75) → ¬ (b = 78 ∧ i = 0) → ¬ (114 ≤ b ∧ b ≤ 117) → b ≠ 120 → b ≠ 121 → gI m2 b i = gI m b i := fun b i c1 c2 c3 c4 c5 c6 => e4.2 b i (by omega)
  refine ⟨r, m1, m2, e1, e2, Inv_mono ?_ (show B ≤ B + 80 by omega)⟩
  exact ⟨k1, k2, ⟨Λ, T, P, S2, s2, D2, M2, n, vb, ob, ⟨w1, w2, w3, w4, w5, w6⟩, p2, p3, ToC_gg p2 (fun b i c1 c2 => hg _ _ (by omega) (by omega) (by omega) (by omega) (by omega) (by omega)) p4, ToR_gg p2 (fun b i hb => hg _ _ (by omega) (by omega) (by omega) (by omega) (by omega) (by omega)) p5, LawC_g (fun b i hb => hg _ _ (by omega) (by omega) (by omega) (by omega) (by omega) (by omega)) p6, LawR_g (fun b i hb => hg _ _ (by omega) (by omega) (by omega) (by omega) (by omega) (by omega)) p7, p8, f1, f2, Lines_g (fun b i hb => hg _ _ (by omega) (by omega) (by omega) (by omega) (by omega) (by omega)) p11, f3, f6, f4, f5⟩, q, ⟨(hg _ _ (by omega) (by omega) (by omega) (by omega) (by omega) (by omega)).trans k4.1, fun i hi => (hg _ _ (by omega) (by omega) (by omega) (by omega) (by omega) (by omega)).trans (k4.2 i hi)⟩, ⟨(hg _ _ (by omega) (by omega) (by omega) (by omega) (by omega) (by omega)).trans k5.1, fun i hi => (hg _ _ (by omega) (by omega) (by omega) (by omega) (by omega) (by omega)).trans (k5.2 i hi)⟩, k6⟩
theorem i_lost (h : Inv t u w v B m) : ∃ k m1 r m2, f_L_lost x1 m = some (k, m1) ∧ f_X11_lost x1 m1 = some (r, m2) ∧ gI m2 78 0 = k ∧ (k = 0 → gL m2 125 0 = r.toInt64) ∧ Inv t u w v (B + 80) m2 := by
  obtain ⟨k1, k2, ⟨Λ, T, P, S, s, D, M, n, vb, ob, hP⟩, q, k4, k5, k6⟩ := id h
  obtain ⟨⟨w1, w2, w3, w4, w5, w6⟩, p2, p3, p4, p5, p6, p7, p8, p9, p10, p11, p12, p13, p14, p15⟩ := id hP
  obtain ⟨k, m1, r, m2, e1, e2, e3, e4, e5⟩ := a_lost (x1 := x1) p9 w1
  exact ⟨k, m1, r, m2, e1, e2, e3, e4, Inv_mono (Inv_Sc e5 h) (by omega)⟩
theorem i_work (h : Inv t u w v B m) : ∃ F m1 m2, F < 100000 ∧ f_X10_work t u w v m = some (nI F, m1) ∧ f_X11_work m1 = some (nI F, m2) ∧ (F ≠ 0 → Inv t u w v (B + 80) m2) ∧ (F = 0 → Inv t u v w (B + 80) m2) := by
  obtain ⟨k1, k2, ⟨Λ, T, P, S, s, D, M, n, vb, ob, hP⟩, q, k4, k5, k6⟩ := id h
  obtain ⟨⟨w1, w2, w3, w4, w5, w6⟩, p2, p3, p4, p5, p6, p7, p8, p9, p10, p11, p12, p13, p14, p15⟩ := id hP
  obtain ⟨m1, m2, e1, e2, e3, e4, e5, e6⟩ := a_work (t := t) (u := u) (w := w) (v := v) (by omega) w1 p9.1 p9.2.1 k4 k5 k6
  have hq1 := k6.1
  have hF := wk_lt (q := q) (X := yX Λ) (D := yD Λ) hq1
  have tp : ∃ q', TC q' m2 ∧ TR q' m2 ∧ TW q' := ⟨(0, q.2), ⟨e3, fun i hi => absurd hi (Nat.not_lt_zero _)⟩, ⟨e4, fun i hi => absurd hi (Nat.not_lt_zero _)⟩, Nat.zero_le _, fun i hi => absurd hi (Nat.not_lt_zero _)⟩
  refine ⟨wkF q (yX Λ) (yD Λ), m1, m2, hF, e1, e2, fun hz => ⟨k1, k2, InB_mono (InB_nt (fun b i hb => ?_) ⟨Λ, T, P, S, s, D, M, n, vb, ob, hP⟩) (by omega), tp⟩, fun hz => ?_⟩
  · unfold nt at hb
    exact e5 b i (by omega) (by omega) (by omega) (by omega) (by omega) (fun e => hz e.1)
  · have hg : ∀ b i, ¬ (b = 1 ∧ 1 ≤ i ∧ i ≤ 6) → ¬ (v ≤ b ∧ b ≤ v + 3) → ¬ (b = 78 ∧ (i ≤ 9 ∨ i = 31)) → ¬ (110 ≤ b ∧ b ≤ 113) → gI m2 b i = gI m b i := fun b i c1 c2 c3 c4 => e5 b i c1 c2 c3 (by omega) (by omega) (by omega)
    have hX := w1.2.2.1
    have key : ∀ k, k < 2 → MkI Λ B k m → MkI Λ B k m2 := fun k hk hM => MkI_ag hX (hg _ _ (by omega) (by omega) (by omega) (by omega)) (hg _ _ (by omega) (by omega) (by omega) (by omega)) (fun b i c1 c2 => hg _ _ (by omega) (by omega) (by omega) (by omega)) (fun j hj => hg _ _ (by omega) (by omega) (by omega) (by omega)) (hg _ _ (by omega) (by omega) (by omega) (by omega)) (fun b i c1 c2 => hg _ _ (by omega) (by omega) (by omega) (by omega)) hM
    exact Inv_mono ⟨k1, by omega, ⟨Λ, T, P, S, s, D, M, _, _, _, ⟨w1, w2, w3, w4, w5, w6⟩, p2, p3, ToC_gg p2 (fun b i c1 c2 => hg _ _ (by omega) (by omega) (by omega) (by omega)) p4, ToR_gg p2 (fun b i hb => hg _ _ (by omega) (by omega) (by omega) (by omega)) p5, LawC_g (fun b i hb => hg _ _ (by omega) (by omega) (by omega) (by omega)) p6, LawR_g (fun b i hb => hg _ _ (by omega) (by omega) (by omega) (by omega)) p7, p8, Hq_gg w1 (fun b i hb => hg _ _ (by omega) (by omega) (by omega) (by omega)) p9, p10, e6 hz, Seen_mv (a := 54) (r := 0) (hg _ _ (by omega) (by omega) (by omega) (by omega)) (hg _ _ (by omega) (by omega) (by omega) (by omega)) (hg _ _ (by omega) (by omega) (by omega) (by omega)) (fun i hi => hg _ _ (by omega) (by omega) (by omega) (by omega)) (fun i hi => hg _ _ (by omega) (by omega) (by omega) (by omega)) (fun i hi => hg _ _ (by omega) (by omega) (by omega) (by omega)) p12, fun i hi => by rw [hg _ _ (by omega) (by omega) (by omega) (by omega)]; exact p13 i hi, key 0 (by omega) p14, key 1 (by omega) p15⟩, tp⟩ (show B ≤ B + 80 by omega)
theorem i_array (h : Inv t u w v B m) : ∃ F m1 m2, F < 100000 ∧ f_X10_array t u w v m = some (nI F, m1) ∧ f_X11_array m1 = some (nI F, m2) ∧ (F ≠ 0 → Inv t u w v (B + 80) m2) ∧ (F = 0 → Inv u t w v (B + 80) m2) := by
  obtain ⟨k1, k2, ⟨Λ, T, P, S, s, D, M, n, vb, ob, hP⟩, q, k4, k5, k6⟩ := id h
  obtain ⟨⟨w1, w2, w3, w4, w5, w6⟩, p2, p3, p4, p5, p6, p7, p8, p9, p10, p11, p12, p13, p14, p15⟩ := id hP
  obtain ⟨F, m1, m2, e0, e1, e2, e3, e4, e5, e6⟩ := a_array (t := t) (u := u) (w := w) (v := v) k1 (by omega) k4 k5 k6 p13
  have tp : ∃ q', TC q' m2 ∧ TR q' m2 ∧ TW q' := ⟨(0, q.2), ⟨e3, fun i hi => absurd hi (Nat.not_lt_zero _)⟩, ⟨e4, fun i hi => absurd hi (Nat.not_lt_zero _)⟩, Nat.zero_le _, fun i hi => absurd hi (Nat.not_lt_zero _)⟩
  refine ⟨F, m1, m2, e0, e1, e2, fun hz => ⟨k1, k2, InB_mono (InB_nt (e5 hz) ⟨Λ, T, P, S, s, D, M, n, vb, ob, hP⟩) (by omega), tp⟩, fun hz => ?_⟩
  obtain ⟨Λ2, T2, P2, S2, g1, g2, g3, g4, g5, g6, g7, g8, g9, g10, g11, g12, g13, g14, g15, g16, g17, g18, g19, g20⟩ := e6 hz
  refine Inv_mono ⟨k1.elim (fun e => Or.inr ⟨e.2, e.1⟩) (fun e => Or.inl ⟨e.2, e.1⟩), k2, ⟨Λ2, T2, P2, S2, 0, fun _ => 0, 0, 0, fun _ => 0, fun _ => 0, g1, g2, g3, g4, g5, g6, g7, g8, g9, g10, ⟨Nat.zero_le _, g11, g12, fun i hi => absurd hi (Nat.not_lt_zero _)⟩, ⟨Nat.zero_le _, by decide, g13, g14, g15, fun i hi => absurd hi (Nat.not_lt_zero _)⟩, g20, ⟨0, Nat.zero_le _, g16, g18, fun e => absurd e (by decide)⟩, ⟨0, Nat.zero_le _, g17, g19, fun e => absurd e (by decide)⟩⟩, tp⟩ (show 0 ≤ B + 80 by omega)
end Cases
