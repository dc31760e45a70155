/-! MATH HALF: all lines of work, the class -/
abbrev okl (q : Tq) (X D a k : Nat) : Prop := tkC q a ≠ 0 ∧ vbN q a < 6 ∧ k < 40 ∧ lnG q X D a = 0
def paN (q : Tq) : Nat → Nat
  | 0 => skT q 0
  | k + 1 => nxT q (lnA q (paN q k))
def noN (q : Tq) (X D : Nat) : Nat := fs (fun k => ¬ okl q X D (paN q k) k) 41
def wkF (q : Tq) (X D : Nat) : Nat := if tkC q (paN q (noN q X D)) = 0 then 0 else if vbN q (paN q (noN q X D)) = 6 then 1 + 16 * paN q (noN q X D) else if noN q X D = 40 then 5 + 16 * paN q (noN q X D) else lnG q X D (paN q (noN q X D))
def stW (q : Tq) (A u : Nat) (m : Mm) : Prop := ∀ i, i < u → gI m (A + 1) i = nI (vbN q (paN q i)) ∧ gI m (A + 2) i = nI (tkV q (nxT q (paN q i))) ∧ (vbN q (paN q i) = 1 → gI m (A + 3) i = nI (tkV q (nxT q (nxT q (paN q i)))))
def fwC (A : Nat) (m m2 : Mm) : Prop := m2.2 = m.2 ∧ ∀ b i, ¬ (b = 1 ∧ 2 ≤ i ∧ i ≤ 6) → ¬ (A ≤ b ∧ b ≤ A + 3) → m2.1 b i = m.1 b i
section Lines
variable {q : Tq} {a b c d e i j k n p s u x A X D v : Nat} {m m2 m3 : Mm} {v1 v2 v3 y : Int32}
theorem lnA_le (ha : a ≤ q.1) : lnA q a ≤ q.1 := by
  unfold lnA
  split
  · exact nxT_le (nxT_le (nxT_le ha))
  · exact nxT_le (nxT_le ha)
theorem pa_le : ∀ k, paN q k ≤ q.1
  | 0 => (skT_le (Nat.zero_le _)).2
  | k + 1 => nxT_le (lnA_le (pa_le k))
theorem no_is : noN q X D ≤ 40 ∧ ¬ okl q X D (paN q (noN q X D)) (noN q X D) := by
  have h1 := fs_le (fun k => ¬ okl q X D (paN q k) k) 41
  have h2 : fs (fun k => ¬ okl q X D (paN q k) k) 41 < 41 := by
    rcases Nat.lt_or_ge (fs (fun k => ¬ okl q X D (paN q k) k) 41) 41 with h | h
    · exact h
    · exfalso
      have := fs_not (fun k => ¬ okl q X D (paN q k) k) 41 40 (by omega)
      have h3 := Classical.not_not.mp this
      exact absurd h3.2.2.1 (by omega)
  exact ⟨by unfold noN; omega, fs_is (fun k => ¬ okl q X D (paN q k) k) 41 h2⟩
theorem no_ok (h : k < noN q X D) : okl q X D (paN q k) k := Classical.not_not.mp (fs_not (fun k => ¬ okl q X D (paN q k) k) 41 k h)
theorem fwC_f (h1 : fwC A m m2) (h2 : frL A n m2 m3) : fwC A m m3 := ⟨h2.1.trans h1.1, fun b i k1 k2 => (h2.2 b i k1 (by omega) (by omega)).trans (h1.2 b i k1 k2)⟩
theorem fwC_s (h1 : fwC A m m2) : fwC A m (sI m2 1 6 y) := ⟨h1.1, fun b i k1 k2 => by
  simp only [sI]
  rw [if_neg (by omega)]
  exact h1.2 b i k1 k2⟩
theorem fill_no (h : ¬ gI m 1 6 = 0) : f_X9_fill_L14 A (k + 1) v1 v2 v3 m = some (gI m 1 6, m) := by
  rw [f_X9_fill_L14, if_neg h]
  split <;> rfl
theorem c_fillL (hA : A = 18 ∨ A = 22) (h : CTk q (paN q 0) m) (hq : TW q) (h0 : gI m 1 6 = 0) (h4 : gI m A 4 = nI 0) : ∃ m2, f_X9_fill_L14 A FU (nI X) (nI D) (nI 0) m = some (nI (wkF q X D), m2) ∧ fwC A m m2 ∧ (wkF q X D = 0 → gI m2 A 4 = nI (noN q X D) ∧ stW q A (noN q X D) m2) := by
  have h1 := hq.1
  obtain ⟨hN, hno⟩ := no_is (q := q) (X := X) (D := D)
  obtain ⟨jf, hj1, hj2⟩ := FU_j
  rw [hj1]
  refine lpI (fun j u m => f_X9_fill_L14 A (j + 1) (nI X) (nI D) (nI u) m) (fun u m2 => CTk q (paN q u) m2 ∧ gI m2 1 6 = 0 ∧ gI m2 A 4 = nI u ∧ stW q A u m2 ∧ fwC A m m2) (noN q X D) (fun o => ∃ m2, o = some (nI (wkF q X D), m2) ∧ fwC A m m2 ∧ (wkF q X D = 0 → gI m2 A 4 = nI (noN q X D) ∧ stW q A (noN q X D) m2)) (fun k m2 hI => ?_) (fun k u m2 hu hI => ?_) jf 0 m (by omega) (by omega) ⟨h, h0, h4, fun i hi => absurd hi (Nat.not_lt_zero _), rfl, fun _ _ _ _ => rfl⟩
  · obtain ⟨i1, i2, i3, i4, i5⟩ := hI
    have ha := pa_le (q := q) (noN q X D)
    have hC := tkC_le (q := q) (a := paN q (noN q X D))
    have hV := vb_le (q := q) (a := paN q (noN q X D))
    have lt : nI (noN q X D) < 1000 := (q_ltp (b := 1000) (by omega) (by omega)).mpr (by omega)
    unfold wkF
    rw [f_X9_fill_L14, if_pos lt, if_pos i2]
    by_cases k0 : tkC q (paN q (noN q X D)) = 0
    · have e : gI m2 1 2 = 0 := by rw [i1.2.1, k0]; rfl
      rw [if_pos e, if_pos k0, i2]
      exact ⟨m2, rfl, i5, fun _ => ⟨i3, i4⟩⟩
    · have e : ¬ gI m2 1 2 = 0 := by
        rw [i1.2.1]
        exact fun e => k0 ((q_eq (b := 0) (by omega) (by omega)).mp e)
      rw [if_neg e, if_neg k0, c_verb i1 hq ha, q_bd2]
      by_cases k6 : vbN q (paN q (noN q X D)) = 6
      · rw [if_pos k6, if_pos k6, if_pos (by rfl), q_l1, c_fail i1 i2, q_bd1, fill_no (by rw [g_eq]; exact f16 (by omega) (by omega) (by omega)), g_eq]
        refine ⟨_, rfl, fwC_s i5, fun hz => by omega⟩
      · have nv : ¬ nI (vbN q (paN q (noN q X D))) = -1 := fun e => by
          have e2 : nI (vbN q (paN q (noN q X D))) = mo := e
          rw [q_moe (by omega)] at e2
          exact e2
        rw [if_neg k6, if_neg k6, if_neg nv, i3]
        by_cases k40 : noN q X D = 40
        · have nlt : ¬ nI (noN q X D) < 40 := fun e => by
            have := (q_ltp (b := 40) (by omega) (by omega)).mp e
            omega
          rw [if_neg nlt, if_pos k40, q_l5, c_fail i1 i2, q_bd1, fill_no (by rw [g_eq]; exact f16 (by omega) (by omega) (by omega)), g_eq]
          exact ⟨_, rfl, fwC_s i5, fun hz => by omega⟩
        · have plt : nI (noN q X D) < 40 := (q_ltp (b := 40) (by omega) (by omega)).mpr (by omega)
          obtain ⟨m5, d1, d2, d3, d4⟩ := c_line (X := X) (D := D) hA i1 hq ha i2 i3 (by omega) (by omega)
          have hz : lnG q X D (paN q (noN q X D)) ≠ 0 := fun hz => hno ⟨k0, by omega, by omega, hz⟩
          have e6 := d4 hz
          have nz6 : ¬ gI m5 1 6 = 0 := by
            rw [e6]
            intro e
            have hb : lnG q X D (paN q (noN q X D)) < 2147483648 := by
              have a1 := nxT_le ha
              have a2 := nxT_le a1
              have a3 := lnA_le ha
              have n1 := nu_le (q := q) (a := nxT q (paN q (noN q X D))) (lo := oLo (vbN q (paN q (noN q X D)))) (hi := oHi X D (vbN q (paN q (noN q X D))))
              have n2 := nu_le (q := q) (a := nxT q (nxT q (paN q (noN q X D)))) (lo := nI 0) (hi := nI 255)
              unfold lnG
              split
              · omega
              · split
                · omega
                · split <;> omega
            exact hz ((q_eq (b := 0) hb (by omega)).mp e)
          rw [if_pos plt, if_neg k40, d1, q_bd1, fill_no nz6, e6]
          exact ⟨m5, rfl, fwC_f i5 d2, fun h2 => absurd h2 hz⟩
  · obtain ⟨i1, i2, i3, i4, i5⟩ := hI
    obtain ⟨o1, o2, o3, o4⟩ := no_ok hu
    have ha := pa_le (q := q) u
    have hC := tkC_le (q := q) (a := paN q u)
    have lt : nI u < 1000 := (q_ltp (b := 1000) (by omega) (by omega)).mpr (by omega)
    have e : ¬ gI m2 1 2 = 0 := by
      rw [i1.2.1]
      exact fun e => o1 ((q_eq (b := 0) (by omega) (by omega)).mp e)
    have nv : ¬ nI (vbN q (paN q u)) = -1 := fun e => by
      have e2 : nI (vbN q (paN q u)) = mo := e
      rw [q_moe (by omega)] at e2
      exact e2
    have plt : nI u < 40 := (q_ltp (b := 40) (by omega) (by omega)).mpr (by omega)
    obtain ⟨m5, d1, d2, d3, d4⟩ := c_line (X := X) (D := D) hA i1 hq ha i2 i3 (by omega) o2
    obtain ⟨p1, p2, p3, p4, p5, p6⟩ := d3 o4
    refine ⟨m5, ⟨p1, p2, p3, fun i hi => ?_, fwC_f i5 d2⟩, ?_⟩
    · by_cases ei : i = u
      · subst ei
        exact ⟨p4, p5, p6⟩
      · obtain ⟨s1, s2, s3⟩ := i4 i (by omega)
        have g : ∀ b, A + 1 ≤ b → b ≤ A + 3 → gI m5 b i = gI m2 b i := fun b k1 k2 => d2.2 b i (by omega) (by omega) (by omega)
        exact ⟨(g _ (by omega) (by omega)).trans s1, (g _ (by omega) (by omega)).trans s2, fun hh => (g _ (by omega) (by omega)).trans (s3 hh)⟩
    · have n6 : ¬ vbN q (paN q u) = 6 := by omega
      rw [f_X9_fill_L14, if_pos lt, if_pos i2, if_neg e, c_verb i1 hq ha, if_neg n6, q_bd2, if_neg nv, i3, if_pos plt, d1, q_bd1, q_l1, nI_add]
end Lines
