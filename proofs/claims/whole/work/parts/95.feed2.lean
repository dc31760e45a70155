/-! MATH HALF: feed of the reference, the call feed -/
section Fed2
variable {b x k n i j : Nat} {m m2 : Mm} {w x1 x3 x5 : Int64} {q : Nat × (Nat → Nat)}
def pkW (x1 x3 x5 : Int64) (i : Nat) : Int64 := if i < 8 then x1 else if i < 16 then x3 else x5
def apF (x1 x3 x5 : Int64) (q : Nat × (Nat → Nat)) : Nat → Nat × (Nat → Nat)
  | 0 => q
  | i + 1 => apQ (apF x1 x3 x5 q i) (byN (pkW x1 x3 x5 i) (i % 8))
theorem apF_e : apF x1 x3 x5 q 24 = apW x5 (apW x3 (apW x1 q 8) 8) 8 := by
  simp only [apF, apW, pkW]
  rfl
theorem TW_apF (h : TW q) : ∀ j, TW (apF x1 x3 x5 q j)
  | 0 => h
  | j + 1 => TW_ap (TW_apF h j)
theorem sh_r : ∀ i, i < 24 → (56 : Int32) - ((8 : Int32) * (nI i &&& (7 : Int32))) = nI (56 - 8 * (i % 8)) := by decide +kernel
theorem r_feB (h : TR q m) (hq : TW q) (hp : q.1 < 1000) (ho : okS b) {K8 : Int64 → Int64 → Int64 → Int32 → Mm → Option (Int32 × Mm)} {v7 : Int32} : ∃ m2, (f_X11_feed_J93 K8 x1 x3 x5 v7 (nI b) m = K8 x1 x3 x5 (v7 + 1) m2) ∧ TR (apQ q b) m2 ∧ m2.2 = m.2 ∧ ∀ c i, c ≠ 79 → ¬ (c = 78 ∧ i = 1) → m2.1 c i = m.1 c i := by
  have h1 := hq.1
  unfold f_X11_feed_J93
  have eq1 : apQ q b = (q.1 + 1, fun i => if i = q.1 then b else q.2 i) := if_pos ⟨ho, hp⟩
  rw [eq1]
  refine ⟨sI (sI m 79 q.1 (nI b)) 78 1 (nI (q.1 + 1)), ?_, ⟨by simp [gI, sI], fun i hi => ?_⟩, rfl, fun c i h3 h4 => ?_⟩
  · have e1 : gI (sI m 79 q.1 (nI b)) 78 1 = nI q.1 := by
      have : gI (sI m 79 q.1 (nI b)) 78 1 = gI m 78 1 := by simp [gI, sI]
      rw [this]; exact h.1
    rw [h.1, q_gd hp (by omega), q_ix (by omega), q_stI, q_stI, e1, q_l1, nI_add]
  · have hi2 : i < q.1 + 1 := hi
    show gI (sI (sI m 79 q.1 (nI b)) 78 1 (nI (q.1 + 1))) 79 i = nI (if i = q.1 then b else q.2 i)
    by_cases e : i = q.1
    · subst e; simp [gI, sI]
    · rw [if_neg e]
      have : gI (sI (sI m 79 q.1 (nI b)) 78 1 (nI (q.1 + 1))) 79 i = gI m 79 i := by simp [gI, sI, e]
      rw [this]; exact h.2 i (by omega)
  · simp only [sI]
    rw [if_neg h4, if_neg (fun h => h3 h.1)]
theorem r_feJ (h : TR q m) (hq : TW q) (hi : i < 24) {K8 : Int64 → Int64 → Int64 → Int32 → Mm → Option (Int32 × Mm)} : ∃ m2, (f_X11_feed_J39 K8 x1 x3 x5 (nI i) w m = K8 x1 x3 x5 (nI i + 1) m2) ∧ TR (apQ q (byN w (i % 8))) m2 ∧ m2.2 = m.2 ∧ ∀ c i, c ≠ 79 → ¬ (c = 78 ∧ i = 1) → m2.1 c i = m.1 c i := by
  have h1 := hq.1
  have hb := by_lt (w := w) (j := i % 8)
  have e5 := by_r (w := w) (j := i % 8) (by omega)
  unfold f_X11_feed_J39
  rw [sh_r i hi, e5, h.1, q_l1000]
  by_cases p0 : q.1 < 1000
  · rw [if_pos ((q_ltp (by omega) (by omega)).mpr p0)]
    have no : ¬ okS (byN w (i % 8)) → apQ q (byN w (i % 8)) = q := fun hn => if_neg (fun h => hn h.1)
    by_cases p1 : byN w (i % 8) = 10
    · rw [if_pos (by rw [p1]; rfl)]
      exact r_feB h hq p0 (Or.inl p1)
    · have p1' : ¬ nI (byN w (i % 8)) = 10 := fun e => by
        rw [q_l10, q_eq (by omega) (by omega)] at e
        exact p1 e
      rw [if_neg p1']
      by_cases p2 : byN w (i % 8) < 32
      · rw [if_pos (by rw [q_l32]; exact (q_ltp (by omega) (by omega)).mpr p2), no (by unfold okS; omega)]
        exact ⟨m, rfl, h, rfl, fun _ _ _ _ => rfl⟩
      · rw [if_neg (by rw [q_l32]; exact fun e => p2 ((q_ltp (by omega) (by omega)).mp e))]
        by_cases p3 : 126 < byN w (i % 8)
        · rw [if_pos (by rw [q_l126]; exact (q_ltp (by omega) (by omega)).mpr p3), no (by unfold okS; omega)]
          exact ⟨m, rfl, h, rfl, fun _ _ _ _ => rfl⟩
        · rw [if_neg (by rw [q_l126]; exact fun e => p3 ((q_ltp (by omega) (by omega)).mp e))]
          exact r_feB h hq p0 (by unfold okS; omega)
  · rw [if_neg (fun e => p0 ((q_ltp (by omega) (by omega)).mp e))]
    have eq1 : apQ q (byN w (i % 8)) = q := if_neg (fun h => p0 h.2)
    rw [eq1]
    exact ⟨m, rfl, h, rfl, fun _ _ _ _ => rfl⟩
theorem r_feL (h : TR q m) (hq : TW q) : ∀ n i f m1, n + i = 24 → n < f → TR (apF x1 x3 x5 q i) m1 → ∃ m2, f_X11_feed_L8 f x1 x3 x5 (nI i) m1 = some (gI m2 78 1, m2) ∧ TR (apF x1 x3 x5 q 24) m2 ∧ m2.2 = m1.2 ∧ ∀ c i, c ≠ 79 → ¬ (c = 78 ∧ i = 1) → m2.1 c i = m1.1 c i := fun n => by
  induction n with
  | zero =>
    intro i f m1 e1 e2 e3
    have : i = 24 := by omega
    subst this
    obtain ⟨f1, rfl⟩ : ∃ f1, f = f1 + 1 := ⟨f - 1, by omega⟩
    refine ⟨m1, ?_, e3, rfl, fun _ _ _ _ => rfl⟩
    simp only [f_X11_feed_L8]
    rw [if_neg (by decide)]
  | succ n ih =>
    intro i f m1 e1 e2 e3
    obtain ⟨f1, rfl⟩ : ∃ f1, f = f1 + 1 := ⟨f - 1, by omega⟩
    have hi : i < 24 := by omega
    obtain ⟨m2, g1, g2, g3, g4⟩ := r_feJ (x1 := x1) (x3 := x3) (x5 := x5) (w := pkW x1 x3 x5 i) (K8 := fun w1 w3 w5 w7 m => f_X11_feed_L8 f1 w1 w3 w5 w7 m) e3 (TW_apF hq i) hi
    obtain ⟨m3, k1, k2, k3, k4⟩ := ih (i + 1) f1 m2 (by omega) (by omega) g2
    refine ⟨m3, ?_, k2, k3.trans g3, fun c i h1 h2 => (k4 c i h1 h2).trans (g4 c i h1 h2)⟩
    rw [← k1]
    have e9 : nI i + 1 = nI (i + 1) := by rw [q_l1, nI_add]
    rw [e9] at g1
    have g1' : f_X11_feed_J39 (fun w1 w3 w5 w7 m => f_X11_feed_L8 f1 w1 w3 w5 w7 m) x1 x3 x5 (nI i) (pkW x1 x3 x5 i) m1 = f_X11_feed_L8 f1 x1 x3 x5 (nI (i + 1)) m2 := g1
    rw [← g1']
    simp only [f_X11_feed_L8]
    rw [q_l24, if_pos ((q_ltp (by omega) (by omega)).mpr hi)]
    unfold pkW
    by_cases p1 : i < 8
    · rw [q_l8, if_pos ((q_ltp (by omega) (by omega)).mpr p1), if_pos p1]
    · rw [q_l8, if_neg (fun e => p1 ((q_ltp (by omega) (by omega)).mp e)), if_neg p1]
      by_cases p2 : i < 16
      · rw [q_l16, if_pos ((q_ltp (by omega) (by omega)).mpr p2), if_pos p2]
      · rw [q_l16, if_neg (fun e => p2 ((q_ltp (by omega) (by omega)).mp e)), if_neg p2]
theorem TR_th (h : TR q m) : TR q (th m) := ⟨h.1, fun i hi => h.2 i hi⟩
/-- feed: both tapes grow alike -/
theorem a_feed {t u w v : Nat} (h : TC q m) (h2 : TR q m) (hq : TW q) : ∃ r m1 m2, f_X10_feed t u w v x1 x3 x5 m = some (r, m1) ∧ f_X11_feed x1 x3 x5 m1 = some (r, m2) ∧ TC (apF x1 x3 x5 q 24) m2 ∧ TR (apF x1 x3 x5 q 24) m2 ∧ TW (apF x1 x3 x5 q 24) ∧ m2.2 = m.2 ∧ ∀ c i, c ≠ 2 → c ≠ 79 → ¬ (c = 1 ∧ i = 1) → ¬ (c = 78 ∧ i = 1) → ¬ (c = 78 ∧ i = 0) → m2.1 c i = m.1 c i := by
  obtain ⟨m1, a1, a2, a3, a4⟩ := c_append (w := x1) h hq
  obtain ⟨m2, b1, b2, b3, b4⟩ := c_append (w := x3) a2 (TW_apW hq 8)
  obtain ⟨m3, c1, c2, c3, c4⟩ := c_append (w := x5) b2 (TW_apW (TW_apW hq 8) 8)
  have hR : TR q m3 := by
    refine ⟨?_, fun i hi => ?_⟩
    · rw [← h2.1]
      exact (c4 78 1 (by decide) (by decide)).trans ((b4 78 1 (by decide) (by decide)).trans (a4 78 1 (by decide) (by decide)))
    · rw [← h2.2 i hi]
      exact (c4 79 i (by decide) (by simp)).trans ((b4 79 i (by decide) (by simp)).trans (a4 79 i (by decide) (by simp)))
  obtain ⟨m4, d1, d2, d3, d4⟩ := r_feL (x1 := x1) (x3 := x3) (x5 := x5) hR hq 24 0 FU (th m3) (by omega) (by show _ < 4096; omega) (TR_th hR)
  have hC : TC (apF x1 x3 x5 q 24) m4 := by
    rw [apF_e]
    refine ⟨?_, fun i hi => ?_⟩
    · rw [← c2.1]
      exact d4 1 1 (by decide) (by decide)
    · rw [← c2.2 i hi]
      exact d4 2 i (by decide) (by simp)
  refine ⟨gI m4 78 1, m3, m4, ?_, ?_, hC, d2, TW_apF hq 24, d3.trans (c3.trans (b3.trans a3)), fun c i k1 k2 k3 k4 k5 => ?_⟩
  · unfold f_X10_feed
    rw [a1]
    show bd1 (f_X7_append x3 m1) _ = _
    rw [b1]
    show bd1 (f_X7_append x5 m2) _ = _
    rw [c1]
    show some (gI m3 1 1, m3) = _
    have e1 : gI m3 1 1 = gI m4 78 1 := by
      rw [c2.1, d2.1, apF_e]
    rw [e1]
  · unfold f_X11_feed
    rw [q_stI]
    exact d1
  · refine (d4 c i k2 k4).trans ?_
    have e1 : (th m3).1 c i = m3.1 c i := by
      show (sI m3 78 0 _).1 c i = _
      simp only [sI]
      rw [if_neg k5]
    rw [e1]
    exact (c4 c i k1 k3).trans ((b4 c i k1 k3).trans (a4 c i k1 k3))
end Fed2
