/-! MATH HALF: a line of work, the reference -/
def frR (n : Nat) (m m2 : Mm) : Prop := (∀ b i, ¬ (b = 78 ∧ i = 7) → m2.2 b i = m.2 b i) ∧ ∀ b i, ¬ (b = 78 ∧ ((4 ≤ i ∧ i ≤ 9) ∨ i = 31)) → ¬ (b = 110 ∧ i = 3) → ¬ (111 ≤ b ∧ b ≤ 113 ∧ i = 120 + n) → m2.1 b i = m.1 b i
section Line2
variable {q : Tq} {a b c d e i j k n p s u x A X D v : Nat} {m m2 m3 : Mm} {lo hi y : Int32}
theorem frR_r : frR n m m := ⟨fun _ _ _ => rfl, fun _ _ _ _ _ => rfl⟩
theorem frR_m (h1 : frR n m m2) (h2 : mvR m2 m3) : frR n m m3 := ⟨fun b i k => (h2.1 b i k).trans (h1.1 b i k), fun b i k1 k2 k3 => (h2.2 b i (by omega)).trans (h1.2 b i k1 k2 k3)⟩
theorem frR_s (h1 : frR n m m2) (h : (b = 78 ∧ ((4 ≤ i ∧ i ≤ 9) ∨ i = 31)) ∨ (b = 110 ∧ i = 3) ∨ (111 ≤ b ∧ b ≤ 113 ∧ i = 120 + n)) : frR n m (sI m2 b i y) := ⟨h1.1, fun c j k1 k2 k3 => by
  simp only [sI]
  rw [if_neg (by omega)]
  exact h1.2 c j k1 k2 k3⟩
theorem r_228 (hn : n < 40) (h : RTk q a m) (hq : TW q) (ha : a ≤ q.1) (h3 : gI m 110 3 = nI n) : ∃ m2, f_X11_readsLine_J228 m = some (nI (if siP q a 59 then 1 else 0), m2) ∧ frR n m m2 ∧ gI m2 110 3 = nI (n + 1) ∧ (∀ b, 111 ≤ b → b ≤ 113 → gI m2 b (120 + n) = gI m b (120 + n)) ∧ (siP q a 59 → RTk q (nxT q a) m2) ∧ (¬ siP q a 59 → gI m2 78 9 = nI (1 + 16 * a)) := by
  have i3 : ix (3 : Int32) = 3 := rfl
  have h6 : RTk q a (sI m 110 3 (nI (n + 1))) := RTk_s h (by omega)
  unfold f_X11_readsLine_J228
  rw [i3, h3, q_l1, nI_add, q_stI]
  by_cases hp : siP q a 59
  · obtain ⟨m3, e1, e2, e3⟩ := r_closes h6 hq ha hp
    have g : ∀ b i, ¬ (b = 78 ∧ (i = 4 ∨ i = 5 ∨ i = 6 ∨ i = 8)) → gI m3 b i = gI (sI m 110 3 (nI (n + 1))) b i := fun b i hb => e3.2 b i hb
    rw [e1, q_bd2, q_gd2 (by omega), if_pos hp]
    refine ⟨m3, rfl, frR_m (frR_s frR_r (by omega)) e3, by rw [g _ _ (by omega), g_eq], fun b k1 k2 => by rw [g _ _ (by omega), g_ne (by omega)], fun _ => e2, fun hh => absurd hp hh⟩
  · rw [r_closesBad h6 hq ha hp, q_bd2, q_gd2 (by omega), if_neg hp]
    refine ⟨_, rfl, frR_s (frR_s frR_r (by omega)) (by omega), by rw [g_ne (by omega), g_eq], fun b k1 k2 => by rw [g_ne (by omega), g_ne (by omega)], fun hh => absurd hh hp, fun _ => g_eq⟩
/-- a line read by the reference -/
theorem r_line (h : RTk q a m) (hq : TW q) (ha : a ≤ q.1) (h3 : gI m 110 3 = nI n) (hX : gI m 108 0 = nI X) (hD : gI m 80 0 = nI D) (hn : n < 40) (hv : vbN q a < 6) : ∃ m2, f_X11_readsLine_J85 (nI (vbN q a)) m = some (nI (if lnG q X D a = 0 then 1 else 0), m2) ∧ frR n m m2 ∧ (lnG q X D a = 0 → RTk q (nxT q (lnA q a)) m2 ∧ gI m2 110 3 = nI (n + 1) ∧ gI m2 111 (120 + n) = nI (vbN q a) ∧ gI m2 112 (120 + n) = nI (tkV q (nxT q a)) ∧ (vbN q a = 1 → gI m2 113 (120 + n) = nI (tkV q (nxT q (nxT q a))))) ∧ (lnG q X D a ≠ 0 → gI m2 78 9 = nI (lnG q X D a)) := by
  have h1 := hq.1
  have a1 := nxT_le ha
  have a2 := nxT_le a1
  have a3 := nxT_le a2
  have i3 : ix (3 : Int32) = 3 := rfl
  have i0 : ix (0 : Int32) = 0 := rfl
  obtain ⟨m1, e1, e2, e3⟩ := r_next2 h hq ha
  have g : ∀ b i, ¬ (b = 78 ∧ (i = 4 ∨ i = 5 ∨ i = 6 ∨ i = 8)) → gI m1 b i = gI m b i := fun b i hb => e3.2 b i hb
  have c5 : RTk q (nxT q a) (sI m1 111 (120 + n) (nI (vbN q a))) := RTk_s e2 (by omega)
  have n5 : gI (sI m1 111 (120 + n) (nI (vbN q a))) 110 3 = nI n := by rw [g_ne (by omega), g _ _ (by omega)]; exact h3
  have x5 : gI (sI m1 111 (120 + n) (nI (vbN q a))) 108 0 = nI X := by rw [g_ne (by omega), g _ _ (by omega)]; exact hX
  have d5 : gI (sI m1 111 (120 + n) (nI (vbN q a))) 80 0 = nI D := by rw [g_ne (by omega), g _ _ (by omega)]; exact hD
  have v5 : gI (sI m1 111 (120 + n) (nI (vbN q a))) 111 (120 + n) = nI (vbN q a) := g_eq
  have f5 : frR n m (sI m1 111 (120 + n) (nI (vbN q a))) := frR_s (frR_m frR_r e3) (by omega)
  have n40 : ¬ nI n = 40 := fun e => by
    have := (q_eq (b := 40) (by omega) (by omega)).mp e
    omega
  have start : f_X11_readsLine_J85 (nI (vbN q a)) m = bd2 (f_X11_needsNumber (oLo (vbN q a)) (oHi X D (vbN q a)) (sI m1 111 (120 + n) (nI (vbN q a)))) (fun r27 m26 => f_X11_readsLine_J183 (nI (vbN q a)) (nI (120 + n)) r27 m26) := by
    unfold f_X11_readsLine_J85
    rw [if_neg (nI_pos (by show _ < 2147483648; omega)), i3, h3, if_neg n40, e1, q_bd1, g 110 3 (by omega), h3, q_l120, nI_add, q_gd (by omega) (by omega), q_ix (by omega), q_stI, i0, x5, d5]
    generalize sI m1 111 (120 + n) (nI (vbN q a)) = m5
    generalize vbN q a = v at hv
    have hs : v = 0 ∨ v = 1 ∨ v = 2 ∨ v = 3 ∨ v = 4 ∨ v = 5 := by omega
    rcases hs with rfl | rfl | rfl | rfl | rfl | rfl <;> rfl
  rw [start]
  generalize sI m1 111 (120 + n) (nI (vbN q a)) = m5 at c5 n5 v5 f5
  by_cases k1 : nuF q (nxT q a) (oLo (vbN q a)) (oHi X D (vbN q a)) = 0
  · obtain ⟨m6, d1, d2, d3, d4⟩ := r_needs c5 hq a1 k1
    have g6 : ∀ b i, ¬ (b = 78 ∧ (i = 4 ∨ i = 5 ∨ i = 6 ∨ i = 8 ∨ i = 31)) → gI m6 b i = gI m5 b i := fun b i hb => (show gI m6 b i = _ from d4.2 b i (by omega)).trans (g_ne (by omega))
    have c7 : RTk q (nxT q (nxT q a)) (sI m6 112 (120 + n) (nI (tkV q (nxT q a)))) := RTk_s d2 (by omega)
    have n7 : gI (sI m6 112 (120 + n) (nI (tkV q (nxT q a)))) 110 3 = nI n := by rw [g_ne (by omega), g6 _ _ (by omega)]; exact n5
    have v7 : gI (sI m6 112 (120 + n) (nI (tkV q (nxT q a)))) 111 (120 + n) = nI (vbN q a) := by rw [g_ne (by omega), g6 _ _ (by omega)]; exact v5
    have o7 : gI (sI m6 112 (120 + n) (nI (tkV q (nxT q a)))) 112 (120 + n) = nI (tkV q (nxT q a)) := g_eq
    have f7 : frR n m (sI m6 112 (120 + n) (nI (tkV q (nxT q a)))) := frR_s (frR_m (frR_s f5 (by omega)) d4) (by omega)
    rw [d1, q_bd2]
    unfold f_X11_readsLine_J183
    rw [if_neg (by decide), q_gd (by omega) (by omega), q_ix (by omega), d3, q_stI, q_l1]
    generalize sI m6 112 (120 + n) (nI (tkV q (nxT q a))) = m7 at c7 n7 v7 o7 f7
    by_cases kv : vbN q a = 1
    · rw [if_pos (by rw [kv]), q_l0, q_l255]
      by_cases k2 : nuF q (nxT q (nxT q a)) (nI 0) (nI 255) = 0
      · obtain ⟨m8, b1, b2, b3, b4⟩ := r_needs c7 hq a2 k2
        have g8 : ∀ b i, ¬ (b = 78 ∧ (i = 4 ∨ i = 5 ∨ i = 6 ∨ i = 8 ∨ i = 31)) → gI m8 b i = gI m7 b i := fun b i hb => (show gI m8 b i = _ from b4.2 b i (by omega)).trans (g_ne (by omega))
        obtain ⟨m9, j1, j2, j3, j4, j5, j6⟩ := r_228 (m := sI m8 113 (120 + n) (nI (tkV q (nxT q (nxT q a))))) hn (RTk_s b2 (by omega)) hq a3 (by rw [g_ne (by omega), g8 _ _ (by omega)]; exact n7)
        have f9 : frR n m (sI m8 113 (120 + n) (nI (tkV q (nxT q (nxT q a))))) := frR_s (frR_m (frR_s f7 (by omega)) b4) (by omega)
        have eA : lnA q a = nxT q (nxT q (nxT q a)) := if_pos kv
        have eG : lnG q X D a = if siP q (lnA q a) 59 then 0 else 1 + 16 * lnA q a := by
          unfold lnG
          rw [if_neg (fun hh => hh k1), if_neg (fun hh => hh.2 k2)]
        rw [eA] at eG
        have eR : (if siP q (nxT q (nxT q (nxT q a))) 59 then 1 else 0) = (if lnG q X D a = 0 then 1 else 0) := by
          rw [eG]
          by_cases hp : siP q (nxT q (nxT q (nxT q a))) 59
          · rw [if_pos hp, if_pos hp, if_pos rfl]
          · rw [if_neg hp, if_neg hp, if_neg (by omega)]
        rw [b1, q_bd2, if_neg (by decide), q_gd (by omega) (by omega), b3, q_stI, j1, eR]
        refine ⟨m9, rfl, ⟨fun b i hb => (j2.1 b i hb).trans (f9.1 b i hb), fun b i q1 q2 q3 => (j2.2 b i q1 q2 q3).trans (f9.2 b i q1 q2 q3)⟩, fun hz => ?_, fun hz => ?_⟩
        · have hp : siP q (nxT q (nxT q (nxT q a))) 59 := by
            by_cases hp : siP q (nxT q (nxT q (nxT q a))) 59
            · exact hp
            · rw [eG, if_neg hp] at hz; omega
          rw [eA]
          exact ⟨j5 hp, j3, by rw [j4 _ (by omega) (by omega), g_ne (by omega), g8 _ _ (by omega)]; exact v7, by rw [j4 _ (by omega) (by omega), g_ne (by omega), g8 _ _ (by omega)]; exact o7, fun _ => by rw [j4 _ (by omega) (by omega), g_eq]⟩
        · have hp : ¬ siP q (nxT q (nxT q (nxT q a))) 59 := fun hp => hz (by rw [eG, if_pos hp])
          rw [eG, if_neg hp]
          exact j6 hp
      · have eG : lnG q X D a = nuF q (nxT q (nxT q a)) (nI 0) (nI 255) + 16 * nxT q (nxT q a) := by
          unfold lnG
          rw [if_neg (fun hh => hh k1), if_pos ⟨kv, k2⟩]
        rw [r_needsBad c7 k2, q_bd2, if_pos (by rfl), ← eG, if_neg (by omega)]
        exact ⟨_, rfl, frR_s f7 (by omega), fun hz => by omega, fun _ => g_eq⟩
    · rw [if_neg (fun e => kv ((q_eq (by omega) (by omega)).mp e))]
      obtain ⟨m9, j1, j2, j3, j4, j5, j6⟩ := r_228 hn c7 hq a2 n7
      have eA : lnA q a = nxT q (nxT q a) := if_neg kv
      have eG : lnG q X D a = if siP q (lnA q a) 59 then 0 else 1 + 16 * lnA q a := by
        unfold lnG
        rw [if_neg (fun hh => hh k1), if_neg (fun hh => kv hh.1)]
      rw [eA] at eG
      have eR : (if siP q (nxT q (nxT q a)) 59 then 1 else 0) = (if lnG q X D a = 0 then 1 else 0) := by
        rw [eG]
        by_cases hp : siP q (nxT q (nxT q a)) 59
        · rw [if_pos hp, if_pos hp, if_pos rfl]
        · rw [if_neg hp, if_neg hp, if_neg (by omega)]
      rw [j1, eR]
      refine ⟨m9, rfl, ⟨fun b i hb => (j2.1 b i hb).trans (f7.1 b i hb), fun b i q1 q2 q3 => (j2.2 b i q1 q2 q3).trans (f7.2 b i q1 q2 q3)⟩, fun hz => ?_, fun hz => ?_⟩
      · have hp : siP q (nxT q (nxT q a)) 59 := by
          by_cases hp : siP q (nxT q (nxT q a)) 59
          · exact hp
          · rw [eG, if_neg hp] at hz; omega
        rw [eA]
        exact ⟨j5 hp, j3, (j4 _ (by omega) (by omega)).trans v7, (j4 _ (by omega) (by omega)).trans o7, fun hh => absurd hh kv⟩
      · have hp : ¬ siP q (nxT q (nxT q a)) 59 := fun hp => hz (by rw [eG, if_pos hp])
        rw [eG, if_neg hp]
        exact j6 hp
  · have eG : lnG q X D a = nuF q (nxT q a) (oLo (vbN q a)) (oHi X D (vbN q a)) + 16 * nxT q a := by
      unfold lnG
      rw [if_pos k1]
    rw [r_needsBad c5 k1, q_bd2, ← eG]
    unfold f_X11_readsLine_J183
    rw [if_pos (by rfl), if_neg (by omega)]
    exact ⟨_, rfl, frR_s f5 (by omega), fun hz => by omega, fun _ => g_eq⟩
end Line2
