/-! MATH HALF: a line of work, the class -/
def oLo (v : Nat) : Int32 := if v < 4 then nI 0 else nI 1
def oHi (X D v : Nat) : Int32 := if v < 2 then nI X - nI 1 else if v < 4 then nI D - nI 1 else nI 40
/-- where the line's end must stand -/
def lnA (q : Tq) (a : Nat) : Nat := if vbN q a = 1 then nxT q (nxT q (nxT q a)) else nxT q (nxT q a)
/-- the fault of the line that begins at a, or none; with the verb known and room -/
def lnG (q : Tq) (X D a : Nat) : Nat := if nuF q (nxT q a) (oLo (vbN q a)) (oHi X D (vbN q a)) ≠ 0 then nuF q (nxT q a) (oLo (vbN q a)) (oHi X D (vbN q a)) + 16 * nxT q a else if vbN q a = 1 ∧ nuF q (nxT q (nxT q a)) (nI 0) (nI 255) ≠ 0 then nuF q (nxT q (nxT q a)) (nI 0) (nI 255) + 16 * nxT q (nxT q a) else if siP q (lnA q a) 59 then 0 else 1 + 16 * lnA q a
def frL (A n : Nat) (m m2 : Mm) : Prop := m2.2 = m.2 ∧ ∀ b i, ¬ (b = 1 ∧ 2 ≤ i ∧ i ≤ 6) → ¬ (b = A ∧ i = 4) → ¬ (A + 1 ≤ b ∧ b ≤ A + 3 ∧ i = n) → m2.1 b i = m.1 b i
section Line
variable {q : Tq} {a b c d e i j k n p s u x A X D v : Nat} {m m2 m3 : Mm} {lo hi y : Int32}
theorem frL_r : frL A n m m := ⟨rfl, fun _ _ _ _ _ => rfl⟩
theorem frL_m (h1 : frL A n m m2) (h2 : mvC m2 m3) : frL A n m m3 := ⟨h2.1.trans h1.1, fun b i k1 k2 k3 => (h2.2 b i (by omega)).trans (h1.2 b i k1 k2 k3)⟩
theorem frL_s (h1 : frL A n m m2) (h : (b = 1 ∧ i = 6) ∨ (b = A ∧ i = 4) ∨ (A + 1 ≤ b ∧ b ≤ A + 3 ∧ i = n)) : frL A n m (sI m2 b i y) := ⟨h1.1, fun c j k1 k2 k3 => by
  simp only [sI]
  rw [if_neg (by omega)]
  exact h1.2 c j k1 k2 k3⟩
theorem g_ne (h : ¬ (c = b ∧ j = i)) : gI (sI m b i y) c j = gI m c j := by
  simp only [gI, sI]
  rw [if_neg h]
theorem g_eq : gI (sI m b i y) b i = y := by simp [gI, sI]
theorem bd2_id {o : Option (Int32 × Mm)} : bd2 o (fun r m => some (r, m)) = o := by
  cases o <;> rfl
theorem c_obj (hv : v < 6) : f_X9_objectOf A (nI v) (nI X) (nI D) m = f_X7_numberWithin (oLo v) (oHi X D v) m := by
  unfold f_X9_objectOf oLo oHi
  rw [bd2_id, bd2_id, bd2_id]
  have hs : v = 0 ∨ v = 1 ∨ v = 2 ∨ v = 3 ∨ v = 4 ∨ v = 5 := by omega
  rcases hs with rfl | rfl | rfl | rfl | rfl | rfl <;> rfl
theorem c_61 {y0 : Int32} (hA : A = 18 ∨ A = 22) (hn : n < 40) (h : CTk q a m) (hq : TW q) (ha : a ≤ q.1) (h0 : gI m 1 6 = 0) (h4 : gI m A 4 = nI n) : ∃ m2, f_X9_addLine_J61 A y0 (nI n) m = some m2 ∧ frL A n m m2 ∧ gI m2 A 4 = nI (n + 1) ∧ gI m2 (A + 1) n = gI m (A + 1) n ∧ gI m2 (A + 2) n = gI m (A + 2) n ∧ gI m2 (A + 3) n = y0 ∧ (siP q a 59 → CTk q (nxT q a) m2 ∧ gI m2 1 6 = 0) ∧ (¬ siP q a 59 → gI m2 1 6 = nI (1 + 16 * a)) := by
  have h6 : CTk q a (sI m (A + 3) n y0) := CTk_s h (by omega)
  have h06 : gI (sI m (A + 3) n y0) 1 6 = 0 := by rw [g_ne (by omega)]; exact h0
  unfold f_X9_addLine_J61
  rw [q_gd (by omega) (by omega), q_ix (by omega), q_stI, q_l59]
  by_cases hp : siP q a 59
  · obtain ⟨m3, e1, e2, e3⟩ := c_pass h6 hq ha h06 (by omega) hp
    have g : ∀ b i, ¬ (b = 1 ∧ 2 ≤ i ∧ i ≤ 5) → gI m3 b i = gI (sI m (A + 3) n y0) b i := fun b i hb => e3.2 b i hb
    rw [e1, q_bd1, q_stI, g A 4 (by omega), g_ne (by omega), h4, q_l1, nI_add]
    refine ⟨_, rfl, frL_s (frL_m (frL_s frL_r (by omega)) e3) (by omega), g_eq, ?_, ?_, ?_, fun _ => ⟨CTk_s e2 (by omega), ?_⟩, fun hh => absurd hp hh⟩
    · rw [g_ne (by omega), g _ _ (by omega), g_ne (by omega)]
    · rw [g_ne (by omega), g _ _ (by omega), g_ne (by omega)]
    · rw [g_ne (by omega), g _ _ (by omega), g_eq]
    · rw [g_ne (by omega), g _ _ (by omega)]; exact h06
  · rw [c_passBad h6 hq ha h06 (by omega) hp, q_bd1, q_stI, g_ne (b := 1) (by omega), g_ne (by omega), h4, q_l1, nI_add]
    refine ⟨_, rfl, frL_s (frL_s (frL_s frL_r (by omega)) (by omega)) (by omega), g_eq, ?_, ?_, ?_, fun hh => absurd hh hp, fun _ => ?_⟩
    · rw [g_ne (by omega), g_ne (by omega), g_ne (by omega)]
    · rw [g_ne (by omega), g_ne (by omega), g_ne (by omega)]
    · rw [g_ne (by omega), g_ne (by omega), g_eq]
    · rw [g_ne (by omega), g_eq]
theorem c_61no {y0 : Int32} (hA : A = 18 ∨ A = 22) (hn : n < 40) (h0 : ¬ gI m 1 6 = 0) (h4 : gI m A 4 = nI n) : ∃ m2, f_X9_addLine_J61 A y0 (nI n) m = some m2 ∧ frL A n m m2 ∧ gI m2 1 6 = gI m 1 6 := by
  have h06 : ¬ gI (sI m (A + 3) n y0) 1 6 = 0 := by rw [g_ne (by omega)]; exact h0
  unfold f_X9_addLine_J61
  rw [q_gd (by omega) (by omega), q_ix (by omega), q_stI, q_l59, c_passNo h06, q_bd1, q_stI]
  refine ⟨_, rfl, frL_s (frL_s frL_r (by omega)) (by omega), ?_⟩
  rw [g_ne (by omega), g_ne (by omega)]
theorem nu_le {lo hi : Int32} : nuF q a lo hi ≤ 4 := by
  unfold nuF
  split
  · split <;> omega
  · omega
theorem f16 (ha : a ≤ 1000) (h1 : 1 ≤ c) (hc : c ≤ 5) : ¬ nI (c + 16 * a) = 0 := fun e => by
  have := (q_eq (b := 0) (by omega) (by omega)).mp e
  omega
/-- a line read by the class -/
theorem c_line (hA : A = 18 ∨ A = 22) (h : CTk q a m) (hq : TW q) (ha : a ≤ q.1) (h0 : gI m 1 6 = 0) (h4 : gI m A 4 = nI n) (hn : n < 40) (hv : vbN q a < 6) : ∃ m2, f_X9_addLine A (nI (vbN q a)) (nI X) (nI D) m = some m2 ∧ frL A n m m2 ∧ (lnG q X D a = 0 → CTk q (nxT q (lnA q a)) m2 ∧ gI m2 1 6 = 0 ∧ gI m2 A 4 = nI (n + 1) ∧ gI m2 (A + 1) n = nI (vbN q a) ∧ gI m2 (A + 2) n = nI (tkV q (nxT q a)) ∧ (vbN q a = 1 → gI m2 (A + 3) n = nI (tkV q (nxT q (nxT q a))))) ∧ (lnG q X D a ≠ 0 → gI m2 1 6 = nI (lnG q X D a)) := by
  have h1 := hq.1
  have a1 := nxT_le ha
  have a2 := nxT_le a1
  have a3 := nxT_le a2
  obtain ⟨m1, e1, e2, e3⟩ := c_adv2 h hq ha
  have g : ∀ b i, ¬ (b = 1 ∧ 2 ≤ i ∧ i ≤ 5) → gI m1 b i = gI m b i := fun b i hb => e3.2 b i hb
  have c2 : CTk q (nxT q a) (sI m1 (A + 1) n (nI (vbN q a))) := CTk_s e2 (by omega)
  have z2 : gI (sI m1 (A + 1) n (nI (vbN q a))) 1 6 = 0 := by rw [g_ne (by omega), g _ _ (by omega)]; exact h0
  have n2 : gI (sI m1 (A + 1) n (nI (vbN q a))) A 4 = nI n := by rw [g_ne (by omega), g _ _ (by omega)]; exact h4
  have f2 : frL A n m (sI m1 (A + 1) n (nI (vbN q a))) := frL_s (frL_m frL_r e3) (by omega)
  have v2 : gI (sI m1 (A + 1) n (nI (vbN q a))) (A + 1) n = nI (vbN q a) := g_eq
  unfold f_X9_addLine
  rw [e1, q_bd1, g A 4 (by omega), h4, q_gd (by omega) (by omega), q_ix (by omega), q_stI, c_obj hv, n2, q_l0, q_l255]
  generalize sI m1 (A + 1) n (nI (vbN q a)) = m5 at c2 z2 n2 f2 v2
  by_cases k1 : nuF q (nxT q a) (oLo (vbN q a)) (oHi X D (vbN q a)) = 0
  · obtain ⟨m6, d1, d2, d3⟩ := c_nwOk c2 hq a1 z2 k1
    have g6 : ∀ b i, ¬ (b = 1 ∧ 2 ≤ i ∧ i ≤ 5) → gI m6 b i = gI m5 b i := fun b i hb => d3.2 b i hb
    have c7 : CTk q (nxT q (nxT q a)) (sI m6 (A + 2) n (nI (tkV q (nxT q a)))) := CTk_s d2 (by omega)
    have z7 : gI (sI m6 (A + 2) n (nI (tkV q (nxT q a)))) 1 6 = 0 := by rw [g_ne (by omega), g6 _ _ (by omega)]; exact z2
    have n7 : gI (sI m6 (A + 2) n (nI (tkV q (nxT q a)))) A 4 = nI n := by rw [g_ne (by omega), g6 _ _ (by omega)]; exact n2
    have v7 : gI (sI m6 (A + 2) n (nI (tkV q (nxT q a)))) (A + 1) n = nI (vbN q a) := by rw [g_ne (by omega), g6 _ _ (by omega)]; exact v2
    have o7 : gI (sI m6 (A + 2) n (nI (tkV q (nxT q a)))) (A + 2) n = nI (tkV q (nxT q a)) := g_eq
    have f7 : frL A n m (sI m6 (A + 2) n (nI (tkV q (nxT q a)))) := frL_s (frL_m f2 d3) (by omega)
    rw [d1, q_bd2, q_gd (by omega) (by omega), q_ix (by omega), q_stI, n7, q_l1]
    generalize sI m6 (A + 2) n (nI (tkV q (nxT q a))) = m7 at c7 z7 n7 v7 o7 f7
    by_cases kv : vbN q a = 1
    · rw [if_pos (by rw [kv])]
      by_cases k2 : nuF q (nxT q (nxT q a)) (nI 0) (nI 255) = 0
      · obtain ⟨m8, b1, b2, b3⟩ := c_nwOk c7 hq a2 z7 k2
        have g8 : ∀ b i, ¬ (b = 1 ∧ 2 ≤ i ∧ i ≤ 5) → gI m8 b i = gI m7 b i := fun b i hb => b3.2 b i hb
        obtain ⟨m9, j1, j2, j3, j4, j5, j6, j7, j8⟩ := c_61 (y0 := nI (tkV q (nxT q (nxT q a)))) hA hn b2 hq a3 (by rw [g8 _ _ (by omega)]; exact z7) (by rw [g8 _ _ (by omega)]; exact n7)
        have eA : lnA q a = nxT q (nxT q (nxT q a)) := if_pos kv
        have eG : lnG q X D a = if siP q (lnA q a) 59 then 0 else 1 + 16 * lnA q a := by
          unfold lnG
          rw [if_neg (fun hh => hh k1), if_neg (fun hh => hh.2 k2)]
        rw [b1, q_bd2, j1]
        refine ⟨m9, rfl, ⟨j2.1.trans (b3.1.trans f7.1), fun b i q1 q2 q3 => (j2.2 b i q1 q2 q3).trans ((b3.2 b i (by omega)).trans (f7.2 b i q1 q2 q3))⟩, fun hz => ?_, fun hz => ?_⟩
        · rw [eG] at hz
          have hp : siP q (nxT q (nxT q (nxT q a))) 59 := by
            by_cases hp : siP q (lnA q a) 59
            · rw [eA] at hp; exact hp
            · rw [if_neg hp] at hz; omega
          rw [eA]
          exact ⟨(j7 hp).1, (j7 hp).2, j3, by rw [j4, g8 _ _ (by omega)]; exact v7, by rw [j5, g8 _ _ (by omega)]; exact o7, fun _ => j6⟩
        · have hp : ¬ siP q (lnA q a) 59 := fun hp => hz (by rw [eG, if_pos hp])
          rw [eG, if_neg hp, eA]
          rw [eA] at hp
          exact j8 hp
      · have eG : lnG q X D a = nuF q (nxT q (nxT q a)) (nI 0) (nI 255) + 16 * nxT q (nxT q a) := by
          unfold lnG
          rw [if_neg (fun hh => hh k1), if_pos ⟨kv, k2⟩]
        have hnu := nu_le (q := q) (a := nxT q (nxT q a)) (lo := nI 0) (hi := nI 255)
        obtain ⟨m9, j1, j2, j3⟩ := c_61no (y0 := nI 0) (m := sI m7 1 6 (nI (nuF q (nxT q (nxT q a)) (nI 0) (nI 255) + 16 * nxT q (nxT q a)))) hA hn (by rw [g_eq]; exact f16 (by omega) (by omega) (by omega)) (by rw [g_ne (by omega)]; exact n7)
        rw [c_nwBad c7 z7 k2, q_bd2, j1]
        have f8 := frL_s (y := nI (nuF q (nxT q (nxT q a)) (nI 0) (nI 255) + 16 * nxT q (nxT q a))) (b := 1) (i := 6) f7 (by omega)
        refine ⟨m9, rfl, ⟨j2.1.trans f8.1, fun b i q1 q2 q3 => (j2.2 b i q1 q2 q3).trans (f8.2 b i q1 q2 q3)⟩, fun hz => by rw [eG] at hz; omega, fun _ => by rw [j3, g_eq, eG]⟩
    · rw [if_neg (fun e => kv ((q_eq (by omega) (by omega)).mp e))]
      obtain ⟨m9, j1, j2, j3, j4, j5, j6, j7, j8⟩ := c_61 (y0 := nI 0) hA hn c7 hq a2 z7 n7
      have eA : lnA q a = nxT q (nxT q a) := if_neg kv
      have eG : lnG q X D a = if siP q (lnA q a) 59 then 0 else 1 + 16 * lnA q a := by
        unfold lnG
        rw [if_neg (fun hh => hh k1), if_neg (fun hh => kv hh.1)]
      rw [j1]
      refine ⟨m9, rfl, ⟨j2.1.trans f7.1, fun b i q1 q2 q3 => (j2.2 b i q1 q2 q3).trans (f7.2 b i q1 q2 q3)⟩, fun hz => ?_, fun hz => ?_⟩
      · rw [eG] at hz
        have hp : siP q (nxT q (nxT q a)) 59 := by
          by_cases hp : siP q (lnA q a) 59
          · rw [eA] at hp; exact hp
          · rw [if_neg hp] at hz; omega
        rw [eA]
        exact ⟨(j7 hp).1, (j7 hp).2, j3, j4.trans v7, j5.trans o7, fun hh => absurd hh kv⟩
      · have hp : ¬ siP q (lnA q a) 59 := fun hp => hz (by rw [eG, if_pos hp])
        rw [eG, if_neg hp, eA]
        rw [eA] at hp
        exact j8 hp
  · have eG : lnG q X D a = nuF q (nxT q a) (oLo (vbN q a)) (oHi X D (vbN q a)) + 16 * nxT q a := by
      unfold lnG
      rw [if_pos k1]
    have hnu := nu_le (q := q) (a := nxT q a) (lo := oLo (vbN q a)) (hi := oHi X D (vbN q a))
    rw [c_nwBad c2 z2 k1, q_bd2, q_gd (by omega) (by omega), q_ix (by omega), q_stI]
    generalize eF : nuF q (nxT q a) (oLo (vbN q a)) (oHi X D (vbN q a)) + 16 * nxT q a = F at eG
    have hF : ¬ nI F = 0 := by rw [← eF]; exact f16 (by omega) (by omega) (by omega)
    have hF0 : F ≠ 0 := fun e => hF (by rw [e]; rfl)
    have z7 : gI (sI (sI m5 1 6 (nI F)) (A + 2) n (nI 0)) 1 6 = nI F := by rw [g_ne (by omega), g_eq]
    have n7 : gI (sI (sI m5 1 6 (nI F)) (A + 2) n (nI 0)) A 4 = nI n := by rw [g_ne (by omega), g_ne (by omega)]; exact n2
    have f7 : frL A n m (sI (sI m5 1 6 (nI F)) (A + 2) n (nI 0)) := frL_s (frL_s f2 (by omega)) (by omega)
    rw [n7, c_nwNo (by rw [z7]; exact hF), q_bd2]
    generalize sI (sI m5 1 6 (nI F)) (A + 2) n (nI 0) = m7 at z7 n7 f7
    obtain ⟨m9, j1, j2, j3⟩ := c_61no (y0 := nI 0) hA hn (by rw [z7]; exact hF) n7
    rw [j1, ite_self]
    exact ⟨m9, rfl, ⟨j2.1.trans f7.1, fun b i q1 q2 q3 => (j2.2 b i q1 q2 q3).trans (f7.2 b i q1 q2 q3)⟩, fun hz => absurd (eG.symm.trans hz) hF0, fun _ => by rw [j3, z7, eG]⟩
end Line
