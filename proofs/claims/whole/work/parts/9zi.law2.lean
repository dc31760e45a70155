/-! MATH HALF: where the parity is, by both -/
section Law2
variable {n r d c u N : Nat} {m m2 m3 : Mm} {v w : Int32} {f p : List Int32}
theorem FU_n (h : n < 4096) : ∃ j, FU = j + 1 + n := ⟨4095 - n, by show 4096 = _; omega⟩
theorem law_C {P : Pv} {V : Int32 → Int32 → Int32 → Int32 → Int32} (h : ∀ x1 x2 x3 x4, EvC x1 x2 x3 x4 21 p (V x1 x2 x3 x4)) (hP : ∀ k z d b, P k z d b = fmP (V (nI k) (nI z) (nI d) (nI b)) z) (h1 : gI m (u + 4) 1 = nI p.length) (hp : p.length ≤ 1000) (h0 : 0 < p.length) (hs : Seg (u + 5) 0 p m) : LawC u P m := by
  intro m' e1 e2 k z d b hk hz1 hz2 hd hb
  obtain ⟨jf, hj⟩ := FU_n (n := p.length) (by omega)
  have g1 : gI (sI m' (u + 4) 3 (nI 0)) (u + 4) 1 = nI p.length := by
    rw [g_ne (by omega)]
    exact (show gI m' (u + 4) 1 = _ from e1).trans h1
  have gs : Seg (u + 5) 0 p (sI m' (u + 4) 3 (nI 0)) := Seg_fr hs (fun i _ _ => by
    rw [g_ne (by omega)]
    exact e2 i)
  obtain ⟨m2, a1, a2, a3, a4, a5⟩ := h (nI k) (nI z) (nI d) (nI b) u (sI m' (u + 4) 3 (nI 0)) p.length 0 (jf + 1) 0 g1 hp (by omega) gs g_eq (by omega)
  have l1 : gI m2 (u + 4) 1 = nI p.length := (lw_1 a5).trans g1
  refine ⟨sI m2 (u + 4) 3 (nI 0), ?_, lwS_s (lwS_t (lwS_s lwS_r (by omega)) a5) (by omega)⟩
  unfold f_X3_parityOf
  rw [q_l1, if_neg (fun e => absurd ((q_ltp (by omega) (by omega)).mp e) (by omega)), q_l0, q_stI, hj, a1, f_X3_parityOf_L15, l1, Nat.zero_add, if_neg (fun e => absurd ((q_ltp (by omega) (by omega)).mp e) (by omega)), if_neg (show ¬ nI p.length = (0 : Int32) from fun e => absurd ((q_eq (b := 0) (by omega) (by omega)).mp e) (by omega)), x_pop a2 (by omega), q_bd2, a3, fm_C hz1 hz2, q_bd2, hP]
theorem law_R {P : Pv} {V : Int32 → Int32 → Int32 → Int32 → Int32} (h : ∀ x1 x2 x3 x4, ∀ m, EnvR x1 x2 x3 x4 m → UwN 97 m 0 0 → gI m 96 0 = 0 → gI m 93 0 = 0 → gI m 94 0 = 20 → gI m 92 0 = 0 → gI m 90 0 = 0 → RnR f 0 0 m (fun m2 => kvI m2 0 = V x1 x2 x3 x4 ∧ gI m2 97 0 = gI m 97 0)) (hP : ∀ k z d b, P k z d b = fmP (V (nI k) (nI z) (nI d) (nI b)) z) (h4 : gI m 84 0 = nI c) (h5 : gI m 85 0 = nI (c + f.length)) (hp : c + f.length ≤ 1000) (h0 : 0 < f.length) (hs : Seg 86 c f m) : LawR P m := by
  intro m' e k z d b hk hz1 hz2 hd hb x1 x2 x3 x4
  obtain ⟨jf, hj⟩ := FU_n (n := f.length) (by omega)
  have g4 : gI m' 84 0 = nI c := (show gI m' 84 0 = _ from e 84 0 (by omega)).trans h4
  have g5 : gI m' 85 0 = nI (c + f.length) := (show gI m' 85 0 = _ from e 85 0 (by omega)).trans h5
  have gs : Seg 86 c f m' := Seg_fr hs (fun i k1 k2 => e 86 i (by omega))
  obtain ⟨m1, o1, o2, o3, o4, o5, o6, o7, o8⟩ := op_is (m := m') (d := 0) (by omega)
  obtain ⟨m2, a1, a2, a3⟩ := h (nI k) (nI z) (nI d) (nI b) m1 (env_w ⟨x1, x2, x3, x4⟩ o8) ⟨Nat.le_refl _, fun i k1 k2 => absurd k1 (by omega), Or.inl rfl⟩ o6 o4 o5 o3 o2 (c + f.length) c (jf + 1) ((frW_g o8 (by omega)).trans g5) hp (by omega) (Seg_fr gs (fun i _ _ => frW_g o8 (by omega)))
  obtain ⟨m3, t1, t2, t3, t4, t5, t6, t7, t8, t9⟩ := ts_is (m := m2) (d := 0) (by omega)
  have fr : frW 0 m' m3 := frW_t (frW_t o8 a3) t9
  refine ⟨V (nI k) (nI z) (nI d) (nI b), m3, fun _ => ?_, fun hn => absurd (by rw [g4, g5]; exact (q_ltp (by omega) (by omega)).mpr (by omega)) hn, ⟨fr.1, fun b i hb => fr.2 b i (by omega)⟩, by rw [fm_R hz1 hz2, hP]⟩
  have i0 : ix (nI 0) = 0 := rfl
  have g51 : gI m2 85 0 = nI (c + f.length) := (frW_g (frW_t o8 a3) (by omega)).trans g5
  have g41 : gI m1 84 0 = nI c := (frW_g o8 (by omega)).trans g4
  unfold f_X11_worked
  rw [q_l0, o1, q_bd1, q_gd (by omega) (by omega), i0, g41, hj, a1, f_X11_worked_L14, q_gd (i := 0) (by omega) (by omega), i0, g51, if_neg (fun e => absurd ((q_ltp (by omega) (by omega)).mp e) (by omega))]
  rw [q_l0, t1, q_bd1, i0, t2, a2.1]
/-- the two laws of an expression -/
theorem law_of (h : G0 0 p f) : ∃ P : Pv, (∀ k z d b, 2 ≤ z → P k z d b < z) ∧ (∀ u m, gI m (u + 4) 1 = nI p.length → p.length ≤ 1000 → 0 < p.length → Seg (u + 5) 0 p m → LawC u P m) ∧ ∀ m c, gI m 84 0 = nI c → gI m 85 0 = nI (c + f.length) → c + f.length ≤ 1000 → 0 < f.length → Seg 86 c f m → LawR P m := by
  have hV : ∃ V : Int32 → Int32 → Int32 → Int32 → Int32, ∀ x1 x2 x3 x4, EvC x1 x2 x3 x4 21 p (V x1 x2 x3 x4) ∧ ∀ m, EnvR x1 x2 x3 x4 m → UwN 97 m 0 0 → gI m 96 0 = 0 → gI m 93 0 = 0 → gI m 94 0 = 20 → gI m 92 0 = 0 → gI m 90 0 = 0 → RnR f 0 0 m (fun m2 => kvI m2 0 = V x1 x2 x3 x4 ∧ gI m2 97 0 = gI m 97 0) := ⟨fun x1 x2 x3 x4 => Classical.choose (h x1 x2 x3 x4), fun x1 x2 x3 x4 => Classical.choose_spec (h x1 x2 x3 x4)⟩
  obtain ⟨V, hV⟩ := hV
  exact ⟨fun k z d b => fmP (V (nI k) (nI z) (nI d) (nI b)) z, fun k z d b hz => fm_lt hz, fun u m h1 h2 h3 h4 => law_C (fun x1 x2 x3 x4 => (hV x1 x2 x3 x4).1) (fun _ _ _ _ => rfl) h1 h2 h3 h4, fun m c h1 h2 h3 h4 h5 => law_R (fun x1 x2 x3 x4 => (hV x1 x2 x3 x4).2) (fun _ _ _ _ => rfl) h1 h2 h3 h4 h5⟩
/-- where no parity was told -/
theorem law_no : ∃ P : Pv, (∀ k z d b, 2 ≤ z → P k z d b < z) ∧ (∀ u m, gI m (u + 4) 1 = nI 0 → LawC u P m) ∧ ∀ m, ¬ gI m 84 0 < gI m 85 0 → LawR P m := by
  refine ⟨fun k z _ _ => fmP (nI k) z, fun k z d b hz => fm_lt hz, fun u m h1 => ?_, fun m hn => ?_⟩
  · intro m' e1 e2 k z d b hk hz1 hz2 hd hb
    obtain ⟨jf, hj⟩ := FU_n (n := 0) (by omega)
    have g1 : gI (sI m' (u + 4) 3 (nI 0)) (u + 4) 1 = nI 0 := by
      rw [g_ne (by omega)]
      exact (show gI m' (u + 4) 1 = _ from e1).trans h1
    refine ⟨sI m' (u + 4) 3 (nI 0), ?_, lwS_s lwS_r (by omega)⟩
    unfold f_X3_parityOf
    rw [q_l1, if_neg (fun e => absurd ((q_ltp (by omega) (by omega)).mp e) (by omega)), q_l0, q_stI, hj, f_X3_parityOf_L15, g1, if_neg (by decide), if_pos (by rfl), fm_C hz1 hz2, q_bd2]
  · intro m' e k z d b hk hz1 hz2 hd hb x1 x2 x3 x4
    have e4 : gI m' 84 0 = gI m 84 0 := e 84 0 (by omega)
    have e5 : gI m' 85 0 = gI m 85 0 := e 85 0 (by omega)
    refine ⟨nI k, m', fun hl => absurd (by rw [← e4, ← e5]; exact hl) hn, fun _ => ⟨x1.symm, rfl⟩, ⟨rfl, fun _ _ _ => rfl⟩, by rw [fm_R hz1 hz2]⟩
end Law2
