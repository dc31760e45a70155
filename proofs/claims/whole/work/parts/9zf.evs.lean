/-! MATH HALF: the reference's codes one by one -/
abbrev EnvR (x1 x2 x3 x4 : Int32) (m : Mm) : Prop := gI m 98 1 = x1 ∧ gI m 98 2 = x2 ∧ gI m 98 3 = x3 ∧ gI m 98 4 = x4
/-- the value v put to the term at d0, from d on -/
def TmQ (m : Mm) (d d0 : Nat) (v : Int32) (m2 : Mm) : Prop := gI m2 95 d0 = (if gI m 96 d0 = 0 then ngN (d - d0) v else gI m 95 d0 * ngN (d - d0) v) ∧ ∀ b, 89 ≤ b → b ≤ 97 → b ≠ 95 → gI m2 b d0 = gI m b d0
section EvS
variable {t b n j k s d d0 d1 N c : Nat} {m m2 m3 : Mm} {v w y x x1 x2 x3 x4 : Int32} {f f2 p p2 : List Int32} {Q Q2 : Mm → Prop}
theorem tm_s : TmQ m d d0 v (sI m 95 d0 (if gI m 96 d0 = 0 then ngN (d - d0) v else gI m 95 d0 * ngN (d - d0) v)) := ⟨g_eq, fun b _ _ h => g_ne (by omega)⟩
theorem rs_num (hn : n < 10000) (hd : d < 7) (hU : UwN 97 m d d0) : RnR [nI (100 + n)] d d0 m (TmQ m d d0 (nI n)) := by
  have hne : ∀ c, c < 100 → ¬ nI (100 + n) = nI c := fun c hc e => by
    have := (q_eq (by omega) (by omega)).mp e
    omega
  refine rn_one (m2 := sI m 95 d0 (if gI m 96 d0 = 0 then ngN (d - d0) (nI n) else gI m 95 d0 * ngN (d - d0) (nI n))) (fun N j k h1 h2 h3 h4 => ?_) tm_s (frW_s frW_r (by omega))
  rw [w14 h1 h2 h3 h4, if_neg (show ¬ nI (100 + n) = (28 : Int32) from hne 28 (by omega)), if_neg (show ¬ nI (100 + n) = (30 : Int32) from hne 30 (by omega)), if_neg (show ¬ nI (100 + n) = (20 : Int32) from hne 20 (by omega)), if_neg (show ¬ nI (100 + n) = (21 : Int32) from hne 21 (by omega)), if_neg (show ¬ nI (100 + n) = (22 : Int32) from hne 22 (by omega)), if_neg (show ¬ nI (100 + n) = (24 : Int32) from hne 24 (by omega)), if_neg (show ¬ nI (100 + n) = (25 : Int32) from hne 25 (by omega)), if_neg (show ¬ nI (100 + n) = (26 : Int32) from hne 26 (by omega)), if_neg (show ¬ nI (100 + n) = (27 : Int32) from hne 27 (by omega)), q_l100, if_neg (fun e => absurd ((q_ltp (by omega) (by omega)).mp e) (by omega)), pk_sub (by omega), Nat.add_sub_cancel_left, rv_243 hd (hne 29 (by omega)) hU]
theorem rs_var (hc : 1 ≤ c ∧ c ≤ 4) (hd : d < 7) (hU : UwN 97 m d d0) : RnR [nI c] d d0 m (TmQ m d d0 (gI m 98 c)) := by
  have hne : ∀ e, 5 ≤ e → e < 100 → ¬ nI c = nI e := fun e h1 h2 h => by
    have := (q_eq (by omega) (by omega)).mp h
    omega
  refine rn_one (m2 := sI m 95 d0 (if gI m 96 d0 = 0 then ngN (d - d0) (gI m 98 c) else gI m 95 d0 * ngN (d - d0) (gI m 98 c))) (fun N j k h1 h2 h3 h4 => ?_) tm_s (frW_s frW_r (by omega))
  rw [w14 h1 h2 h3 h4, if_neg (show ¬ nI c = (28 : Int32) from hne 28 (by omega) (by omega)), if_neg (show ¬ nI c = (30 : Int32) from hne 30 (by omega) (by omega)), if_neg (show ¬ nI c = (20 : Int32) from hne 20 (by omega) (by omega)), if_neg (show ¬ nI c = (21 : Int32) from hne 21 (by omega) (by omega)), if_neg (show ¬ nI c = (22 : Int32) from hne 22 (by omega) (by omega)), if_neg (show ¬ nI c = (24 : Int32) from hne 24 (by omega) (by omega)), if_neg (show ¬ nI c = (25 : Int32) from hne 25 (by omega) (by omega)), if_neg (show ¬ nI c = (26 : Int32) from hne 26 (by omega) (by omega)), if_neg (show ¬ nI c = (27 : Int32) from hne 27 (by omega) (by omega)), q_l100, if_pos ((q_ltp (by omega) (by omega)).mpr (by omega)), q_l20, if_pos ((q_ltp (by omega) (by omega)).mpr (by omega)), q_gd (by omega) (by omega), q_ix (by omega), rv_243 hd (hne 29 (by omega) (by omega)) hU]
theorem rs_22 (hd : d < 7) : RnR [22] d d m (fun m2 => m2 = sI m 96 d 22) := by
  refine rn_one (m2 := sI m 96 d 22) (fun N j k h1 h2 h3 h4 => ?_) rfl (frW_s frW_r (by omega))
  rw [w14 h1 h2 h3 h4, if_neg (by decide), if_neg (by decide), if_neg (by decide), if_neg (by decide), if_pos rfl, q_gd hd (by omega), q_ix (by omega), q_stI, q_l1, nI_add]
theorem rs_89 (hd : d < 7) {K : Int32 → Int32 → Int32 → Mm → Option (Int32 × Mm)} : f_X11_worked_J89 K (nI 0) (nI d) (nI j) x m = K (nI 0) (nI d) (nI (j + 1)) (sI (sI (sI m 93 d (ptI m d)) 96 d 0) 94 d x) := by
  unfold f_X11_worked_J89
  rw [sm_is hd, q_bd1, q_gd hd (by omega), q_ix (by omega), q_stI, q_l1, nI_add]
theorem rs_20 (hd : d < 7) (hx : x = 20 ∨ x = 21) : RnR [x] d d m (fun m2 => m2 = sI (sI (sI m 93 d (ptI m d)) 96 d 0) 94 d x) := by
  refine rn_one (m2 := sI (sI (sI m 93 d (ptI m d)) 96 d 0) 94 d x) (fun N j k h1 h2 h3 h4 => ?_) rfl (frW_s (frW_s (frW_s frW_r (by omega)) (by omega)) (by omega))
  rw [w14 h1 h2 h3 h4, rs_89 hd]
  rcases hx with rfl | rfl
  · rw [if_neg (by decide), if_neg (by decide), if_pos rfl]
  · rw [if_neg (by decide), if_neg (by decide), if_neg (by decide), if_pos rfl]
theorem rs_137 (hd : d < 7) {K : Int32 → Int32 → Int32 → Mm → Option (Int32 × Mm)} : f_X11_worked_J137 K (nI 0) (nI d) (nI j) x m = K (nI 0) (nI d) (nI (j + 1)) (sI (sI (sI (sI (sI (sI m 93 d (ptI m d)) 96 d 0) 91 d (ptI m d)) 92 d x) 93 d 0) 94 d 20) := by
  have g : gI (sI (sI m 93 d (ptI m d)) 96 d 0) 93 d = ptI m d := by rw [g_ne (by omega), g_eq]
  unfold f_X11_worked_J137
  rw [sm_is hd, q_bd1, q_gd hd (by omega), q_gd hd (by omega), q_ix (by omega), q_stI, q_gd hd (by omega), q_stI, q_gd hd (by omega), q_stI, q_gd hd (by omega), q_stI, q_l1, nI_add, g]
theorem rs_24 (hd : d < 7) (hx : x = 24 ∨ x = 25) : RnR [x] d d m (fun m2 => m2 = sI (sI (sI (sI (sI (sI m 93 d (ptI m d)) 96 d 0) 91 d (ptI m d)) 92 d x) 93 d 0) 94 d 20) := by
  refine rn_one (m2 := sI (sI (sI (sI (sI (sI m 93 d (ptI m d)) 96 d 0) 91 d (ptI m d)) 92 d x) 93 d 0) 94 d 20) (fun N j k h1 h2 h3 h4 => ?_) rfl (frW_s (frW_s (frW_s (frW_s (frW_s (frW_s frW_r (by omega)) (by omega)) (by omega)) (by omega)) (by omega)) (by omega))
  rw [w14 h1 h2 h3 h4, rs_137 hd]
  rcases hx with rfl | rfl
  · rw [if_neg (by decide), if_neg (by decide), if_neg (by decide), if_neg (by decide), if_neg (by decide), if_pos rfl]
  · rw [if_neg (by decide), if_neg (by decide), if_neg (by decide), if_neg (by decide), if_neg (by decide), if_neg (by decide), if_pos rfl]
theorem rs_26 (hd : d < 7) (hx : x = 26 ∨ x = 27) : RnR [x] d d m (fun m2 => gI m2 89 d = kvI m d ∧ gI m2 90 d = x ∧ gI m2 92 d = 0 ∧ gI m2 93 d = 0 ∧ gI m2 94 d = 20 ∧ gI m2 96 d = 0 ∧ gI m2 97 d = gI m 97 d) := by
  obtain ⟨m2, e1, e2, e3, e4, e5, e6, e7, e8, e9⟩ := ts_is (m := m) hd
  refine rn_one (m2 := sI m2 90 d x) (fun N j k h1 h2 h3 h4 => ?_) ⟨?_, g_eq, ?_, ?_, ?_, ?_, ?_⟩ (frW_s e9 (by omega))
  · have e : f_X11_worked_J194 (fun w1 w2 w3 m => f_X11_worked_L14 k w1 w2 w3 m) (nI 0) (nI d) (nI j) x m = f_X11_worked_L14 k (nI 0) (nI d) (nI (j + 1)) (sI m2 90 d x) := by
      unfold f_X11_worked_J194
      rw [e1, q_bd1, q_gd hd (by omega), q_ix (by omega), q_stI, q_l1, nI_add]
    rw [w14 h1 h2 h3 h4, e]
    rcases hx with rfl | rfl
    · rw [if_neg (by decide), if_neg (by decide), if_neg (by decide), if_neg (by decide), if_neg (by decide), if_neg (by decide), if_neg (by decide), if_pos rfl]
    · rw [if_neg (by decide), if_neg (by decide), if_neg (by decide), if_neg (by decide), if_neg (by decide), if_neg (by decide), if_neg (by decide), if_neg (by decide), if_pos rfl]
  · rw [g_ne (by omega)]; exact e2
  · rw [g_ne (by omega)]; exact e3
  · rw [g_ne (by omega)]; exact e4
  · rw [g_ne (by omega)]; exact e5
  · rw [g_ne (by omega)]; exact e6
  · rw [g_ne (by omega)]; exact e8
theorem rs_28 (hd : d + 1 < 7) (hx : x = 28 ∨ x = 30) : RnR [x] d (d + 1) m (fun m2 => gI m2 97 (d + 1) = (if x = 30 then 1 else 0) ∧ gI m2 90 (d + 1) = 0 ∧ gI m2 92 (d + 1) = 0 ∧ gI m2 93 (d + 1) = 0 ∧ gI m2 94 (d + 1) = 20 ∧ gI m2 96 (d + 1) = 0) := by
  obtain ⟨m2, e1, e2, e3, e4, e5, e6, e7, e8⟩ := op_is (m := sI m 97 (d + 1) (if x = 30 then 1 else 0)) hd
  rw [g_eq] at e7
  have f8 : frW (d + 1) m m2 := frW_t (frW_s frW_r (by omega)) e8
  refine rn_one (m2 := m2) (fun N j k h1 h2 h3 h4 => ?_) ⟨e7, e2, e3, e4, e5, e6⟩ f8
  have e : f_X11_worked_J46 (fun w1 w2 w3 m => f_X11_worked_L14 k w1 w2 w3 m) (nI 0) (nI d) (nI j) x m = f_X11_worked_L14 k (nI 0) (nI (d + 1)) (nI (j + 1)) m2 := by
    unfold f_X11_worked_J46
    rcases hx with rfl | rfl
    · rw [if_neg (by decide)] at e1
      rw [if_neg (by decide), q_l1, nI_add, q_gd hd (by omega), q_ix (by omega), q_stI, e1, q_bd1, nI_add]
    · rw [if_pos rfl] at e1
      rw [if_pos rfl, q_l1, nI_add, q_gd hd (by omega), q_ix (by omega), q_stI, ← q_l1, e1, q_bd1, q_l1, nI_add]
  rw [w14 h1 h2 h3 h4, e]
  rcases hx with rfl | rfl
  · rw [if_pos rfl]
  · rw [if_neg (by decide), if_pos rfl]
theorem rs_29 (hd : d + 1 < 7) (hU : UwN 97 m d d0) : RnR [29] (d + 1) d0 m (TmQ m d d0 (kvI m (d + 1))) := by
  obtain ⟨m2, e1, e2, e3, e4, e5, e6, e7, e8, e9⟩ := ts_is (m := m) hd
  have h0 := hU.1
  have hU2 : UwN 97 m2 d d0 := ⟨h0, fun i h1 h2 => (frW_g e9 (by omega)).trans (hU.2.1 i h1 h2), hU.2.2.imp id (fun h h3 => h ((frW_g e9 (by omega)).symm.trans h3))⟩
  refine rn_one (m2 := sI m2 95 d0 (if gI m2 96 d0 = 0 then ngN (d - d0) (kvI m (d + 1)) else gI m2 95 d0 * ngN (d - d0) (kvI m (d + 1)))) (fun N j k h1 h2 h3 h4 => ?_) ⟨?_, fun b h1 h2 h3 => ?_⟩ (frW_s (frW_le e9 (by omega)) (by omega))
  · have ed : nI (d + 1) + (-1 : Int32) = nI d := by
      have := q_sub1 (n := d + 1) (by omega)
      rw [Nat.add_sub_cancel] at this
      rw [← this, Int32.sub_eq_add_neg]
      rfl
    have e : f_X11_worked_J243 (fun w1 w2 w3 m => f_X11_worked_L14 k w1 w2 w3 m) (nI 0) (nI (d + 1)) (nI j) 29 0 m = f_X11_worked_L14 k (nI 0) (nI d0) (nI (j + 1)) (sI m2 95 d0 (if gI m2 96 d0 = 0 then ngN (d - d0) (kvI m (d + 1)) else gI m2 95 d0 * ngN (d - d0) (kvI m (d + 1)))) := by
      unfold f_X11_worked_J243
      rw [if_pos rfl, e1, q_bd1, q_gd hd (by omega), q_ix (by omega), e2, ed, w268 (d - d0) FU d _ (by omega) (by omega) (by show _ < 4096; omega) hU2, w300 (by omega)]
    rw [w14 h1 h2 h3 h4, if_neg (by decide), if_neg (by decide), if_neg (by decide), if_neg (by decide), if_neg (by decide), if_neg (by decide), if_neg (by decide), if_neg (by decide), if_neg (by decide), if_pos (by decide), if_neg (by decide), e]
  · rw [g_eq, frW_g e9 (by omega), frW_g e9 (by omega)]
  · rw [g_ne (by omega), frW_g e9 (by omega)]
end EvS
