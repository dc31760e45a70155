/-! MATH HALF: tokens, the reference goes on -/
section Tok4
variable {q : Tq} {a b c d e i j k n p u x lo hi : Nat} {m m2 : Mm} {y z g f v : Int32} {w w2 : Int64}
theorem q_l43 : (43 : Int32) = nI 43 := congrArg id (rfl : (43 : Int32) = nI 43)
theorem q_l45 : (45 : Int32) = nI 45 := congrArg id (rfl : (45 : Int32) = nI 45)
theorem q_l59 : (59 : Int32) = nI 59 := congrArg id (rfl : (59 : Int32) = nI 59)
theorem q_l61 : (61 : Int32) = nI 61 := congrArg id (rfl : (61 : Int32) = nI 61)
theorem r_188 (ha : a ≤ e) (he : e ≤ 1000) : f_X11_nextToken_J188 (rkM (nI a) (nI e) g f w m) = some (rkM (nI a) (nI e) (nI (if 8 < e - a then 4 else 1)) f w m) := by
  have e1 : nI e - nI a = nI (e - a) := pk_sub ha
  unfold f_X11_nextToken_J188
  rw [rk_4, rk_5, e1, q_l8]
  by_cases h : 8 < e - a
  · rw [if_pos ((q_ltp (by omega) (by omega)).mpr h), if_pos h, q_stI, rs_6]; rfl
  · rw [if_neg (fun e2 => h ((q_ltp (by omega) (by omega)).mp e2)), if_neg h, q_stI, rs_6]; rfl
theorem r_299 (ha : a ≤ e) (he : e ≤ 1000) : f_X11_nextToken_J299 (rkM (nI a) (nI e) g f w m) = some (rkM (nI a) (nI e) (nI (if 4 < e - a then 4 else 2)) f w m) := by
  have e1 : nI e - nI a = nI (e - a) := pk_sub ha
  unfold f_X11_nextToken_J299
  rw [rk_4, rk_5, e1, q_l4]
  by_cases h : 4 < e - a
  · rw [if_pos ((q_ltp (by omega) (by omega)).mpr h), if_pos h, q_stI, rs_6]
  · rw [if_neg (fun e2 => h ((q_ltp (by omega) (by omega)).mp e2)), if_neg h, q_stI, rs_6]; rfl
theorem r_word (h : TRn q m) (hq : TW q) (ha : a ≤ q.1) : f_X11_nextToken_L109 FU (rkM (nI a) (nI a) g f (lN 0) m) = some (rkM (nI a) (nI (rnN q 97 122 a)) (nI (if 8 < rnN q 97 122 a - a then 4 else 1)) f (lN (wvN q a (rnN q 97 122 a - a))) m) := by
  have h1 := hq.1
  refine lpf (fun j u => f_X11_nextToken_L109 j (rkM (nI a) (nI (a + u)) g f (lN (wvN q a u)) m)) (fun i => ¬ (97 ≤ q.2 (a + i) ∧ q.2 (a + i) ≤ 122)) (q.1 - a) _ (fun j hn => ?_) (fun j u hu hpu hf => ?_) (fun j u hu hpu => ?_) (by omega)
  · have e : rnN q 97 122 a = a + (q.1 - a) := by unfold rnN; rw [fs_end hn]
    have es := r_sgn (x := a + (q.1 - a)) (TRn_rk (y := nI a) (z := nI (a + (q.1 - a))) (g := g) (f := f) (w := lN (wvN q a (q.1 - a))) h) hq (by omega)
    rw [if_neg (by omega)] at es
    simp only [f_X11_nextToken_L109]
    rw [rk_4, es, q_bd2, if_pos (by decide), r_188 (by omega) (by omega), e, Nat.add_sub_cancel_left]
  · have e : rnN q 97 122 a = a + u := by unfold rnN; rw [hf]
    have ho := okS_lt (hq.2 (a + u) (by omega))
    have es := r_sgn (x := a + u) (TRn_rk (y := nI a) (z := nI (a + u)) (g := g) (f := f) (w := lN (wvN q a u)) h) hq (by omega)
    rw [if_pos (by omega)] at es
    simp only [f_X11_nextToken_L109]
    rw [rk_4, es, q_bd2, rk_4, q_l97, e, Nat.add_sub_cancel_left]
    by_cases k1 : q.2 (a + u) < 97
    · rw [if_pos ((q_ltp (by omega) (by omega)).mpr k1), r_188 (by omega) (by omega), Nat.add_sub_cancel_left]
    · rw [if_neg (fun e => k1 ((q_ltp (by omega) (by omega)).mp e)), es, q_bd2, q_l122, if_pos ((q_ltp (by omega) (by omega)).mpr (by omega)), r_188 (by omega) (by omega), Nat.add_sub_cancel_left]
  · have ho := okS_lt (hq.2 (a + u) (by omega))
    have hb := Classical.not_not.mp hpu
    have es := r_sgn (x := a + u) (TRn_rk (y := nI a) (z := nI (a + u)) (g := g) (f := f) (w := lN (wvN q a u)) h) hq (by omega)
    rw [if_pos (by omega)] at es
    have e1 : nI (a + u) - nI a = nI u := by rw [pk_sub (by omega), Nat.add_sub_cancel_left]
    simp only [f_X11_nextToken_L109]
    rw [rk_4, es, q_bd2, rk_4, q_l97, if_neg (fun e => by have := (q_ltp (by omega) (by omega)).mp e; omega), es, q_bd2, q_l122, if_neg (fun e => by have := (q_ltp (by omega) (by omega)).mp e; omega), rk_4, rk_5, e1, q_l8]
    by_cases u8 : u < 8
    · have e2 : lN (wvN q a u) * 27 + (nI (q.2 (a + u))).toInt64 - 96 = lN (wvN q a (u + 1)) := by
        have e3 : wvN q a (u + 1) = 27 * wvN q a u + q.2 (a + u) - 96 := by
          show (if u < 8 then _ else _) = _
          rw [if_pos u8]
        rw [nI_l (by omega), e3]
        show lN (wvN q a u) * lN 27 + lN (q.2 (a + u)) - lN 96 = _
        rw [lN_mul, lN_add, l_sub (by omega), Nat.mul_comm]
      rw [if_pos ((q_ltp (by omega) (by omega)).mpr u8), es, q_bd2, rk_7, e2]
      show f_X11_nextToken_L109 j (sI (sL (rkM (nI a) (nI (a + u)) g f (lN (wvN q a u)) m) 78 7 (lN (wvN q a (u + 1)))) 78 4 (gI (sL (rkM (nI a) (nI (a + u)) g f (lN (wvN q a u)) m) 78 7 (lN (wvN q a (u + 1)))) 78 4 + 1)) = _
      rw [rs_7, rk_4, rs_4, q_l1, nI_add, Nat.add_assoc]
    · have e3 : wvN q a (u + 1) = wvN q a u := by
        show (if u < 8 then _ else _) = _
        rw [if_neg u8]
      rw [if_neg (fun e => u8 ((q_ltp (by omega) (by omega)).mp e)), q_stI, rs_4, e3, q_l1, nI_add, Nat.add_assoc]
theorem r_numb (h : TRn q m) (hq : TW q) (ha : a ≤ q.1) : f_X11_nextToken_L224 FU (rkM (nI a) (nI a) g (nI 0) w m) = some (rkM (nI a) (nI (rnN q 48 57 a)) (nI (if 4 < rnN q 48 57 a - a then 4 else 2)) (nI (n4N q a (rnN q 48 57 a - a))) w m) := by
  have h1 := hq.1
  refine lpf (fun j u => f_X11_nextToken_L224 j (rkM (nI a) (nI (a + u)) g (nI (n4N q a u)) w m)) (fun i => ¬ (48 ≤ q.2 (a + i) ∧ q.2 (a + i) ≤ 57)) (q.1 - a) _ (fun j hn => ?_) (fun j u hu hpu hf => ?_) (fun j u hu hpu => ?_) (by omega)
  · have e : rnN q 48 57 a = a + (q.1 - a) := by unfold rnN; rw [fs_end hn]
    have es := r_sgn (x := a + (q.1 - a)) (TRn_rk (y := nI a) (z := nI (a + (q.1 - a))) (g := g) (f := nI (n4N q a (q.1 - a))) (w := w) h) hq (by omega)
    rw [if_neg (by omega)] at es
    simp only [f_X11_nextToken_L224]
    rw [rk_4, es, q_bd2, if_pos (by decide), r_299 (by omega) (by omega), e, Nat.add_sub_cancel_left]
  · have e : rnN q 48 57 a = a + u := by unfold rnN; rw [hf]
    have ho := okS_lt (hq.2 (a + u) (by omega))
    have es := r_sgn (x := a + u) (TRn_rk (y := nI a) (z := nI (a + u)) (g := g) (f := nI (n4N q a u)) (w := w) h) hq (by omega)
    rw [if_pos (by omega)] at es
    simp only [f_X11_nextToken_L224]
    rw [rk_4, es, q_bd2, rk_4, q_l48, e, Nat.add_sub_cancel_left]
    by_cases k1 : q.2 (a + u) < 48
    · rw [if_pos ((q_ltp (by omega) (by omega)).mpr k1), r_299 (by omega) (by omega), Nat.add_sub_cancel_left]
    · rw [if_neg (fun e => k1 ((q_ltp (by omega) (by omega)).mp e)), es, q_bd2, q_l57, if_pos ((q_ltp (by omega) (by omega)).mpr (by omega)), r_299 (by omega) (by omega), Nat.add_sub_cancel_left]
  · have ho := okS_lt (hq.2 (a + u) (by omega))
    have hb := Classical.not_not.mp hpu
    have hn4 := n4_lt (q := q) (a := a) (k := u)
    have es := r_sgn (x := a + u) (TRn_rk (y := nI a) (z := nI (a + u)) (g := g) (f := nI (n4N q a u)) (w := w) h) hq (by omega)
    rw [if_pos (by omega)] at es
    have e1 : nI (a + u) - nI a = nI u := by rw [pk_sub (by omega), Nat.add_sub_cancel_left]
    simp only [f_X11_nextToken_L224]
    rw [rk_4, es, q_bd2, rk_4, q_l48, if_neg (fun e => by have := (q_ltp (by omega) (by omega)).mp e; omega), es, q_bd2, q_l57, if_neg (fun e => by have := (q_ltp (by omega) (by omega)).mp e; omega), rk_4, rk_5, e1, q_l4]
    by_cases u8 : u < 4
    · have e2 : nI (n4N q a u) * 10 + nI (q.2 (a + u)) - nI 48 = nI (n4N q a (u + 1)) := by
        have e3 : n4N q a (u + 1) = 10 * n4N q a u + q.2 (a + u) - 48 := by
          show (if u < 4 then _ else _) = _
          rw [if_pos u8]
        rw [e3, q_l10, q_m10a, nI_add, pk_sub (by omega)]
      rw [if_pos ((q_ltp (by omega) (by omega)).mpr u8), es, q_bd2, rk_8, e2, q_stI, rs_8, q_stI, rk_4, rs_4, q_l1, nI_add, Nat.add_assoc]
    · have e3 : n4N q a (u + 1) = n4N q a u := by
        show (if u < 4 then _ else _) = _
        rw [if_neg u8]
      rw [if_neg (fun e => u8 ((q_ltp (by omega) (by omega)).mp e)), q_stI, rs_4, e3, q_l1, nI_add, Nat.add_assoc]
theorem rk_0 : sI (sL (sI (sI m 78 4 y) 78 5 z) 78 7 w) 78 8 v = rkM z y (gI m 78 6) v w m := by
  refine Prod.ext ?_ ?_
  · funext b i
    simp only [sI, sL, rkM, gI]
    by_cases h8 : b = 78 ∧ i = 8
    · obtain ⟨rfl, rfl⟩ := h8; simp
    · rw [if_neg h8, if_neg h8]
      by_cases h5 : b = 78 ∧ i = 5
      · obtain ⟨rfl, rfl⟩ := h5; simp
      · rw [if_neg h5, if_neg h5]
        by_cases h4 : b = 78 ∧ i = 4
        · rw [if_pos h4, if_pos h4]
        · rw [if_neg h4, if_neg h4]
          by_cases h6 : b = 78 ∧ i = 6
          · obtain ⟨rfl, rfl⟩ := h6; simp
          · rw [if_neg h6]
  · rfl
/-- the reference goes on to the next token -/
theorem r_next (h : TRn q m) (hq : TW q) (hp : p ≤ q.1) (h4 : gI m 78 4 = nI p) : ∃ v w, f_X11_nextToken m = some (rkM (nI (skT q p)) (nI (tkE q (skT q p))) (nI (krN (tkC q (skT q p)))) (nI v) (lN w) m) ∧ (tkC q (skT q p) = 2 → w = wvN q (skT q p) (tkE q (skT q p) - skT q p)) ∧ (tkC q (skT q p) = 3 → v = tkV q (skT q p)) := by
  have h1 := hq.1
  have hs := skT_le hp
  rw [r_skip h hq hp h4]
  generalize skT q p = a at hs
  have g4 : gI (sI m 78 4 (nI a)) 78 4 = nI a := by simp [gI, sI]
  have e0 : f_X11_nextToken_J52 (sI m 78 4 (nI a)) = (fun m3 => (if (gI m3 78 4) = (gI m3 78 3) then stI m3 78 6 (0 : Int32) (fun m32 => some m32) else gd (inb (gI m3 78 4) 1000) ((if (gI m3 79 (ix (gI m3 78 4))) < (97 : Int32) then f_X11_nextToken_J212 (gI m3 79 (ix (gI m3 78 4)))  m3 else (if (122 : Int32) < (gI m3 79 (ix (gI m3 78 4))) then f_X11_nextToken_J212 (gI m3 79 (ix (gI m3 78 4)))  m3 else f_X11_nextToken_L109 FU   m3))))) (rkM (nI a) (nI a) (gI m 78 6) (nI 0) (lN 0) m) := by
    unfold f_X11_nextToken_J52
    rw [q_stI, g4]
    rw [← rk_0]
    rfl
  rw [e0]
  simp only
  rw [rk_4, rk_3, h.1]
  by_cases e1 : a < q.1
  · have c2 := h.2 a e1
    have ho := okS_lt (hq.2 a e1)
    have hr1 := rnN_le (q := q) (lo := 97) (hi := 122) (a := a) (by omega)
    have hr2 := rnN_le (q := q) (lo := 48) (hi := 57) (a := a) (by omega)
    have hne : ¬ nI a = nI q.1 := fun e => by
      have := (q_eq (by omega) (by omega)).mp e
      omega
    rw [if_neg hne, q_gd (by omega) (by omega), q_ix (by omega), rk_o (b := 79) (by decide), c2, q_l97, q_l122]
    have dig : ¬ leP (q.2 a) → ∃ v w, f_X11_nextToken_J212 (nI (q.2 a)) (rkM (nI a) (nI a) (gI m 78 6) (nI 0) (lN 0) m) = some (rkM (nI a) (nI (tkE q a)) (nI (krN (tkC q a))) (nI v) (lN w) m) ∧ (tkC q a = 2 → w = wvN q a (tkE q a - a)) ∧ (tkC q a = 3 → v = tkV q a) := fun hl => by
      have sig : ¬ diP (q.2 a) → ∃ v w, f_X11_nextToken_J322 (nI (q.2 a)) (rkM (nI a) (nI a) (gI m 78 6) (nI 0) (lN 0) m) = some (rkM (nI a) (nI (tkE q a)) (nI (krN (tkC q a))) (nI v) (lN w) m) ∧ (tkC q a = 2 → w = wvN q a (tkE q a - a)) ∧ (tkC q a = 3 → v = tkV q a) := fun hdi => by
        have eE : tkE q a = a + 1 := by unfold tkE; rw [if_pos e1, if_neg hl, if_neg hdi]
        by_cases sg : sgP (q.2 a)
        · have eC : tkC q a = 4 := by unfold tkC; rw [if_pos e1, if_neg hl, if_neg hdi, if_pos sg]
          refine ⟨0, 0, ?_, fun e => by omega, fun e => by omega⟩
          unfold f_X11_nextToken_J322 f_X11_nextToken_J345
          rw [q_stI, rk_4, rs_4, q_l1, nI_add, q_l40, q_l43, q_l45, q_l59, q_l61, eC, eE, q_stI, rs_6, q_stI, rs_6]
          rcases sg with sg | sg | sg
          · rw [if_neg (fun e => by have := (q_ltp (by omega) (by omega)).mp e; omega), if_neg (fun e => by have := (q_ltp (by omega) (by omega)).mp e; omega)]; rfl
          · rw [if_neg (fun e => by have := (q_ltp (by omega) (by omega)).mp e; omega), if_pos ((q_ltp (by omega) (by omega)).mpr (by omega)), if_pos (by rw [sg])]; rfl
          · rw [if_neg (fun e => by have := (q_ltp (by omega) (by omega)).mp e; omega), if_pos ((q_ltp (by omega) (by omega)).mpr (by omega)), if_neg (fun e => by have := (q_eq (by omega) (by omega)).mp e; omega), if_neg (fun e => by have := (q_ltp (by omega) (by omega)).mp e; omega), if_neg (fun e => by have := (q_ltp (by omega) (by omega)).mp e; omega)]; rfl
        · have eC : tkC q a = 1 := by unfold tkC; rw [if_pos e1, if_neg hl, if_neg hdi, if_neg sg]
          refine ⟨0, 0, ?_, fun e => by omega, fun e => by omega⟩
          have j345 : f_X11_nextToken_J345 (nI (q.2 a)) (rkM (nI a) (nI (a + 1)) (gI m 78 6) (nI 0) (lN 0) m) = some (rkM (nI a) (nI (a + 1)) (nI 4) (nI 0) (lN 0) m) := by
            unfold f_X11_nextToken_J345
            rw [q_l45, q_l59, q_l61, if_neg (fun e => by have := (q_eq (by omega) (by omega)).mp e; omega)]
            by_cases k1 : q.2 a < 59
            · rw [if_pos ((q_ltp (by omega) (by omega)).mpr k1), q_stI, rs_6]; rfl
            · rw [if_neg (fun e => k1 ((q_ltp (by omega) (by omega)).mp e)), if_pos ((q_ltp (by omega) (by omega)).mpr (by omega)), q_stI, rs_6]; rfl
          unfold f_X11_nextToken_J322
          rw [q_stI, rk_4, rs_4, q_l1, nI_add, q_l40, q_l43, eC, eE]
          by_cases k1 : q.2 a < 40
          · rw [if_pos ((q_ltp (by omega) (by omega)).mpr k1), j345]; rfl
          · rw [if_neg (fun e => k1 ((q_ltp (by omega) (by omega)).mp e)), if_pos ((q_ltp (by omega) (by omega)).mpr (by omega)), j345]; rfl
      unfold f_X11_nextToken_J212
      rw [q_l48, q_l57]
      by_cases d1 : q.2 a < 48
      · rw [if_pos ((q_ltp (by omega) (by omega)).mpr d1)]
        exact sig (by omega)
      · rw [if_neg (fun e => d1 ((q_ltp (by omega) (by omega)).mp e))]
        by_cases d2 : 57 < q.2 a
        · rw [if_pos ((q_ltp (by omega) (by omega)).mpr d2)]
          exact sig (by omega)
        · have hdi : diP (q.2 a) := by omega
          have eE : tkE q a = rnN q 48 57 a := by unfold tkE; rw [if_pos e1, if_neg hl, if_pos hdi]
          rw [if_neg (fun e => d2 ((q_ltp (by omega) (by omega)).mp e)), r_numb h hq (by omega), eE]
          by_cases l4 : 4 < rnN q 48 57 a - a
          · have eC : tkC q a = 1 := by unfold tkC; rw [if_pos e1, if_neg hl, if_pos hdi, if_pos l4]
            rw [if_pos l4, eC]
            exact ⟨_, _, rfl, fun e => by omega, fun e => by omega⟩
          · have eC : tkC q a = 3 := by unfold tkC; rw [if_pos e1, if_neg hl, if_pos hdi, if_neg l4]
            have eV : tkV q a = nvN q a (rnN q 48 57 a - a) := by unfold tkV; rw [eC, if_pos rfl, eE]
            rw [if_neg l4, eC, eV, n4_nv _ (by omega)]
            exact ⟨_, _, rfl, fun e => by omega, fun _ => rfl⟩
    by_cases d1 : q.2 a < 97
    · rw [if_pos ((q_ltp (by omega) (by omega)).mpr d1)]
      exact dig (by omega)
    · rw [if_neg (fun e => d1 ((q_ltp (by omega) (by omega)).mp e))]
      by_cases d2 : 122 < q.2 a
      · rw [if_pos ((q_ltp (by omega) (by omega)).mpr d2)]
        exact dig (by omega)
      · have hl : leP (q.2 a) := by omega
        have eE : tkE q a = rnN q 97 122 a := by unfold tkE; rw [if_pos e1, if_pos hl]
        rw [if_neg (fun e => d2 ((q_ltp (by omega) (by omega)).mp e)), r_word h hq (by omega), eE]
        by_cases l8 : 8 < rnN q 97 122 a - a
        · have eC : tkC q a = 1 := by unfold tkC; rw [if_pos e1, if_pos hl, if_pos l8]
          rw [if_pos l8, eC]
          exact ⟨_, _, rfl, fun e => by omega, fun e => by omega⟩
        · have eC : tkC q a = 2 := by unfold tkC; rw [if_pos e1, if_pos hl, if_neg l8]
          rw [if_neg l8, eC]
          exact ⟨_, _, rfl, fun _ => rfl, fun e => by omega⟩
  · have ea : a = q.1 := by omega
    have eC : tkC q a = 0 := by unfold tkC; rw [if_neg e1]
    have eE : tkE q a = a := by unfold tkE; rw [if_neg e1, ea]
    refine ⟨0, 0, ?_, fun e => by omega, fun e => by omega⟩
    rw [if_pos (by rw [ea]), q_stI, rs_6, eC, eE]
    rfl
end Tok4
