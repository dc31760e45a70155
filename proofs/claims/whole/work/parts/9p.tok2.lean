/-! MATH HALF: tokens, the class goes on -/
section Tok2
variable {q : Tq} {a b c d e i j k n p u x lo hi : Nat} {m m2 : Mm} {w y z g : Int32}
theorem ix_8 : ∀ c, c < 127 → ((nI c).toInt8).toInt32 = nI c := by decide +kernel
theorem ix_s : ∀ c, c < 127 → (fs (fun u => txb 2021 u = nI c) 8 < 8 ↔ sgP c) := by decide +kernel
theorem c_len : f_J0_length_8abf5 1021 m = some (nI 8, m) := by
  unfold f_J0_length_8abf5 f_J0_coder_7d493
  rw [if_neg (by decide), q_bd2]
  rfl
theorem c_ix1 (hc : c < 127) : f_J0_indexOf_0f7a4 1021 (nI c) m = some (fo (fun u => txb 2021 u = nI c) 8, m) := by
  have e8 : txn 2021 = 8 := rfl
  have e8' : txl 2021 = nI 8 := rfl
  have key : f_J1_indexOfChar_4cfef 2021 (nI c) (nI 0) (nI 8) m = some (fo (fun u => txb 2021 u = nI c) 8, m) := by
    unfold f_J1_indexOfChar_4cfef
    rw [ix_8 c hc]
    refine lpf (fun j u => f_J1_indexOfChar_4cfef_L7 2021 j (nI 8) (nI c) (nI u) m) (fun u => txb 2021 u = nI c) 8 _ (fun j hn => ?_) (fun j u hu hpu hf => ?_) (fun j u hu hpu => ?_) (by omega)
    · simp only [f_J1_indexOfChar_4cfef_L7]
      unfold fo
      rw [fs_end hn, if_neg (by decide), if_neg (by omega)]
      rfl
    · simp only [f_J1_indexOfChar_4cfef_L7]
      unfold fo
      rw [hf, if_pos ((q_ltp (by omega) (by omega)).mpr hu), e8, q_gd (by omega) (by omega), q_ix (by omega), if_pos hpu, if_pos hu]
    · simp only [f_J1_indexOfChar_4cfef_L7]
      rw [if_pos ((q_ltp (by omega) (by omega)).mpr hu), e8, q_gd (by omega) (by omega), q_ix (by omega), if_neg hpu, q_l1, nI_add]
  have hn0 : ¬ nI c < 0 := nI_pos (n := c) (by show _ < 2147483648; omega)
  have h255 : ¬ (255 : Int32) < nI c := fun e => by
    have := (q_ltp (a := 255) (by omega) (by omega)).mp e
    omega
  unfold f_J0_indexOf_0f7a4 f_J0_indexOf_7cf53 f_J0_isLatin1_aae02
  rw [if_neg (by decide), if_pos (by rfl), q_bd2, if_neg (by decide), c_len, q_bd2]
  unfold f_J1_indexOf_4cfef f_J1_canEncode_9a6ad
  rw [if_neg hn0, if_neg h255, q_bd2, if_neg (by decide), if_pos (by decide)]
  have e1 : imax (0 : Int32) 0 = nI 0 := by decide
  have e2 : imin (nI 8) (txl (1021 + 1000)) = nI 8 := by decide
  rw [e1, e2]
  have key' : f_J1_indexOfChar_4cfef (1021 + 1000) (nI c) (nI 0) (nI 8) m = some (fo (fun u => txb 2021 u = nI c) 8, m) := key
  rw [key', q_bd2, q_bd2, q_bd2]
theorem nv_lt (hd : ∀ i, i < k → diP (q.2 (a + i))) : ∀ j, j ≤ k → nvN q a j < 10 ^ j
  | 0, _ => by show 0 < 1; decide
  | j + 1, hj => by
    have ih := nv_lt hd j (by omega)
    have hd1 := hd j (by omega)
    show 10 * nvN q a j + q.2 (a + j) - 48 < 10 ^ (j + 1)
    rw [Nat.pow_succ]
    omega
theorem c_num3 (h : TC q m) (hq : TW q) (ha : a + k ≤ q.1) (hk : k ≤ 4) (hd : ∀ i, i < k → diP (q.2 (a + i))) : f_X7_readNumber (tkM (nI 3) (nI a) (nI (a + k)) (nI 0) m) = some (tkM (nI 3) (nI a) (nI (a + k)) (nI (nvN q a k)) m) := by
  have h1 := hq.1
  unfold f_X7_readNumber
  rw [tk_3]
  refine lp0 (fun j u => f_X7_readNumber_L5 j (nI (a + u)) (tkM (nI 3) (nI a) (nI (a + k)) (nI (nvN q a u)) m)) k _ (fun j => ?_) (fun j u hu => ?_) (by omega)
  · simp only [f_X7_readNumber_L5]
    rw [tk_4, if_neg (fun e => absurd ((q_ltp (by omega) (by omega)).mp e) (Nat.lt_irrefl _))]
  · have c2 := h.2 (a + u) (by omega)
    have hdu := hd u hu
    have hv := nv_lt hd u (by omega)
    have hv4 : 10 ^ u ≤ 10 ^ 4 := Nat.pow_le_pow_right (by decide) (by omega)
    have e48 : nI (10 * nvN q a u + q.2 (a + u)) - nI 48 = nI (10 * nvN q a u + q.2 (a + u) - 48) := pk_sub (by omega)
    simp only [f_X7_readNumber_L5]
    rw [tk_4, if_pos ((q_ltp (by omega) (by omega)).mpr (by omega)), tk_2, if_pos (by rfl), q_gd (by omega) (by omega), q_ix (by omega), tk_5, tk_o (b := 2) (by decide), c2, q_l10, q_m10a, nI_add, q_l48, e48, q_stI, ts_5, q_l1, nI_add, Nat.add_assoc]
    rfl
theorem c_num1 (h1 : y ≠ 3) : f_X7_readNumber (tkM y w z g m) = some (tkM y w z g m) := by
  unfold f_X7_readNumber
  obtain ⟨j, hj1, hj2⟩ := FU_j
  rw [hj1, tk_3]
  simp only [f_X7_readNumber_L5]
  rw [tk_4, tk_2, if_neg h1]
  split <;> rfl
theorem run_is (h : i < rnN q lo hi a - a) : lo ≤ q.2 (a + i) ∧ q.2 (a + i) ≤ hi := by
  have e : rnN q lo hi a - a = fs (fun i => ¬ (lo ≤ q.2 (a + i) ∧ q.2 (a + i) ≤ hi)) (q.1 - a) := by
    unfold rnN; omega
  rw [e] at h
  exact Classical.not_not.mp (fs_not _ _ i h)
/-- the class goes on to the next token -/
theorem c_adv (h : TC q m) (hq : TW q) (hp : p ≤ q.1) (h4 : gI m 1 4 = nI p) : f_X7_advance m = some (tkM (nI (tkC q (skT q p))) (nI (skT q p)) (nI (tkE q (skT q p))) (nI (tkV q (skT q p))) m) := by
  have h1 := hq.1
  have hs := skT_le hp
  rw [c_skip h hq hp h4]
  generalize skT q p = a at hs
  unfold f_X7_advance_J41
  rw [q_stI, q_stI, ts_0, tk_1, h.1, q_l0]
  by_cases e1 : a < q.1
  · have c2 := h.2 a e1
    have ho := okS_lt (hq.2 a e1)
    have hr1 := rnN_le (q := q) (lo := 97) (hi := 122) (a := a) (by omega)
    have hr2 := rnN_le (q := q) (lo := 48) (hi := 57) (a := a) (by omega)
    have dig : ¬ leP (q.2 a) → f_X7_advance_J135 (nI a) (tkM (gI m 1 2) (nI a) (gI m 1 4) (nI 0) m) = some (tkM (nI (tkC q a)) (nI a) (nI (tkE q a)) (nI (tkV q a)) m) := fun hl => by
      have sig : ¬ diP (q.2 a) → f_X7_advance_J198 (nI a) (tkM (gI m 1 2) (nI a) (gI m 1 4) (nI 0) m) = some (tkM (nI (tkC q a)) (nI a) (nI (tkE q a)) (nI (tkV q a)) m) := fun hdi => by
        have eE : tkE q a = a + 1 := by unfold tkE; rw [if_pos e1, if_neg hl, if_neg hdi]
        have e9 := ix_s (q.2 a) ho
        unfold f_X7_advance_J198
        rw [q_stI, ts_4, q_l1, nI_add, q_gd (by omega) (by omega), q_ix (by omega), tk_o (by decide), c2, c_ix1 ho, q_bd2]
        unfold fo
        by_cases sg : sgP (q.2 a)
        · have eC : tkC q a = 4 := by unfold tkC; rw [if_pos e1, if_neg hl, if_neg hdi, if_pos sg]
          have eV : tkV q a = 0 := by unfold tkV; rw [eC]; rfl
          have hfs := e9.mpr sg
          rw [if_pos hfs, if_neg (nI_pos (by show _ < 2147483648; omega)), q_stI, ts_2, eC, eE, eV]
          all_goals rfl
        · have eC : tkC q a = 1 := by unfold tkC; rw [if_pos e1, if_neg hl, if_neg hdi, if_neg sg]
          have eV : tkV q a = 0 := by unfold tkV; rw [eC]; rfl
          rw [if_neg (fun hh => sg (e9.mp hh)), if_pos (by decide), q_stI, ts_2, eC, eE, eV]
          all_goals rfl
      unfold f_X7_advance_J135
      rw [q_gd (by omega) (by omega), q_ix (by omega), tk_o (b := 2) (by decide), c2, q_l48, q_l57]
      by_cases d1 : q.2 a < 48
      · rw [if_pos ((q_ltp (b := 48) (by omega) (by omega)).mpr d1)]
        exact sig (by omega)
      · rw [if_neg (fun e => d1 ((q_ltp (b := 48) (by omega) (by omega)).mp e)), q_gd (by omega) (by omega)]
        by_cases d2 : 57 < q.2 a
        · rw [if_pos ((q_ltp (a := 57) (by omega) (by omega)).mpr d2)]
          exact sig (by omega)
        · have hdi : diP (q.2 a) := by omega
          have eE : tkE q a = rnN q 48 57 a := by unfold tkE; rw [if_pos e1, if_neg hl, if_pos hdi]
          have er := c_run (lo := 48) (hi := 57) (TC_tk (w := gI m 1 2) (y := nI a) (z := gI m 1 4) (g := nI 0) h) hq (a := a) (by omega) tk_3 (by omega) (by omega)
          have esub : nI (rnN q 48 57 a) - nI a = nI (rnN q 48 57 a - a) := pk_sub (by omega)
          rw [if_neg (fun e => d2 ((q_ltp (a := 57) (by omega) (by omega)).mp e)), er, q_bd2, q_stI, ts_4, tk_4, tk_3, esub, q_l4]
          by_cases l4 : 4 < rnN q 48 57 a - a
          · have eC : tkC q a = 1 := by unfold tkC; rw [if_pos e1, if_neg hl, if_pos hdi, if_pos l4]
            have eV : tkV q a = 0 := by unfold tkV; rw [eC]; rfl
            rw [if_pos ((q_ltp (by omega) (by omega)).mpr l4), q_stI, ts_2, c_num1 (by decide), q_bd1, eC, eE, eV]
            all_goals rfl
          · have eC : tkC q a = 3 := by unfold tkC; rw [if_pos e1, if_neg hl, if_pos hdi, if_neg l4]
            have eV : tkV q a = nvN q a (rnN q 48 57 a - a) := by unfold tkV; rw [eC, if_pos rfl, eE]
            have en := c_num3 (k := rnN q 48 57 a - a) (a := a) h hq (by omega) (by omega) (fun i hi => run_is hi)
            rw [show a + (rnN q 48 57 a - a) = rnN q 48 57 a from by omega] at en
            rw [if_neg (fun e => l4 ((q_ltp (by omega) (by omega)).mp e)), q_stI, ts_2, q_l3, en, q_bd1, eC, eE, eV]
    rw [if_pos ((q_ltp (by omega) (by omega)).mpr e1), q_gd (by omega) (by omega), q_ix (by omega), tk_o (b := 2) (by decide), c2, q_l97, q_l122]
    by_cases d1 : q.2 a < 97
    · rw [if_pos ((q_ltp (b := 97) (by omega) (by omega)).mpr d1)]
      exact dig (by omega)
    · rw [if_neg (fun e => d1 ((q_ltp (b := 97) (by omega) (by omega)).mp e)), q_gd (by omega) (by omega)]
      by_cases d2 : 122 < q.2 a
      · rw [if_pos ((q_ltp (a := 122) (by omega) (by omega)).mpr d2)]
        exact dig (by omega)
      · have hl : leP (q.2 a) := by omega
        have eE : tkE q a = rnN q 97 122 a := by unfold tkE; rw [if_pos e1, if_pos hl]
        have er := c_run (lo := 97) (hi := 122) (TC_tk (w := gI m 1 2) (y := nI a) (z := gI m 1 4) (g := nI 0) h) hq (a := a) (by omega) tk_3 (by omega) (by omega)
        have esub : nI (rnN q 97 122 a) - nI a = nI (rnN q 97 122 a - a) := pk_sub (by omega)
        rw [if_neg (fun e => d2 ((q_ltp (a := 122) (by omega) (by omega)).mp e)), er, q_bd2, q_stI, ts_4, tk_4, tk_3, esub, q_l8]
        by_cases l8 : 8 < rnN q 97 122 a - a
        · have eC : tkC q a = 1 := by unfold tkC; rw [if_pos e1, if_pos hl, if_pos l8]
          have eV : tkV q a = 0 := by unfold tkV; rw [eC]; rfl
          rw [if_pos ((q_ltp (by omega) (by omega)).mpr l8), q_stI, ts_2, eC, eE, eV]
          all_goals rfl
        · have eC : tkC q a = 2 := by unfold tkC; rw [if_pos e1, if_pos hl, if_neg l8]
          have eV : tkV q a = 0 := by unfold tkV; rw [eC]; rfl
          rw [if_neg (fun e => l8 ((q_ltp (by omega) (by omega)).mp e)), q_stI, ts_2, eC, eE, eV]
          all_goals rfl
  · have ea : a = q.1 := by omega
    have eC : tkC q a = 0 := by unfold tkC; rw [if_neg e1]
    have eE : tkE q a = q.1 := by unfold tkE; rw [if_neg e1]
    have eV : tkV q a = 0 := by unfold tkV; rw [eC]; rfl
    rw [if_neg (fun e => e1 ((q_ltp (by omega) (by omega)).mp e)), q_stI, ts_2, q_stI, tk_1, ts_4, h.1, eC, eE, eV]
end Tok2
