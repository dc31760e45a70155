/-! MATH HALF: loads by draws -/
def dwC (k : Nat) : Nat := (k * 1103515245 + 12345) % 2147483648
def dvC (k n : Nat) : Nat := k / 65536 % n
def lvS (dwN : Nat → Nat) (dvN : Nat → Nat → Nat) (Λ : Lv) (q : Nat × Sv) : Nat × Sv :=
  if dvN (dwN q.1) 8 < 5 then (dwN (dwN (dwN q.1)), (pf Λ q.2 (if dvN (dwN q.1) 8 < 3 then 0 else 1) (dvN (dwN (dwN q.1)) (yX Λ)) (nI (dvN (dwN (dwN (dwN q.1))) 256))).2)
  else if dvN (dwN q.1) 8 < 7 then (dwN (dwN q.1), (pf Λ q.2 (if dvN (dwN q.1) 8 = 5 then 2 else 3) (dvN (dwN (dwN q.1)) (yD Λ)) (nI 0)).2)
  else (dwN (dwN q.1), (pf Λ q.2 4 (dvN (dwN (dwN q.1)) 4 + 1) (nI 0)).2)
def lvN (dwN : Nat → Nat) (dvN : Nat → Nat → Nat) (Λ : Lv) (q : Nat × Sv) : Nat → Nat × Sv
  | 0 => q
  | n + 1 => lvS dwN dvN Λ (lvN dwN dvN Λ q n)
abbrev EqS (S T : Sv) : Prop := S.1 = T.1 ∧ (∀ x, x < 200 → S.2.1 x = T.2.1 x) ∧ (∀ x, x < 200 → S.2.2.1 x = T.2.2.1 x) ∧ ∀ d, d < 13 → S.2.2.2 d = T.2.2.2 d
section Lds
variable {Λ : Lv} {a b x k d o n i N K z c B t u w v p s M W : Nat} {S F T : Sv} {m m2 m3 : Mm} {x1 x2 x3 st : Int32} {g h0 vl : Nat → Int32} {y : Int64} {qq : Nat × Sv} {dwN : Nat → Nat} {dvN : Nat → Nat → Nat}
theorem dwC_lt : dwC k < 2147483648 := Nat.mod_lt _ (by decide)
theorem dvC_lt (hn : 0 < n) : dvC k n < n := Nat.mod_lt _ hn
theorem sL_sL {y2 : Int64} : sL (sL m b i y) b i y2 = sL m b i y2 := by
  have : (sL (sL m b i y) b i y2).2 = (sL m b i y2).2 := by
    funext c j
    simp only [sL]
    by_cases h : c = b ∧ j = i
    · rw [if_pos h, if_pos h]
    · rw [if_neg h, if_neg h, if_neg h]
  exact mm_ext (fun _ _ => rfl) this
theorem gL_sL : gL (sL m b i y) b i = y := by simp [gL, sL]
theorem l_next (hk : k < 2147483648) : (lN k * 1103515245 + 12345) - (lN k * 1103515245 + 12345) / 2147483648 * 2147483648 = lN (dwC k) := by
  show (lN k * lN 1103515245 + lN 12345) - (lN k * lN 1103515245 + lN 12345) / lN 2147483648 * lN 2147483648 = _
  rw [lN_mul, lN_add, pk_lRem (by omega) (by decide) (by decide)]
  rfl
theorem l_val (hk : k < 2147483648) (h0 : 0 < n) (hn : n < 2147483648) : ((lN k / 65536) - (lN k / 65536) / (nI n).toInt64 * (nI n).toInt64).toInt32 = nI (dvC k n) := by
  show ((lN k / lN 65536) - (lN k / lN 65536) / (nI n).toInt64 * (nI n).toInt64).toInt32 = _
  rw [nI_l hn, pk_lDiv (by omega) (by decide) (by decide), pk_lRem (by omega) h0 (by omega), lN_i]
  rfl
theorem q_nzL {α : Type} {A : Option α} (h0 : 0 < n) (hn : n < 2147483648) : gd (nzL (nI n).toInt64) A = A := by
  have : nzL (nI n).toInt64 = true := by
    unfold nzL
    rw [nI_l hn, decide_eq_true_eq]
    intro e
    have e2 : lN n = lN 0 := e
    rw [pk_lEQ (by omega) (by decide)] at e2
    omega
  rw [gd, if_pos this]
theorem c_belowC (hk : k < 2147483648) (h0 : 0 < n) (hn : n < 2147483648) : f_X2_below (nI n) (sL m 126 0 (lN k)) = some (nI (dvC (dwC k) n), sL m 126 0 (lN (dwC k))) := by
  have h1 : nI 0 < nI n := (q_ltp (by omega) hn).mpr h0
  have hd := dwC_lt (k := k)
  have hn2 := l_next hk
  generalize dwC k = k2 at hd hn2
  unfold f_X2_below stL
  rw [gL_sL, hn2, sL_sL]
  dsimp only
  rw [gL_sL, q_nzL h0 hn, l_val hd h0 hn, q_l0, if_pos h1]
theorem r_drawsC (hk : k < 2147483648) (h0 : 0 < n) (hn : n < 2147483648) : f_X11_draws (nI n) (sL m 78 58 (lN k)) = some (nI (dvC (dwC k) n), sL m 78 58 (lN (dwC k))) := by
  have hd := dwC_lt (k := k)
  have hn2 := l_next hk
  generalize dwC k = k2 at hd hn2
  unfold f_X11_draws stL
  rw [gL_sL, hn2, sL_sL]
  dsimp only
  rw [gL_sL, q_nzL h0 hn, l_val hd h0 hn]
/-- what the draws are, as far as it is needed -/
def DR (dwN : Nat → Nat) (dvN : Nat → Nat → Nat) : Prop := (∀ k, dwN k < 2147483648) ∧ (∀ k n, 0 < n → dvN k n < n) ∧ (∀ (m : Mm) (k n : Nat), k < 2147483648 → 0 < n → n < 2147483648 → f_X2_below (nI n) (sL m 126 0 (lN k)) = some (nI (dvN (dwN k) n), sL m 126 0 (lN (dwN k)))) ∧ ∀ (m : Mm) (k n : Nat), k < 2147483648 → 0 < n → n < 2147483648 → f_X11_draws (nI n) (sL m 78 58 (lN k)) = some (nI (dvN (dwN k) n), sL m 78 58 (lN (dwN k)))
theorem DR_ex : ∃ dwN dvN, DR dwN dvN := ⟨dwC, dvC, fun _ => dwC_lt, fun _ _ h => dvC_lt h, fun _ _ _ h1 h2 h3 => c_belowC h1 h2 h3, fun _ _ _ h1 h2 h3 => r_drawsC h1 h2 h3⟩
theorem lvN_lt (hdr : DR dwN dvN) (h : qq.1 < 2147483648) : (lvN dwN dvN Λ qq n).1 < 2147483648 := by
  cases n with
  | zero => exact h
  | succ n =>
    show (lvS dwN dvN Λ (lvN dwN dvN Λ qq n)).1 < _
    unfold lvS
    split
    · exact hdr.1 _
    · split <;> exact hdr.1 _
theorem gI_sL : gI (sL m b i y) c k = gI m c k := rfl
theorem RelC_sL (h : RelC Λ m) : RelC Λ (sL m b i y) := by
  unfold RelC
  simp only [gI_sL]
  exact h
theorem RelR_sL (h : RelR Λ m) : RelR Λ (sL m b i y) := by
  unfold RelR
  simp only [gI_sL]
  exact h
theorem pS_sL : pS a S (sL m b i y) = sL (pS a S m) b i y := rfl
theorem pR_sL : pR Λ S (sL m b i y) = sL (pR Λ S m) b i y := rfl
theorem lv_WT (hdr : DR dwN dvN) (hW : WL1 Λ) (hW2 : WL2 Λ) (h3 : WL3 Λ) (hX : 0 < yX Λ) (hD : 0 < yD Λ) (hT : WT Λ B qq.2) : WT Λ (B + 80) (lvS dwN dvN Λ qq).2 := by
  have h13 := hW.1
  have h160 := hW.2.2.1
  unfold lvS
  split
  · have hx := hdr.2.1 (dwN (dwN qq.1)) _ hX
    refine WT_pf hW hW2 h3 hT ⟨by split <;> omega, fun _ => hx, fun h => ?_, by omega⟩
    split at h <;> omega
  · split
    · have hx := hdr.2.1 (dwN (dwN qq.1)) _ hD
      refine WT_pf hW hW2 h3 hT ⟨by split <;> omega, fun h => ?_, fun _ => hx, by omega⟩
      split at h <;> omega
    · have hx := hdr.2.1 (dwN (dwN qq.1)) 4 (by omega)
      exact WT_pf hW hW2 h3 hT ⟨by omega, fun h => by omega, fun h => by omega, by omega⟩
theorem lvN_WT (hdr : DR dwN dvN) (hW : WL1 Λ) (hW2 : WL2 Λ) (h3 : WL3 Λ) (hX : 0 < yX Λ) (hD : 0 < yD Λ) (hT : WT Λ B qq.2) : ∀ n, WT Λ (B + 80 * n) (lvN dwN dvN Λ qq n).2
  | 0 => hT
  | n + 1 => by
    have ih := lvN_WT hdr hW hW2 h3 hX hD hT n
    have := lv_WT hdr hW hW2 h3 hX hD ih
    rw [show B + 80 * (n + 1) = B + 80 * n + 80 from by omega]
    exact this
theorem c_drawn (hdr : DR dwN dvN) (hC : RelC Λ m) (hW : WL1 Λ) (hW2 : WL2 Λ) (h3 : WL3 Λ) (hX : 0 < yX Λ) (hD : 0 < yD Λ) (hT : WT Λ B qq.2) (hq : qq.1 < 2147483648) (hn : n < 4000) : f_X10_performDrawn t u w v (nI n) (pS 59 qq.2 (sL m 126 0 (lN qq.1))) = some (pS 59 (lvN dwN dvN Λ qq n).2 (sL m 126 0 (lN (lvN dwN dvN Λ qq n).1))) := by
  have h13 := hW.1
  have h160 := hW.2.2.1
  refine lp0 (fun j k => f_X10_performDrawn_L2 t u w v j (nI n) (nI k) (pS 59 (lvN dwN dvN Λ qq k).2 (sL m 126 0 (lN (lvN dwN dvN Λ qq k).1)))) n _ (fun j => ?_) (fun j k hk => ?_) (by omega)
  · simp (maxSteps := 500000) (disch := first | assumption | omega) only [f_X10_performDrawn_L2, q_l0, q_l1, q_l2, q_l3, q_l4, q_l5, q_l6, q_l7, q_l8, q_l9, q_l10, q_l11, q_l12, q_l13, q_l14, q_l15, q_l16, q_l20, q_l21, q_l22, q_l24, q_l25, q_l26, q_l27, q_l28, q_l29, q_l30, q_l31, q_l32, q_l40, q_l48, q_l57, q_l80, q_l97, q_l100, q_l120, q_l122, q_l126, q_l160, q_l200, q_l214, q_l255, q_l256, q_l374, q_l400, q_l999, q_l1000, q_l9999, q_l99, q_l99999, q_nm, q_gd, q_gd2, q_ix, q_lt, q_eq, q_m5a, q_m5b, q_m40b, q_m8a, q_m8b, q_m16b, q_m374b, q_m160b, q_m10a, q_div5, q_rem5, nI_add, q_moe, q_moe2, q_mol, q_mol2, q_mor, q_bd2, q_bd1, q_stI, q_oI0, if_true, if_false, ite_true, ite_false, ↓reduceIte, Nat.lt_irrefl, Nat.not_lt_zero, Nat.add_zero, Nat.zero_add, Nat.reduceEqDiff, Nat.reduceLeDiff, Nat.reduceLT, Nat.reduceAdd, Bool.false_eq_true, and_self, and_false, false_and, true_and, and_true, not_true_eq_false, not_false_eq_true]
  · have hT2 := lvN_WT hdr hW hW2 h3 hX hD hT k
    have hq2 := lvN_lt (Λ := Λ) (n := k) hdr hq
    show _ = f_X10_performDrawn_L2 t u w v j (nI n) (nI (k + 1)) (pS 59 (lvS dwN dvN Λ (lvN dwN dvN Λ qq k)).2 (sL m 126 0 (lN (lvS dwN dvN Λ (lvN dwN dvN Λ qq k)).1)))
    generalize lvN dwN dvN Λ qq k = st0 at hT2 hq2
    have hb8 := hdr.2.1 (dwN st0.1) 8 (by omega)
    have bl : ∀ k' n', k' < 2147483648 → 0 < n' → n' < 2147483648 → f_X2_below (nI n') (pS 59 st0.2 (sL m 126 0 (lN k'))) = some (nI (dvN (dwN k') n'), pS 59 st0.2 (sL m 126 0 (lN (dwN k')))) := fun k' n' a1 a2 a3 => by
      rw [pS_sL, hdr.2.2.1 _ _ _ a1 a2 a3, pS_sL]
    have hC2 : ∀ k', RelC Λ (sL m 126 0 (lN k')) := fun k' => RelC_sL hC
    have c26 : ∀ k', gI (pS 59 st0.2 (sL m 126 0 (lN k'))) 26 2 = nI (yX Λ) := fun k' => by rw [pS_low (by omega), gI_sL]; exact hC.2.2.1
    have c260 : ∀ k', gI (pS 59 st0.2 (sL m 126 0 (lN k'))) 26 0 = nI (yD Λ) := fun k' => by rw [pS_low (by omega), gI_sL]; exact hC.1
    have pfm : ∀ k' vb ob vl, okL Λ vb ob → f_X6_perform 59 (nI vb) (nI ob) vl (pS 59 st0.2 (sL m 126 0 (lN k'))) = some (nI (pf Λ st0.2 vb ob vl).1, pS 59 (pf Λ st0.2 vb ob vl).2 (sL m 126 0 (lN k'))) := fun k' vb ob vl ho => c_perform (by omega) (hC2 k') hW h3 hT2.1 hT2.2.1 ho
    have d1 := hdr.1 (st0.1)
    have d2 := hdr.1 (dwN st0.1)
    have d3 := hdr.1 (dwN (dwN st0.1))
    have xX := hdr.2.1 (dwN (dwN st0.1)) _ hX
    have xD := hdr.2.1 (dwN (dwN st0.1)) _ hD
    have x4 := hdr.2.1 (dwN (dwN st0.1)) 4 (by omega)
    have x256 := hdr.2.1 (dwN (dwN (dwN st0.1))) 256 (by omega)
    have z0 : (0 : Int32) = nI 0 := q_l0
    unfold lvS
    simp only [f_X10_performDrawn_L2]
    rw [if_pos ((q_ltp (by omega) (by omega)).mpr hk), q_l8, bl _ 8 hq2 (by omega) (by omega), q_bd2]
    by_cases p1 : dvN (dwN st0.1) 8 < 5
    · have p1' : ¬ nI 4 < nI (dvN (dwN st0.1) 8) := fun h => by have := (q_ltp (by omega) (by omega)).mp h; omega
      rw [if_pos p1, q_l4, if_neg p1', c26, bl _ _ d1 hX (by omega), q_bd2, q_l256, bl _ 256 d2 (by omega) (by omega), q_bd2]
      by_cases p2 : dvN (dwN st0.1) 8 < 3
      · have p2' : ¬ nI 2 < nI (dvN (dwN st0.1) 8) := fun h => by have := (q_ltp (by omega) (by omega)).mp h; omega
        have e := pfm (dwN (dwN (dwN st0.1))) 0 (dvN (dwN (dwN st0.1)) (yX Λ)) (nI (dvN (dwN (dwN (dwN st0.1))) 256)) ⟨by omega, fun _ => xX, fun h => by omega, by omega⟩
        rw [if_pos p2, q_l2, if_neg p2', q_l0, e, q_bd2, q_l1, nI_add]
      · have p2' : nI 2 < nI (dvN (dwN st0.1) 8) := (q_ltp (by omega) (by omega)).mpr (by omega)
        have e := pfm (dwN (dwN (dwN st0.1))) 1 (dvN (dwN (dwN st0.1)) (yX Λ)) (nI (dvN (dwN (dwN (dwN st0.1))) 256)) ⟨by omega, fun _ => xX, fun h => by omega, by omega⟩
        rw [if_neg p2, q_l2, if_pos p2', q_l1, e, q_bd2, nI_add]
    · have p1' : nI 4 < nI (dvN (dwN st0.1) 8) := (q_ltp (by omega) (by omega)).mpr (by omega)
      rw [if_neg p1, q_l4, if_pos p1']
      by_cases p2 : dvN (dwN st0.1) 8 < 7
      · have p2' : ¬ nI 6 < nI (dvN (dwN st0.1) 8) := fun h => by have := (q_ltp (by omega) (by omega)).mp h; omega
        rw [if_pos p2, q_l6, if_neg p2', q_l5]
        unfold f_X10_performDrawn_J91
        by_cases p3 : dvN (dwN st0.1) 8 = 5
        · have e := pfm (dwN (dwN st0.1)) 2 (dvN (dwN (dwN st0.1)) (yD Λ)) (nI 0) ⟨by omega, fun h => by omega, fun _ => xD, by omega⟩
          rw [if_pos p3, if_pos (by rw [p3]), c260, bl _ _ d1 hD (by omega), q_bd2, q_l2, q_l0, e, q_bd2, q_l1, nI_add]
        · have p3' : ¬ nI (dvN (dwN st0.1) 8) = nI 5 := fun h => by
            rw [q_eq (by omega) (by omega)] at h
            exact p3 h
          have e := pfm (dwN (dwN st0.1)) 3 (dvN (dwN (dwN st0.1)) (yD Λ)) (nI 0) ⟨by omega, fun h => by omega, fun _ => xD, by omega⟩
          rw [if_neg p3, if_neg p3', c260, bl _ _ d1 hD (by omega), q_bd2, q_l3, q_l0, e, q_bd2, q_l1, nI_add]
      · have p2' : nI 6 < nI (dvN (dwN st0.1) 8) := (q_ltp (by omega) (by omega)).mpr (by omega)
        have e := pfm (dwN (dwN st0.1)) 4 (dvN (dwN (dwN st0.1)) 4 + 1) (nI 0) ⟨by omega, fun h => by omega, fun h => by omega, by omega⟩
        rw [if_neg p2, q_l6, if_pos p2', bl _ 4 d1 (by omega) (by omega), q_bd2, q_l1, nI_add, q_l0, e, q_bd2, nI_add]
theorem r_lives (hdr : DR dwN dvN) (hR : RelR Λ m) (hW : WL1 Λ) (hW2 : WL2 Λ) (h3 : WL3 Λ) (hX : 0 < yX Λ) (hD : 0 < yD Λ) (hT : WT Λ B qq.2) (hq : qq.1 < 2147483648) : f_X11_lives (pR Λ qq.2 (sL m 78 58 (lN qq.1))) = some (pR Λ (lvS dwN dvN Λ qq).2 (sL m 78 58 (lN (lvS dwN dvN Λ qq).1))) := by
  have h13 := hW.1
  have h160 := hW.2.2.1
  have hb8 := hdr.2.1 (dwN qq.1) 8 (by omega)
  have bl : ∀ k' n', k' < 2147483648 → 0 < n' → n' < 2147483648 → f_X11_draws (nI n') (pR Λ qq.2 (sL m 78 58 (lN k'))) = some (nI (dvN (dwN k') n'), pR Λ qq.2 (sL m 78 58 (lN (dwN k')))) := fun k' n' a1 a2 a3 => by
    rw [pR_sL, hdr.2.2.2 _ _ _ a1 a2 a3, pR_sL]
  have hR2 : ∀ k', RelR Λ (sL m 78 58 (lN k')) := fun k' => RelR_sL hR
  have c26 : ∀ k', gI (pR Λ qq.2 (sL m 78 58 (lN k'))) 108 0 = nI (yX Λ) := fun k' => by rw [pR_oth (by omega), gI_sL]; exact hR.2.2.1
  have c260 : ∀ k', gI (pR Λ qq.2 (sL m 78 58 (lN k'))) 80 0 = nI (yD Λ) := fun k' => by rw [pR_oth (by omega), gI_sL]; exact hR.1
  have pfm : ∀ k' vb ob vl, okL Λ vb ob → f_X11_isDone (nI vb) (nI ob) vl (pR Λ qq.2 (sL m 78 58 (lN k'))) = some (nI (pf Λ qq.2 vb ob vl).1, pR Λ (pf Λ qq.2 vb ob vl).2 (sL m 78 58 (lN k'))) := fun k' vb ob vl ho => r_isDone (hR2 k') hW h3 hT.1 hT.2.1 ho
  have rbm : ∀ k' ob, ob < 2147483648 → f_X11_rebuilds (nI ob) (pR Λ qq.2 (sL m 78 58 (lN k'))) = some (nI (rbL Λ qq.2 ob (yS Λ)).1, pR Λ (rbL Λ qq.2 ob (yS Λ)).2 (sL m 78 58 (lN k'))) := fun k' ob ho => r_rebuilds (hR2 k') hW hT.1 hT.2.1 ho
  have d1 := hdr.1 (qq.1)
  have d2 := hdr.1 (dwN qq.1)
  have d3 := hdr.1 (dwN (dwN qq.1))
  have xX := hdr.2.1 (dwN (dwN qq.1)) _ hX
  have xD := hdr.2.1 (dwN (dwN qq.1)) _ hD
  have x4 := hdr.2.1 (dwN (dwN qq.1)) 4 (by omega)
  have x256 := hdr.2.1 (dwN (dwN (dwN qq.1))) 256 (by omega)
  unfold lvS f_X11_lives
  rw [q_l8, bl _ 8 hq (by omega) (by omega), q_bd2, q_l5]
  by_cases p1 : dvN (dwN qq.1) 8 < 5
  · rw [if_pos p1, if_pos ((q_ltp (by omega) (by omega)).mpr p1), show ix (0 : Int32) = 0 from rfl, c26, bl _ _ d1 hX (by omega), q_bd2, q_l3]
    by_cases p2 : dvN (dwN qq.1) 8 < 3
    · have e := pfm (dwN (dwN (dwN qq.1))) 0 (dvN (dwN (dwN qq.1)) (yX Λ)) (nI (dvN (dwN (dwN (dwN qq.1))) 256)) ⟨by omega, fun _ => xX, fun h => by omega, by omega⟩
      rw [if_pos p2, if_pos ((q_ltp (by omega) (by omega)).mpr p2), q_l256, bl _ 256 d2 (by omega) (by omega), q_bd2, q_l0, e, q_bd2]
    · have e := pfm (dwN (dwN (dwN qq.1))) 1 (dvN (dwN (dwN qq.1)) (yX Λ)) (nI (dvN (dwN (dwN (dwN qq.1))) 256)) ⟨by omega, fun _ => xX, fun h => by omega, by omega⟩
      rw [if_neg p2, if_neg (fun h => p2 ((q_ltp (by omega) (by omega)).mp h)), q_l256, bl _ 256 d2 (by omega) (by omega), q_bd2, q_l1, e, q_bd2]
  · rw [if_neg p1, if_neg (fun h => p1 ((q_ltp (by omega) (by omega)).mp h)), q_l7]
    by_cases p2 : dvN (dwN qq.1) 8 < 7
    · rw [if_pos p2, if_pos ((q_ltp (by omega) (by omega)).mpr p2)]
      unfold f_X11_lives_J66
      by_cases p3 : dvN (dwN qq.1) 8 = 5
      · have e := pfm (dwN (dwN qq.1)) 2 (dvN (dwN (dwN qq.1)) (yD Λ)) (nI 0) ⟨by omega, fun h => by omega, fun _ => xD, by omega⟩
        rw [if_pos p3, if_pos (by rw [p3]), show ix (0 : Int32) = 0 from rfl, c260, bl _ _ d1 hD (by omega), q_bd2, q_l2, q_l0, e, q_bd2]
      · have p3' : ¬ nI (dvN (dwN qq.1) 8) = nI 5 := fun h => by
          rw [q_eq (by omega) (by omega)] at h
          exact p3 h
        have e := pfm (dwN (dwN qq.1)) 3 (dvN (dwN (dwN qq.1)) (yD Λ)) (nI 0) ⟨by omega, fun h => by omega, fun _ => xD, by omega⟩
        rw [if_neg p3, if_neg p3', show ix (0 : Int32) = 0 from rfl, c260, bl _ _ d1 hD (by omega), q_bd2, q_l3, q_l0, e, q_bd2]
    · have e := rbm (dwN (dwN qq.1)) (dvN (dwN (dwN qq.1)) 4 + 1) (by omega)
      have epf : (pf Λ qq.2 4 (dvN (dwN (dwN qq.1)) 4 + 1) (nI 0)).2 = (rbL Λ qq.2 (dvN (dwN (dwN qq.1)) 4 + 1) (yS Λ)).2 := by
        unfold pf
        rw [if_neg (by omega), if_neg (by omega), if_neg (by omega), if_neg (by omega), if_pos rfl]
      rw [if_neg p2, if_neg (fun h => p2 ((q_ltp (by omega) (by omega)).mp h)), q_l4, bl _ 4 d1 (by omega) (by omega), q_bd2, q_l1, nI_add, e, q_bd2, epf]
end Lds
