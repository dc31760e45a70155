def f_X7_endOfRun_L5 : Nat → Int32 → Int32 → Int32 →  Mm → Option (Int32 × Mm)
  | 0, _, _, _, _ => none
  | k + 1, v1, v2, v3, m => (if v3 < (gI m 1 1) then gd (inb v3 1000) ((if (gI m 2 (ix v3)) < v1 then some (v3, m) else gd (inb v3 1000) ((if v2 < (gI m 2 (ix v3)) then some (v3, m) else f_X7_endOfRun_L5 k v1 v2 (v3 + (1 : Int32)) m)))) else some (v3, m))
theorem t_X7_endOfRun_L5 {X : XX} {G : GG} {ρ : Nat → Nat} {n t u w v : Nat} {x : Option Nat} {d : Nat} (hX : Ok X G ρ cX7_endOfRun 4 RX7 d) (hd0 : 0 ≤ d) (hn : 126 ≤ n) {rE : Int32} {mE : Mm} (hF : Fin' X G ρ n (some .int) (some (.int rE)) (RT t u w v x) mE) : ∀ (k : Nat) (v1 : Int32) (v2 : Int32) (v3 : Int32) (m : Mm), f_X7_endOfRun_L5 k v1 v2 v3 m = some (rE, mE) → J X G ρ n 4 5 [(0, .ref 1), (1, .int v1), (2, .int v2), (3, .int v3)] [] (RT t u w v x) m := by
  intro k
  induction k with
  | zero => intro _ _ _ _ h; rw [f_X7_endOfRun_L5] at h; cases h
  | succ k ih =>
    intro v1 v2 v3 m h
    rw [f_X7_endOfRun_L5] at h
    refine J_iload_n hX dX7_endOfRun_5 rfl 3 rfl ?_
    refine J_aload_n hX dX7_endOfRun_6 rfl 0 rfl ?_
    refine J_getI hX dX7_endOfRun_7 fl_RX7_15 (ltn ltc_1 hn) lo_1 rfl ?_
    refine J_icmp_ge hX 39 dX7_endOfRun_10 (by decide) h (fun c h => ?_) (fun c h => ?_)
    · refine J_aload_n hX dX7_endOfRun_13 rfl 0 rfl ?_
      refine J_getR hX dX7_endOfRun_14 fl_RX7_9 (ltn ltc_1 hn) lo_1 rfl (rt_1_0 _ _ _ _ _) ?_
      refine J_iload_n hX dX7_endOfRun_17 rfl 3 rfl ?_
      refine J_caload hX dX7_endOfRun_18 (ltn ltc_2 hn) lay_2 h (fun h => ?_)
      refine J_iload_n hX dX7_endOfRun_19 rfl 1 rfl ?_
      refine J_icmp_lt hX 39 dX7_endOfRun_20 (by decide) h (fun c h => ?_) (fun c h => ?_)
      · refine J_iload_n hX dX7_endOfRun_39 rfl 3 rfl ?_
        exact J_ireturn hX dX7_endOfRun_40 h hF rfl
      · refine J_aload_n hX dX7_endOfRun_23 rfl 0 rfl ?_
        refine J_getR hX dX7_endOfRun_24 fl_RX7_9 (ltn ltc_1 hn) lo_1 rfl (rt_1_0 _ _ _ _ _) ?_
        refine J_iload_n hX dX7_endOfRun_27 rfl 3 rfl ?_
        refine J_caload hX dX7_endOfRun_28 (ltn ltc_2 hn) lay_2 h (fun h => ?_)
        refine J_iload_n hX dX7_endOfRun_29 rfl 2 rfl ?_
        refine J_icmp_gt hX 39 dX7_endOfRun_30 (by decide) h (fun c h => ?_) (fun c h => ?_)
        · refine J_iload_n hX dX7_endOfRun_39 rfl 3 rfl ?_
          exact J_ireturn hX dX7_endOfRun_40 h hF rfl
        · refine J_iinc hX (v3 + (1 : Int32)) [(3, .int (v3 + (1 : Int32))), (0, .ref 1), (1, .int v1), (2, .int v2)] dX7_endOfRun_33 3 rfl (congrArg (fun z => v3 + z) ic_1) (by decide) rfl ?_
          refine J_goto hX 5 dX7_endOfRun_36 (by decide) ?_
          refine J_sub [(0, .ref 1), (1, .int v1), (2, .int v2), (3, .int (v3 + (1 : Int32)))] [1, 2, 3, 0] rfl ?_
          exact ih v1 v2 (v3 + (1 : Int32)) m h
    · refine J_iload_n hX dX7_endOfRun_39 rfl 3 rfl ?_
      exact J_ireturn hX dX7_endOfRun_40 h hF rfl
def f_X7_endOfRun (x1 : Int32) (x2 : Int32) (m : Mm) : Option (Int32 × Mm) := f_X7_endOfRun_L5 FU x1 x2 (gI m 1 3)  m
theorem t_X7_endOfRun {X : XX} {G : GG} {ρ : Nat → Nat} {n t u w v : Nat} {x : Option Nat} {d : Nat} (hX : Ok X G ρ cX7_endOfRun 4 RX7 d) (hd0 : 0 ≤ d) (hn : 126 ≤ n) {rE : Int32} {mE : Mm} (hF : Fin' X G ρ n (some .int) (some (.int rE)) (RT t u w v x) mE) {x1 : Int32} {x2 : Int32} {m : Mm} (h : f_X7_endOfRun x1 x2 m = some (rE, mE)) : J X G ρ n 4 0 [(0, .ref 1), (1, .int x1), (2, .int x2)] [] (RT t u w v x) m := by
  unfold f_X7_endOfRun at h
  refine J_aload_n hX dX7_endOfRun_0 rfl 0 rfl ?_
  refine J_getI hX dX7_endOfRun_1 fl_RX7_28 (ltn ltc_1 hn) lo_1 rfl ?_
  refine J_istore_n hX [(3, .int (gI m 1 3)), (0, .ref 1), (1, .int x1), (2, .int x2)] dX7_endOfRun_4 rfl (by decide) rfl ?_
  refine J_sub [(0, .ref 1), (1, .int x1), (2, .int x2), (3, .int (gI m 1 3))] [1, 2, 3, 0] rfl ?_
  exact t_X7_endOfRun_L5 hX hd0 hn hF FU x1 x2 (gI m 1 3)  m h
theorem c_X7_endOfRun {G : GG} {l : Launch} {ρ : Nat → Nat} {n t u w v : Nat} {x : Option Nat} (hn : 126 ≤ n) {x1 : Int32} {x2 : Int32} {m : Mm} {rE : Int32} {mE : Mm} (h : f_X7_endOfRun x1 x2 m = some (rE, mE)) : CT G l yX7_endOfRun cX7_endOfRun 4 (some .int) 0 0 0 ρ n (RT t u w v x) [.ref 1, .int x1, .int x2] m (some (.int rE)) (RT t u w v x) mE := ct_of_J (by decide) rfl (Nat.le_of_ble_eq_true rfl) (fun X hX e1 e2 e3 e4 hQ hr hl => t_X7_endOfRun hX (Nat.le_refl _) hn ⟨by rw [hQ, e3, e4], hr, hl⟩ h)
def f_X7_readNumber_L5 : Nat → Int32 →  Mm → Option (Mm)
  | 0, _, _ => none
  | k + 1, v1, m => (if v1 < (gI m 1 4) then (if (gI m 1 2) = (3 : Int32) then gd (inb v1 1000) (stI m 1 5 ((((gI m 1 5) * (10 : Int32)) + (gI m 2 (ix v1))) - (48 : Int32)) (fun m1 => f_X7_readNumber_L5 k (v1 + (1 : Int32)) m1)) else some m) else some m)
theorem t_X7_readNumber_L5 {X : XX} {G : GG} {ρ : Nat → Nat} {n t u w v : Nat} {x : Option Nat} {d : Nat} (hX : Ok X G ρ cX7_readNumber 2 RX7 d) (hd0 : 0 ≤ d) (hn : 126 ≤ n) {mE : Mm} (hF : Fin' X G ρ n none none (RT t u w v x) mE) : ∀ (k : Nat) (v1 : Int32) (m : Mm), f_X7_readNumber_L5 k v1 m = some mE → J X G ρ n 2 5 [(0, .ref 1), (1, .int v1)] [] (RT t u w v x) m := by
  intro k
  induction k with
  | zero => intro _ _ h; rw [f_X7_readNumber_L5] at h; cases h
  | succ k ih =>
    intro v1 m h
    rw [f_X7_readNumber_L5] at h
    refine J_iload_n hX dX7_readNumber_5 rfl 1 rfl ?_
    refine J_aload_n hX dX7_readNumber_6 rfl 0 rfl ?_
    refine J_getI hX dX7_readNumber_7 fl_RX7_22 (ltn ltc_1 hn) lo_1 rfl ?_
    refine J_icmp_ge hX 48 dX7_readNumber_10 (by decide) h (fun c h => ?_) (fun c h => ?_)
    · refine J_aload_n hX dX7_readNumber_13 rfl 0 rfl ?_
      refine J_getI hX dX7_readNumber_14 fl_RX7_34 (ltn ltc_1 hn) lo_1 rfl ?_
      refine J_iconst hX (3 : Int32) dX7_readNumber_17 ic_3 ?_
      refine J_icmp_ne hX 48 dX7_readNumber_18 (by decide) h (fun c h => ?_) (fun c h => ?_)
      · refine J_aload_n hX dX7_readNumber_21 rfl 0 rfl ?_
        refine J_aload_n hX dX7_readNumber_22 rfl 0 rfl ?_
        refine J_getI hX dX7_readNumber_23 fl_RX7_31 (ltn ltc_1 hn) lo_1 rfl ?_
        refine J_bipush hX (10 : Int32) dX7_readNumber_26 (by decide) ?_
        refine J_imul hX dX7_readNumber_28 ?_
        refine J_aload_n hX dX7_readNumber_29 rfl 0 rfl ?_
        refine J_getR hX dX7_readNumber_30 fl_RX7_9 (ltn ltc_1 hn) lo_1 rfl (rt_1_0 _ _ _ _ _) ?_
        refine J_iload_n hX dX7_readNumber_33 rfl 1 rfl ?_
        refine J_caload hX dX7_readNumber_34 (ltn ltc_2 hn) lay_2 h (fun h => ?_)
        refine J_iadd hX dX7_readNumber_35 ?_
        refine J_bipush hX (48 : Int32) dX7_readNumber_36 (by decide) ?_
        refine J_isub hX dX7_readNumber_38 ?_
        refine J_putI hX dX7_readNumber_39 pl_RX7_31 (ltn ltc_1 hn) lo_1 rfl rfl rfl h (fun m1 h => ?_)
        refine J_iinc hX (v1 + (1 : Int32)) [(1, .int (v1 + (1 : Int32))), (0, .ref 1)] dX7_readNumber_42 1 rfl (congrArg (fun z => v1 + z) ic_1) (by decide) rfl ?_
        refine J_goto hX 5 dX7_readNumber_45 (by decide) ?_
        refine J_sub [(0, .ref 1), (1, .int (v1 + (1 : Int32)))] [1, 0] rfl ?_
        exact ih (v1 + (1 : Int32)) m1 h
      · exact J_return hX dX7_readNumber_48 h hF
    · exact J_return hX dX7_readNumber_48 h hF
def f_X7_readNumber (m : Mm) : Option (Mm) := f_X7_readNumber_L5 FU (gI m 1 3)  m
theorem t_X7_readNumber {X : XX} {G : GG} {ρ : Nat → Nat} {n t u w v : Nat} {x : Option Nat} {d : Nat} (hX : Ok X G ρ cX7_readNumber 2 RX7 d) (hd0 : 0 ≤ d) (hn : 126 ≤ n) {mE : Mm} (hF : Fin' X G ρ n none none (RT t u w v x) mE) {m : Mm} (h : f_X7_readNumber m = some mE) : J X G ρ n 2 0 [(0, .ref 1)] [] (RT t u w v x) m := by
  unfold f_X7_readNumber at h
  refine J_aload_n hX dX7_readNumber_0 rfl 0 rfl ?_
  refine J_getI hX dX7_readNumber_1 fl_RX7_28 (ltn ltc_1 hn) lo_1 rfl ?_
  refine J_istore_n hX [(1, .int (gI m 1 3)), (0, .ref 1)] dX7_readNumber_4 rfl (by decide) rfl ?_
  refine J_sub [(0, .ref 1), (1, .int (gI m 1 3))] [1, 0] rfl ?_
  exact t_X7_readNumber_L5 hX hd0 hn hF FU (gI m 1 3)  m h
theorem c_X7_readNumber {G : GG} {l : Launch} {ρ : Nat → Nat} {n t u w v : Nat} {x : Option Nat} (hn : 126 ≤ n) {m : Mm} {mE : Mm} (h : f_X7_readNumber m = some mE) : CT G l yX7_readNumber cX7_readNumber 2 none 0 0 0 ρ n (RT t u w v x) [.ref 1] m none (RT t u w v x) mE := ct_of_J (by decide) rfl (Nat.le_of_ble_eq_true rfl) (fun X hX e1 e2 e3 e4 hQ hr hl => t_X7_readNumber hX (Nat.le_refl _) hn ⟨by rw [hQ, e3, e4], hr, hl⟩ h)
def f_X7_fail (x1 : Int32) (m : Mm) : Option (Mm) := (if (gI m 1 6) = 0 then stI m 1 6 (x1 + ((16 : Int32) * (gI m 1 3))) (fun m1 => some m1) else some m)
theorem t_X7_fail {X : XX} {G : GG} {ρ : Nat → Nat} {n t u w v : Nat} {x : Option Nat} {d : Nat} (hX : Ok X G ρ cX7_fail 2 RX7 d) (hd0 : 0 ≤ d) (hn : 126 ≤ n) {mE : Mm} (hF : Fin' X G ρ n none none (RT t u w v x) mE) {x1 : Int32} {m : Mm} (h : f_X7_fail x1 m = some mE) : J X G ρ n 2 0 [(0, .ref 1), (1, .int x1)] [] (RT t u w v x) m := by
  unfold f_X7_fail at h
  refine J_aload_n hX dX7_fail_0 rfl 0 rfl ?_
  refine J_getI hX dX7_fail_1 fl_RX7_19 (ltn ltc_1 hn) lo_1 rfl ?_
  refine J_if_ne hX 20 dX7_fail_4 (by decide) h (fun c h => ?_) (fun c h => ?_)
  · refine J_aload_n hX dX7_fail_7 rfl 0 rfl ?_
    refine J_iload_n hX dX7_fail_8 rfl 1 rfl ?_
    refine J_bipush hX (16 : Int32) dX7_fail_9 (by decide) ?_
    refine J_aload_n hX dX7_fail_11 rfl 0 rfl ?_
    refine J_getI hX dX7_fail_12 fl_RX7_28 (ltn ltc_1 hn) lo_1 rfl ?_
    refine J_imul hX dX7_fail_15 ?_
    refine J_iadd hX dX7_fail_16 ?_
    refine J_putI hX dX7_fail_17 pl_RX7_19 (ltn ltc_1 hn) lo_1 rfl rfl rfl h (fun m1 h => ?_)
    exact J_return hX dX7_fail_20 h hF
  · exact J_return hX dX7_fail_20 h hF
theorem c_X7_fail {G : GG} {l : Launch} {ρ : Nat → Nat} {n t u w v : Nat} {x : Option Nat} (hn : 126 ≤ n) {x1 : Int32} {m : Mm} {mE : Mm} (h : f_X7_fail x1 m = some mE) : CT G l yX7_fail cX7_fail 2 none 0 0 0 ρ n (RT t u w v x) [.ref 1, .int x1] m none (RT t u w v x) mE := ct_of_J (by decide) rfl (Nat.le_of_ble_eq_true rfl) (fun X hX e1 e2 e3 e4 hQ hr hl => t_X7_fail hX (Nat.le_refl _) hn ⟨by rw [hQ, e3, e4], hr, hl⟩ h)
def f_X7_isSign (x1 : Int32) (m : Mm) : Option (Int32 × Mm) := (if (gI m 1 2) = (4 : Int32) then gd (inb (gI m 1 3) 1000) ((if (gI m 2 (ix (gI m 1 3))) = x1 then some ((1 : Int32), m) else some ((0 : Int32), m))) else some ((0 : Int32), m))
theorem t_X7_isSign {X : XX} {G : GG} {ρ : Nat → Nat} {n t u w v : Nat} {x : Option Nat} {d : Nat} (hX : Ok X G ρ cX7_isSign 2 RX7 d) (hd0 : 0 ≤ d) (hn : 126 ≤ n) {rE : Int32} {mE : Mm} (hF : Fin' X G ρ n (some .boolean) (some (.int rE)) (RT t u w v x) mE) {x1 : Int32} {m : Mm} (h : f_X7_isSign x1 m = some (rE, mE)) : J X G ρ n 2 0 [(0, .ref 1), (1, .int x1)] [] (RT t u w v x) m := by
  unfold f_X7_isSign at h
  refine J_aload_n hX dX7_isSign_0 rfl 0 rfl ?_
  refine J_getI hX dX7_isSign_1 fl_RX7_34 (ltn ltc_1 hn) lo_1 rfl ?_
  refine J_iconst hX (4 : Int32) dX7_isSign_4 ic_4 ?_
  refine J_icmp_ne hX 25 dX7_isSign_5 (by decide) h (fun c h => ?_) (fun c h => ?_)
  · refine J_aload_n hX dX7_isSign_8 rfl 0 rfl ?_
    refine J_getR hX dX7_isSign_9 fl_RX7_9 (ltn ltc_1 hn) lo_1 rfl (rt_1_0 _ _ _ _ _) ?_
    refine J_aload_n hX dX7_isSign_12 rfl 0 rfl ?_
    refine J_getI hX dX7_isSign_13 fl_RX7_28 (ltn ltc_1 hn) lo_1 rfl ?_
    refine J_caload hX dX7_isSign_16 (ltn ltc_2 hn) lay_2 h (fun h => ?_)
    refine J_iload_n hX dX7_isSign_17 rfl 1 rfl ?_
    refine J_icmp_ne hX 25 dX7_isSign_18 (by decide) h (fun c h => ?_) (fun c h => ?_)
    · refine J_iconst hX (1 : Int32) dX7_isSign_21 ic_1 ?_
      refine J_goto hX 26 dX7_isSign_22 (by decide) ?_
      exact J_ireturn hX dX7_isSign_26 h hF narrow_b1
    · refine J_iconst hX (0 : Int32) dX7_isSign_25 ic_0 ?_
      exact J_ireturn hX dX7_isSign_26 h hF narrow_b0
  · refine J_iconst hX (0 : Int32) dX7_isSign_25 ic_0 ?_
    exact J_ireturn hX dX7_isSign_26 h hF narrow_b0
theorem c_X7_isSign {G : GG} {l : Launch} {ρ : Nat → Nat} {n t u w v : Nat} {x : Option Nat} (hn : 126 ≤ n) {x1 : Int32} {m : Mm} {rE : Int32} {mE : Mm} (h : f_X7_isSign x1 m = some (rE, mE)) : CT G l yX7_isSign cX7_isSign 2 (some .boolean) 0 0 0 ρ n (RT t u w v x) [.ref 1, .int x1] m (some (.int rE)) (RT t u w v x) mE := ct_of_J (by decide) rfl (Nat.le_of_ble_eq_true rfl) (fun X hX e1 e2 e3 e4 hQ hr hl => t_X7_isSign hX (Nat.le_refl _) hn ⟨by rw [hQ, e3, e4], hr, hl⟩ h)
def f_X8_bitsOf_L4 (a : Nat) : Nat → Int32 → Int32 → Int32 →  Mm → Option (Int32 × Mm)
  | 0, _, _, _, _ => none
  | k + 1, v1, v2, v3, m => gd (inb v1 6) ((if v3 < (gI m (a + 2) (ix v1)) then gd (inb ((v1 * (5 : Int32)) + v3) 30) (f_X8_bitsOf_L4 a k v1 (v2 ||| ((1 : Int32) <<< ((gI m (a + 3) (ix ((v1 * (5 : Int32)) + v3))) &&& 31))) (v3 + (1 : Int32)) m) else some (v2, m)))
theorem t_X8_bitsOf_L4 {X : XX} {G : GG} {ρ : Nat → Nat} {n t u w v : Nat} {x : Option Nat} {d : Nat} {a : Nat} (hX : Ok X G ρ cX8_bitsOf 4 RX8 d) (hd0 : 0 ≤ d) (hn : 126 ≤ n) (ha : isTo a) {rE : Int32} {mE : Mm} (hF : Fin' X G ρ n (some .int) (some (.int rE)) (RT t u w v x) mE) : ∀ (k : Nat) (v1 : Int32) (v2 : Int32) (v3 : Int32) (m : Mm), f_X8_bitsOf_L4 a k v1 v2 v3 m = some (rE, mE) → J X G ρ n 4 4 [(0, .ref a), (1, .int v1), (2, .int v2), (3, .int v3)] [] (RT t u w v x) m := by
  intro k
  induction k with
  | zero => intro _ _ _ _ h; rw [f_X8_bitsOf_L4] at h; cases h
  | succ k ih =>
    intro v1 v2 v3 m h
    rw [f_X8_bitsOf_L4] at h
    refine J_iload_n hX dX8_bitsOf_4 rfl 3 rfl ?_
    refine J_aload_n hX dX8_bitsOf_5 rfl 0 rfl ?_
    refine J_getR hX dX8_bitsOf_6 fl_RX8_15 (ltn (lt_isTo_0 ha) hn) (lo_isTo_0 ha) rfl (rt_isTo_0_4 _ _ _ _ _ ha) ?_
    refine J_iload_n hX dX8_bitsOf_9 rfl 1 rfl ?_
    refine J_iaload hX dX8_bitsOf_10 (ltn (lt_isTo_2 ha) hn) (lay_isTo_2 ha) h (fun h => ?_)
    refine J_icmp_ge hX 35 dX8_bitsOf_11 (by decide) h (fun c h => ?_) (fun c h => ?_)
    · refine J_iload_n hX dX8_bitsOf_14 rfl 2 rfl ?_
      refine J_iconst hX (1 : Int32) dX8_bitsOf_15 ic_1 ?_
      refine J_aload_n hX dX8_bitsOf_16 rfl 0 rfl ?_
      refine J_getR hX dX8_bitsOf_17 fl_RX8_18 (ltn (lt_isTo_0 ha) hn) (lo_isTo_0 ha) rfl (rt_isTo_0_5 _ _ _ _ _ ha) ?_
      refine J_iload_n hX dX8_bitsOf_20 rfl 1 rfl ?_
      refine J_iconst hX (5 : Int32) dX8_bitsOf_21 ic_5 ?_
      refine J_imul hX dX8_bitsOf_22 ?_
      refine J_iload_n hX dX8_bitsOf_23 rfl 3 rfl ?_
      refine J_iadd hX dX8_bitsOf_24 ?_
      refine J_iaload hX dX8_bitsOf_25 (ltn (lt_isTo_3 ha) hn) (lay_isTo_3 ha) h (fun h => ?_)
      refine J_ishl hX dX8_bitsOf_26 ?_
      refine J_ior hX dX8_bitsOf_27 ?_
      refine J_istore_n hX [(2, .int (v2 ||| ((1 : Int32) <<< ((gI m (a + 3) (ix ((v1 * (5 : Int32)) + v3))) &&& 31)))), (0, .ref a), (1, .int v1), (3, .int v3)] dX8_bitsOf_28 rfl (by decide) rfl ?_
      refine J_iinc hX (v3 + (1 : Int32)) [(3, .int (v3 + (1 : Int32))), (2, .int (v2 ||| ((1 : Int32) <<< ((gI m (a + 3) (ix ((v1 * (5 : Int32)) + v3))) &&& 31)))), (0, .ref a), (1, .int v1)] dX8_bitsOf_29 3 rfl (congrArg (fun z => v3 + z) ic_1) (by decide) rfl ?_
      refine J_goto hX 4 dX8_bitsOf_32 (by decide) ?_
      refine J_sub [(0, .ref a), (1, .int v1), (2, .int (v2 ||| ((1 : Int32) <<< ((gI m (a + 3) (ix ((v1 * (5 : Int32)) + v3))) &&& 31)))), (3, .int (v3 + (1 : Int32)))] [2, 3, 1, 0] rfl ?_
      exact ih v1 (v2 ||| ((1 : Int32) <<< ((gI m (a + 3) (ix ((v1 * (5 : Int32)) + v3))) &&& 31))) (v3 + (1 : Int32)) m h
    · refine J_iload_n hX dX8_bitsOf_35 rfl 2 rfl ?_
      exact J_ireturn hX dX8_bitsOf_36 h hF rfl
def f_X8_bitsOf (a : Nat) (x1 : Int32) (m : Mm) : Option (Int32 × Mm) := f_X8_bitsOf_L4 a FU x1 (0 : Int32) (0 : Int32)  m
theorem t_X8_bitsOf {X : XX} {G : GG} {ρ : Nat → Nat} {n t u w v : Nat} {x : Option Nat} {d : Nat} {a : Nat} (hX : Ok X G ρ cX8_bitsOf 4 RX8 d) (hd0 : 0 ≤ d) (hn : 126 ≤ n) (ha : isTo a) {rE : Int32} {mE : Mm} (hF : Fin' X G ρ n (some .int) (some (.int rE)) (RT t u w v x) mE) {x1 : Int32} {m : Mm} (h : f_X8_bitsOf a x1 m = some (rE, mE)) : J X G ρ n 4 0 [(0, .ref a), (1, .int x1)] [] (RT t u w v x) m := by
  unfold f_X8_bitsOf at h
  refine J_iconst hX (0 : Int32) dX8_bitsOf_0 ic_0 ?_
  refine J_istore_n hX [(2, .int (0 : Int32)), (0, .ref a), (1, .int x1)] dX8_bitsOf_1 rfl (by decide) rfl ?_
  refine J_iconst hX (0 : Int32) dX8_bitsOf_2 ic_0 ?_
  refine J_istore_n hX [(3, .int (0 : Int32)), (2, .int (0 : Int32)), (0, .ref a), (1, .int x1)] dX8_bitsOf_3 rfl (by decide) rfl ?_
  refine J_sub [(0, .ref a), (1, .int x1), (2, .int (0 : Int32)), (3, .int (0 : Int32))] [2, 3, 1, 0] rfl ?_
  exact t_X8_bitsOf_L4 hX hd0 hn ha hF FU x1 (0 : Int32) (0 : Int32)  m h
theorem c_X8_bitsOf {G : GG} {l : Launch} {ρ : Nat → Nat} {n t u w v : Nat} {x : Option Nat} (hn : 126 ≤ n) {a : Nat} (ha : isTo a) {x1 : Int32} {m : Mm} {rE : Int32} {mE : Mm} (h : f_X8_bitsOf a x1 m = some (rE, mE)) : CT G l yX8_bitsOf cX8_bitsOf 4 (some .int) 0 0 0 ρ n (RT t u w v x) [.ref a, .int x1] m (some (.int rE)) (RT t u w v x) mE := ct_of_J (by decide) rfl (Nat.le_of_ble_eq_true rfl) (fun X hX e1 e2 e3 e4 hQ hr hl => t_X8_bitsOf hX (Nat.le_refl _) hn ha ⟨by rw [hQ, e3, e4], hr, hl⟩ h)
def f_X8_stripesOf (a : Nat) (x1 : Int32) (x2 : Int32) (m : Mm) : Option (Int32 × Mm) := gd (inb x1 6) ((if (gI m (a + 1) (ix x1)) = (0 : Int32) then some ((1 : Int32), m) else (if (gI m (a + 1) (ix x1)) = (1 : Int32) then some (x2, m) else some ((2 : Int32), m))))
theorem t_X8_stripesOf {X : XX} {G : GG} {ρ : Nat → Nat} {n t u w v : Nat} {x : Option Nat} {d : Nat} {a : Nat} (hX : Ok X G ρ cX8_stripesOf 3 RX8 d) (hd0 : 0 ≤ d) (hn : 126 ≤ n) (ha : isTo a) {rE : Int32} {mE : Mm} (hF : Fin' X G ρ n (some .int) (some (.int rE)) (RT t u w v x) mE) {x1 : Int32} {x2 : Int32} {m : Mm} (h : f_X8_stripesOf a x1 x2 m = some (rE, mE)) : J X G ρ n 3 0 [(0, .ref a), (1, .int x1), (2, .int x2)] [] (RT t u w v x) m := by
  unfold f_X8_stripesOf at h
  refine J_aload_n hX dX8_stripesOf_0 rfl 0 rfl ?_
  refine J_getR hX dX8_stripesOf_1 fl_RX8_9 (ltn (lt_isTo_0 ha) hn) (lo_isTo_0 ha) rfl (rt_isTo_0_3 _ _ _ _ _ ha) ?_
  refine J_iload_n hX dX8_stripesOf_4 rfl 1 rfl ?_
  refine J_iaload hX dX8_stripesOf_5 (ltn (lt_isTo_1 ha) hn) (lay_isTo_1 ha) h (fun h => ?_)
  refine J_split h (fun c0 h => ?_) (fun c0 h => ?_)
  · refine J_look hX 32 dX8_stripesOf_6 (by decide) (by rw [c0]; decide) (by decide) ?_
    refine J_iconst hX (1 : Int32) dX8_stripesOf_32 ic_1 ?_
    exact J_ireturn hX dX8_stripesOf_33 h hF rfl
  · refine J_split h (fun c1 h => ?_) (fun c1 h => ?_)
    · refine J_look hX 34 dX8_stripesOf_6 (by decide) (by rw [c1]; decide) (by decide) ?_
      refine J_iload_n hX dX8_stripesOf_34 rfl 2 rfl ?_
      exact J_ireturn hX dX8_stripesOf_35 h hF rfl
    · refine J_look hX 36 dX8_stripesOf_6 (by decide) (by rw [lv_osw c0 (by decide)]; rw [lv_osw c1 (by decide)]; rfl) (by decide) ?_
      refine J_iconst hX (2 : Int32) dX8_stripesOf_36 ic_2 ?_
      exact J_ireturn hX dX8_stripesOf_37 h hF rfl
theorem c_X8_stripesOf {G : GG} {l : Launch} {ρ : Nat → Nat} {n t u w v : Nat} {x : Option Nat} (hn : 126 ≤ n) {a : Nat} (ha : isTo a) {x1 : Int32} {x2 : Int32} {m : Mm} {rE : Int32} {mE : Mm} (h : f_X8_stripesOf a x1 x2 m = some (rE, mE)) : CT G l yX8_stripesOf cX8_stripesOf 3 (some .int) 0 0 0 ρ n (RT t u w v x) [.ref a, .int x1, .int x2] m (some (.int rE)) (RT t u w v x) mE := ct_of_J (by decide) rfl (Nat.le_of_ble_eq_true rfl) (fun X hX e1 e2 e3 e4 hQ hr hl => t_X8_stripesOf hX (Nat.le_refl _) hn ha ⟨by rw [hQ, e3, e4], hr, hl⟩ h)
def f_X8_stripesOfAll_L5 (a : Nat) : Nat → Int32 → Int32 → Int32 → Int32 →  Mm → Option (Int32 × Mm)
  | 0, _, _, _, _, _ => none
  | k + 1, v1, v2, v3, v4, m => (if v4 < v1 then bd2 (f_X8_stripesOf a v4 v2 m) (fun r2 m1 => f_X8_stripesOfAll_L5 a k v1 v2 (v3 + r2) (v4 + (1 : Int32)) m1) else some (v3, m))
theorem t_X8_stripesOfAll_L5 {X : XX} {G : GG} {ρ : Nat → Nat} {n t u w v : Nat} {x : Option Nat} {d : Nat} {a : Nat} (hX : Ok X G ρ cX8_stripesOfAll 5 RX8 d) (hd0 : 1 ≤ d) (hn : 126 ≤ n) (ha : isTo a) {rE : Int32} {mE : Mm} (hF : Fin' X G ρ n (some .int) (some (.int rE)) (RT t u w v x) mE) : ∀ (k : Nat) (v1 : Int32) (v2 : Int32) (v3 : Int32) (v4 : Int32) (m : Mm), f_X8_stripesOfAll_L5 a k v1 v2 v3 v4 m = some (rE, mE) → J X G ρ n 5 5 [(0, .ref a), (1, .int v1), (2, .int v2), (3, .int v3), (4, .int v4)] [] (RT t u w v x) m := by
  intro k
  induction k with
  | zero => intro _ _ _ _ _ h; rw [f_X8_stripesOfAll_L5] at h; cases h
  | succ k ih =>
    intro v1 v2 v3 v4 m h
    rw [f_X8_stripesOfAll_L5] at h
    refine J_iload hX dX8_stripesOfAll_5 4 rfl ?_
    refine J_iload_n hX dX8_stripesOfAll_7 rfl 1 rfl ?_
    refine J_icmp_ge hX 27 dX8_stripesOfAll_8 (by decide) h (fun c h => ?_) (fun c h => ?_)
    · refine J_iload_n hX dX8_stripesOfAll_11 rfl 3 rfl ?_
      refine J_aload_n hX dX8_stripesOfAll_12 rfl 0 rfl ?_
      refine J_iload hX dX8_stripesOfAll_13 4 rfl ?_
      refine J_iload_n hX dX8_stripesOfAll_15 rfl 2 rfl ?_
      obtain ⟨r2, m1, h0, h⟩ := bd2_some h
      refine J_callVi (As := [.int v4, .int v2]) (st := [.int v3]) hX dX8_stripesOfAll_16 cw_RX8_41 (by omega) (c_X8_stripesOf hn ha h0) (ltn (lt_isTo_0 ha) hn) (lo_isTo_0 ha) (by decide) rfl rfl rfl (Nat.le_of_ble_eq_true rfl) ?_
      clear h0
      refine J_iadd hX dX8_stripesOfAll_19 ?_
      refine J_istore_n hX [(3, .int (v3 + r2)), (0, .ref a), (1, .int v1), (2, .int v2), (4, .int v4)] dX8_stripesOfAll_20 rfl (by decide) rfl ?_
      refine J_iinc hX (v4 + (1 : Int32)) [(4, .int (v4 + (1 : Int32))), (3, .int (v3 + r2)), (0, .ref a), (1, .int v1), (2, .int v2)] dX8_stripesOfAll_21 4 rfl (congrArg (fun z => v4 + z) ic_1) (by decide) rfl ?_
      refine J_goto hX 5 dX8_stripesOfAll_24 (by decide) ?_
      refine J_sub [(0, .ref a), (1, .int v1), (2, .int v2), (3, .int (v3 + r2)), (4, .int (v4 + (1 : Int32)))] [2, 3, 4, 1, 0] rfl ?_
      exact ih v1 v2 (v3 + r2) (v4 + (1 : Int32)) m1 h
    · refine J_iload_n hX dX8_stripesOfAll_27 rfl 3 rfl ?_
      exact J_ireturn hX dX8_stripesOfAll_28 h hF rfl
def f_X8_stripesOfAll (a : Nat) (x1 : Int32) (x2 : Int32) (m : Mm) : Option (Int32 × Mm) := f_X8_stripesOfAll_L5 a FU x1 x2 (0 : Int32) (0 : Int32)  m
theorem t_X8_stripesOfAll {X : XX} {G : GG} {ρ : Nat → Nat} {n t u w v : Nat} {x : Option Nat} {d : Nat} {a : Nat} (hX : Ok X G ρ cX8_stripesOfAll 5 RX8 d) (hd0 : 1 ≤ d) (hn : 126 ≤ n) (ha : isTo a) {rE : Int32} {mE : Mm} (hF : Fin' X G ρ n (some .int) (some (.int rE)) (RT t u w v x) mE) {x1 : Int32} {x2 : Int32} {m : Mm} (h : f_X8_stripesOfAll a x1 x2 m = some (rE, mE)) : J X G ρ n 5 0 [(0, .ref a), (1, .int x1), (2, .int x2)] [] (RT t u w v x) m := by
  unfold f_X8_stripesOfAll at h
  refine J_iconst hX (0 : Int32) dX8_stripesOfAll_0 ic_0 ?_
  refine J_istore_n hX [(3, .int (0 : Int32)), (0, .ref a), (1, .int x1), (2, .int x2)] dX8_stripesOfAll_1 rfl (by decide) rfl ?_
  refine J_iconst hX (0 : Int32) dX8_stripesOfAll_2 ic_0 ?_
  refine J_istore hX [(4, .int (0 : Int32)), (3, .int (0 : Int32)), (0, .ref a), (1, .int x1), (2, .int x2)] dX8_stripesOfAll_3 (by decide) rfl ?_
  refine J_sub [(0, .ref a), (1, .int x1), (2, .int x2), (3, .int (0 : Int32)), (4, .int (0 : Int32))] [2, 3, 4, 1, 0] rfl ?_
  exact t_X8_stripesOfAll_L5 hX hd0 hn ha hF FU x1 x2 (0 : Int32) (0 : Int32)  m h
theorem c_X8_stripesOfAll {G : GG} {l : Launch} {ρ : Nat → Nat} {n t u w v : Nat} {x : Option Nat} (hn : 126 ≤ n) {a : Nat} (ha : isTo a) {x1 : Int32} {x2 : Int32} {m : Mm} {rE : Int32} {mE : Mm} (h : f_X8_stripesOfAll a x1 x2 m = some (rE, mE)) : CT G l yX8_stripesOfAll cX8_stripesOfAll 5 (some .int) 1 0 0 ρ n (RT t u w v x) [.ref a, .int x1, .int x2] m (some (.int rE)) (RT t u w v x) mE := ct_of_J (by decide) rfl (Nat.le_of_ble_eq_true rfl) (fun X hX e1 e2 e3 e4 hQ hr hl => t_X8_stripesOfAll hX (Nat.le_refl _) hn ha ⟨by rw [hQ, e3, e4], hr, hl⟩ h)
def f_X3_add (a : Nat) (x1 : Int32) (m : Mm) : Option (Mm) := (if (gI m a 1) < (1000 : Int32) then gd (inb (gI m a 1) 1000) (stI m (a + 1) (ix (gI m a 1)) x1 (fun m1 => stI m1 a 1 ((gI m1 a 1) + (1 : Int32)) (fun m2 => some m2))) else some m)
theorem t_X3_add {X : XX} {G : GG} {ρ : Nat → Nat} {n t u w v : Nat} {x : Option Nat} {d : Nat} {a : Nat} (hX : Ok X G ρ cX3_add 2 RX3 d) (hd0 : 0 ≤ d) (hn : 126 ≤ n) (ha : isLw a) {mE : Mm} (hF : Fin' X G ρ n none none (RT t u w v x) mE) {x1 : Int32} {m : Mm} (h : f_X3_add a x1 m = some mE) : J X G ρ n 2 0 [(0, .ref a), (1, .int x1)] [] (RT t u w v x) m := by
  unfold f_X3_add at h
  refine J_aload_n hX dX3_add_0 rfl 0 rfl ?_
  refine J_getI hX dX3_add_1 fl_RX3_18 (ltn (lt_isLw_0 ha) hn) (lo_isLw_0 ha) rfl ?_
  refine J_aload_n hX dX3_add_4 rfl 0 rfl ?_
  refine J_getR hX dX3_add_5 fl_RX3_9 (ltn (lt_isLw_0 ha) hn) (lo_isLw_0 ha) rfl (rt_isLw_0_0 _ _ _ _ _ ha) ?_
  refine J_alen hX (1000 : Int32) dX3_add_8 (ltn (lt_isLw_1 ha) hn) (lay_isLw_1 ha) (by decide) (by decide) ?_
  refine J_icmp_ge hX 32 dX3_add_9 (by decide) h (fun c h => ?_) (fun c h => ?_)
  · refine J_aload_n hX dX3_add_12 rfl 0 rfl ?_
    refine J_getR hX dX3_add_13 fl_RX3_9 (ltn (lt_isLw_0 ha) hn) (lo_isLw_0 ha) rfl (rt_isLw_0_0 _ _ _ _ _ ha) ?_
    refine J_aload_n hX dX3_add_16 rfl 0 rfl ?_
    refine J_getI hX dX3_add_17 fl_RX3_18 (ltn (lt_isLw_0 ha) hn) (lo_isLw_0 ha) rfl ?_
    refine J_iload_n hX dX3_add_20 rfl 1 rfl ?_
    refine J_iastore hX dX3_add_21 (ltn (lt_isLw_1 ha) hn) (lay_isLw_1 ha) h (fun m1 h => ?_)
    refine J_aload_n hX dX3_add_22 rfl 0 rfl ?_
    refine J_dup hX dX3_add_23 rfl ?_
    refine J_getI hX dX3_add_24 fl_RX3_18 (ltn (lt_isLw_0 ha) hn) (lo_isLw_0 ha) rfl ?_
    refine J_iconst hX (1 : Int32) dX3_add_27 ic_1 ?_
    refine J_iadd hX dX3_add_28 ?_
    refine J_putI hX dX3_add_29 pl_RX3_18 (ltn (lt_isLw_0 ha) hn) (lo_isLw_0 ha) rfl rfl rfl h (fun m2 h => ?_)
    exact J_return hX dX3_add_32 h hF
  · exact J_return hX dX3_add_32 h hF
theorem c_X3_add {G : GG} {l : Launch} {ρ : Nat → Nat} {n t u w v : Nat} {x : Option Nat} (hn : 126 ≤ n) {a : Nat} (ha : isLw a) {x1 : Int32} {m : Mm} {mE : Mm} (h : f_X3_add a x1 m = some mE) : CT G l yX3_add cX3_add 2 none 0 0 0 ρ n (RT t u w v x) [.ref a, .int x1] m none (RT t u w v x) mE := ct_of_J (by decide) rfl (Nat.le_of_ble_eq_true rfl) (fun X hX e1 e2 e3 e4 hQ hr hl => t_X3_add hX (Nat.le_refl _) hn ha ⟨by rw [hQ, e3, e4], hr, hl⟩ h)
def f_X8_clear (a : Nat) (m : Mm) : Option (Mm) := stI m a 0 (0 : Int32) (fun m1 => stI m1 a 1 (0 : Int32) (fun m2 => stI m2 a 2 (0 : Int32) (fun m3 => stI m3 (a + 4) 1 (0 : Int32) (fun m4 => some m4))))
theorem t_X8_clear {X : XX} {G : GG} {ρ : Nat → Nat} {n t u w v : Nat} {x : Option Nat} {d : Nat} {a : Nat} (hX : Ok X G ρ cX8_clear 1 RX8 d) (hd0 : 0 ≤ d) (hn : 126 ≤ n) (ha : isTo a) {mE : Mm} (hF : Fin' X G ρ n none none (RT t u w v x) mE) {m : Mm} (h : f_X8_clear a m = some mE) : J X G ρ n 1 0 [(0, .ref a)] [] (RT t u w v x) m := by
  unfold f_X8_clear at h
  refine J_aload_n hX dX8_clear_0 rfl 0 rfl ?_
  refine J_iconst hX (0 : Int32) dX8_clear_1 ic_0 ?_
  refine J_putI hX dX8_clear_2 pl_RX8_28 (ltn (lt_isTo_0 ha) hn) (lo_isTo_0 ha) rfl rfl rfl h (fun m1 h => ?_)
  refine J_aload_n hX dX8_clear_5 rfl 0 rfl ?_
  refine J_iconst hX (0 : Int32) dX8_clear_6 ic_0 ?_
  refine J_putI hX dX8_clear_7 pl_RX8_32 (ltn (lt_isTo_0 ha) hn) (lo_isTo_0 ha) rfl rfl rfl h (fun m2 h => ?_)
  refine J_aload_n hX dX8_clear_10 rfl 0 rfl ?_
  refine J_iconst hX (0 : Int32) dX8_clear_11 ic_0 ?_
  refine J_putI hX dX8_clear_12 pl_RX8_35 (ltn (lt_isTo_0 ha) hn) (lo_isTo_0 ha) rfl rfl rfl h (fun m3 h => ?_)
  refine J_aload_n hX dX8_clear_15 rfl 0 rfl ?_
  refine J_getR hX dX8_clear_16 fl_RX8_24 (ltn (lt_isTo_0 ha) hn) (lo_isTo_0 ha) rfl (rt_isTo_0_6 _ _ _ _ _ ha) ?_
  refine J_iconst hX (0 : Int32) dX8_clear_19 ic_0 ?_
  refine J_putI hX dX8_clear_20 pl_RX8_38 (ltn (lt_isTo_4 ha) hn) (lo_isTo_4 ha) rfl rfl rfl h (fun m4 h => ?_)
  exact J_return hX dX8_clear_23 h hF
theorem c_X8_clear {G : GG} {l : Launch} {ρ : Nat → Nat} {n t u w v : Nat} {x : Option Nat} (hn : 126 ≤ n) {a : Nat} (ha : isTo a) {m : Mm} {mE : Mm} (h : f_X8_clear a m = some mE) : CT G l yX8_clear cX8_clear 1 none 0 0 0 ρ n (RT t u w v x) [.ref a] m none (RT t u w v x) mE := ct_of_J (by decide) rfl (Nat.le_of_ble_eq_true rfl) (fun X hX e1 e2 e3 e4 hQ hr hl => t_X8_clear hX (Nat.le_refl _) hn ha ⟨by rw [hQ, e3, e4], hr, hl⟩ h)
def f_J6_bitCount_0f7a4 (x0 : Int32) (m : Mm) : Option (Int32 × Mm) := some (((((((((x0 - (((x0.toUInt32 >>> ((1 : Int32).toUInt32 &&& Int32.toUInt32 31)).toInt32) &&& (1431655765 : Int32))) &&& (858993459 : Int32)) + ((((x0 - (((x0.toUInt32 >>> ((1 : Int32).toUInt32 &&& Int32.toUInt32 31)).toInt32) &&& (1431655765 : Int32))).toUInt32 >>> ((2 : Int32).toUInt32 &&& Int32.toUInt32 31)).toInt32) &&& (858993459 : Int32))) + (((((x0 - (((x0.toUInt32 >>> ((1 : Int32).toUInt32 &&& Int32.toUInt32 31)).toInt32) &&& (1431655765 : Int32))) &&& (858993459 : Int32)) + ((((x0 - (((x0.toUInt32 >>> ((1 : Int32).toUInt32 &&& Int32.toUInt32 31)).toInt32) &&& (1431655765 : Int32))).toUInt32 >>> ((2 : Int32).toUInt32 &&& Int32.toUInt32 31)).toInt32) &&& (858993459 : Int32))).toUInt32 >>> ((4 : Int32).toUInt32 &&& Int32.toUInt32 31)).toInt32)) &&& (252645135 : Int32)) + (((((((x0 - (((x0.toUInt32 >>> ((1 : Int32).toUInt32 &&& Int32.toUInt32 31)).toInt32) &&& (1431655765 : Int32))) &&& (858993459 : Int32)) + ((((x0 - (((x0.toUInt32 >>> ((1 : Int32).toUInt32 &&& Int32.toUInt32 31)).toInt32) &&& (1431655765 : Int32))).toUInt32 >>> ((2 : Int32).toUInt32 &&& Int32.toUInt32 31)).toInt32) &&& (858993459 : Int32))) + (((((x0 - (((x0.toUInt32 >>> ((1 : Int32).toUInt32 &&& Int32.toUInt32 31)).toInt32) &&& (1431655765 : Int32))) &&& (858993459 : Int32)) + ((((x0 - (((x0.toUInt32 >>> ((1 : Int32).toUInt32 &&& Int32.toUInt32 31)).toInt32) &&& (1431655765 : Int32))).toUInt32 >>> ((2 : Int32).toUInt32 &&& Int32.toUInt32 31)).toInt32) &&& (858993459 : Int32))).toUInt32 >>> ((4 : Int32).toUInt32 &&& Int32.toUInt32 31)).toInt32)) &&& (252645135 : Int32)).toUInt32 >>> ((8 : Int32).toUInt32 &&& Int32.toUInt32 31)).toInt32)) + ((((((((x0 - (((x0.toUInt32 >>> ((1 : Int32).toUInt32 &&& Int32.toUInt32 31)).toInt32) &&& (1431655765 : Int32))) &&& (858993459 : Int32)) + ((((x0 - (((x0.toUInt32 >>> ((1 : Int32).toUInt32 &&& Int32.toUInt32 31)).toInt32) &&& (1431655765 : Int32))).toUInt32 >>> ((2 : Int32).toUInt32 &&& Int32.toUInt32 31)).toInt32) &&& (858993459 : Int32))) + (((((x0 - (((x0.toUInt32 >>> ((1 : Int32).toUInt32 &&& Int32.toUInt32 31)).toInt32) &&& (1431655765 : Int32))) &&& (858993459 : Int32)) + ((((x0 - (((x0.toUInt32 >>> ((1 : Int32).toUInt32 &&& Int32.toUInt32 31)).toInt32) &&& (1431655765 : Int32))).toUInt32 >>> ((2 : Int32).toUInt32 &&& Int32.toUInt32 31)).toInt32) &&& (858993459 : Int32))).toUInt32 >>> ((4 : Int32).toUInt32 &&& Int32.toUInt32 31)).toInt32)) &&& (252645135 : Int32)) + (((((((x0 - (((x0.toUInt32 >>> ((1 : Int32).toUInt32 &&& Int32.toUInt32 31)).toInt32) &&& (1431655765 : Int32))) &&& (858993459 : Int32)) + ((((x0 - (((x0.toUInt32 >>> ((1 : Int32).toUInt32 &&& Int32.toUInt32 31)).toInt32) &&& (1431655765 : Int32))).toUInt32 >>> ((2 : Int32).toUInt32 &&& Int32.toUInt32 31)).toInt32) &&& (858993459 : Int32))) + (((((x0 - (((x0.toUInt32 >>> ((1 : Int32).toUInt32 &&& Int32.toUInt32 31)).toInt32) &&& (1431655765 : Int32))) &&& (858993459 : Int32)) + ((((x0 - (((x0.toUInt32 >>> ((1 : Int32).toUInt32 &&& Int32.toUInt32 31)).toInt32) &&& (1431655765 : Int32))).toUInt32 >>> ((2 : Int32).toUInt32 &&& Int32.toUInt32 31)).toInt32) &&& (858993459 : Int32))).toUInt32 >>> ((4 : Int32).toUInt32 &&& Int32.toUInt32 31)).toInt32)) &&& (252645135 : Int32)).toUInt32 >>> ((8 : Int32).toUInt32 &&& Int32.toUInt32 31)).toInt32)).toUInt32 >>> ((16 : Int32).toUInt32 &&& Int32.toUInt32 31)).toInt32)) &&& (63 : Int32)), m)
theorem t_J6_bitCount_0f7a4 {X : XX} {G : GG} {ρ : Nat → Nat} {n t u w v : Nat} {x : Option Nat} {d : Nat} (hX : Ok X G ρ cJ6_bitCount_0f7a4 1 RJ6 d) (hd0 : 0 ≤ d) (hn : 126 ≤ n) {rE : Int32} {mE : Mm} (hF : Fin' X G ρ n (some .int) (some (.int rE)) (RT t u w v x) mE) {x0 : Int32} {m : Mm} (h : f_J6_bitCount_0f7a4 x0 m = some (rE, mE)) : J X G ρ n 1 0 [(0, .int x0)] [] (RT t u w v x) m := by
  unfold f_J6_bitCount_0f7a4 at h
  refine J_iload_n hX dJ6_bitCount_0f7a4_0 rfl 0 rfl ?_
  refine J_iload_n hX dJ6_bitCount_0f7a4_1 rfl 0 rfl ?_
  refine J_iconst hX (1 : Int32) dJ6_bitCount_0f7a4_2 ic_1 ?_
  refine J_iushr hX dJ6_bitCount_0f7a4_3 ?_
  refine J_ldc_w hX (1431655765 : Int32) dJ6_bitCount_0f7a4_4 k_RJ6_265 ?_
  refine J_iand hX dJ6_bitCount_0f7a4_7 ?_
  refine J_isub hX dJ6_bitCount_0f7a4_8 ?_
  refine J_istore_n hX [(0, .int (x0 - (((x0.toUInt32 >>> ((1 : Int32).toUInt32 &&& Int32.toUInt32 31)).toInt32) &&& (1431655765 : Int32))))] dJ6_bitCount_0f7a4_9 rfl (by decide) rfl ?_
  refine J_iload_n hX dJ6_bitCount_0f7a4_10 rfl 0 rfl ?_
  refine J_ldc_w hX (858993459 : Int32) dJ6_bitCount_0f7a4_11 k_RJ6_266 ?_
  refine J_iand hX dJ6_bitCount_0f7a4_14 ?_
  refine J_iload_n hX dJ6_bitCount_0f7a4_15 rfl 0 rfl ?_
  refine J_iconst hX (2 : Int32) dJ6_bitCount_0f7a4_16 ic_2 ?_
  refine J_iushr hX dJ6_bitCount_0f7a4_17 ?_
  refine J_ldc_w hX (858993459 : Int32) dJ6_bitCount_0f7a4_18 k_RJ6_266 ?_
  refine J_iand hX dJ6_bitCount_0f7a4_21 ?_
  refine J_iadd hX dJ6_bitCount_0f7a4_22 ?_
  refine J_istore_n hX [(0, .int (((x0 - (((x0.toUInt32 >>> ((1 : Int32).toUInt32 &&& Int32.toUInt32 31)).toInt32) &&& (1431655765 : Int32))) &&& (858993459 : Int32)) + ((((x0 - (((x0.toUInt32 >>> ((1 : Int32).toUInt32 &&& Int32.toUInt32 31)).toInt32) &&& (1431655765 : Int32))).toUInt32 >>> ((2 : Int32).toUInt32 &&& Int32.toUInt32 31)).toInt32) &&& (858993459 : Int32))))] dJ6_bitCount_0f7a4_23 rfl (by decide) rfl ?_
  refine J_iload_n hX dJ6_bitCount_0f7a4_24 rfl 0 rfl ?_
  refine J_iload_n hX dJ6_bitCount_0f7a4_25 rfl 0 rfl ?_
  refine J_iconst hX (4 : Int32) dJ6_bitCount_0f7a4_26 ic_4 ?_
  refine J_iushr hX dJ6_bitCount_0f7a4_27 ?_
  refine J_iadd hX dJ6_bitCount_0f7a4_28 ?_
  refine J_ldc_w hX (252645135 : Int32) dJ6_bitCount_0f7a4_29 k_RJ6_267 ?_
  refine J_iand hX dJ6_bitCount_0f7a4_32 ?_
  refine J_istore_n hX [(0, .int (((((x0 - (((x0.toUInt32 >>> ((1 : Int32).toUInt32 &&& Int32.toUInt32 31)).toInt32) &&& (1431655765 : Int32))) &&& (858993459 : Int32)) + ((((x0 - (((x0.toUInt32 >>> ((1 : Int32).toUInt32 &&& Int32.toUInt32 31)).toInt32) &&& (1431655765 : Int32))).toUInt32 >>> ((2 : Int32).toUInt32 &&& Int32.toUInt32 31)).toInt32) &&& (858993459 : Int32))) + (((((x0 - (((x0.toUInt32 >>> ((1 : Int32).toUInt32 &&& Int32.toUInt32 31)).toInt32) &&& (1431655765 : Int32))) &&& (858993459 : Int32)) + ((((x0 - (((x0.toUInt32 >>> ((1 : Int32).toUInt32 &&& Int32.toUInt32 31)).toInt32) &&& (1431655765 : Int32))).toUInt32 >>> ((2 : Int32).toUInt32 &&& Int32.toUInt32 31)).toInt32) &&& (858993459 : Int32))).toUInt32 >>> ((4 : Int32).toUInt32 &&& Int32.toUInt32 31)).toInt32)) &&& (252645135 : Int32)))] dJ6_bitCount_0f7a4_33 rfl (by decide) rfl ?_
  refine J_iload_n hX dJ6_bitCount_0f7a4_34 rfl 0 rfl ?_
  refine J_iload_n hX dJ6_bitCount_0f7a4_35 rfl 0 rfl ?_
  refine J_bipush hX (8 : Int32) dJ6_bitCount_0f7a4_36 (by decide) ?_
  refine J_iushr hX dJ6_bitCount_0f7a4_38 ?_
  refine J_iadd hX dJ6_bitCount_0f7a4_39 ?_
  refine J_istore_n hX [(0, .int ((((((x0 - (((x0.toUInt32 >>> ((1 : Int32).toUInt32 &&& Int32.toUInt32 31)).toInt32) &&& (1431655765 : Int32))) &&& (858993459 : Int32)) + ((((x0 - (((x0.toUInt32 >>> ((1 : Int32).toUInt32 &&& Int32.toUInt32 31)).toInt32) &&& (1431655765 : Int32))).toUInt32 >>> ((2 : Int32).toUInt32 &&& Int32.toUInt32 31)).toInt32) &&& (858993459 : Int32))) + (((((x0 - (((x0.toUInt32 >>> ((1 : Int32).toUInt32 &&& Int32.toUInt32 31)).toInt32) &&& (1431655765 : Int32))) &&& (858993459 : Int32)) + ((((x0 - (((x0.toUInt32 >>> ((1 : Int32).toUInt32 &&& Int32.toUInt32 31)).toInt32) &&& (1431655765 : Int32))).toUInt32 >>> ((2 : Int32).toUInt32 &&& Int32.toUInt32 31)).toInt32) &&& (858993459 : Int32))).toUInt32 >>> ((4 : Int32).toUInt32 &&& Int32.toUInt32 31)).toInt32)) &&& (252645135 : Int32)) + (((((((x0 - (((x0.toUInt32 >>> ((1 : Int32).toUInt32 &&& Int32.toUInt32 31)).toInt32) &&& (1431655765 : Int32))) &&& (858993459 : Int32)) + ((((x0 - (((x0.toUInt32 >>> ((1 : Int32).toUInt32 &&& Int32.toUInt32 31)).toInt32) &&& (1431655765 : Int32))).toUInt32 >>> ((2 : Int32).toUInt32 &&& Int32.toUInt32 31)).toInt32) &&& (858993459 : Int32))) + (((((x0 - (((x0.toUInt32 >>> ((1 : Int32).toUInt32 &&& Int32.toUInt32 31)).toInt32) &&& (1431655765 : Int32))) &&& (858993459 : Int32)) + ((((x0 - (((x0.toUInt32 >>> ((1 : Int32).toUInt32 &&& Int32.toUInt32 31)).toInt32) &&& (1431655765 : Int32))).toUInt32 >>> ((2 : Int32).toUInt32 &&& Int32.toUInt32 31)).toInt32) &&& (858993459 : Int32))).toUInt32 >>> ((4 : Int32).toUInt32 &&& Int32.toUInt32 31)).toInt32)) &&& (252645135 : Int32)).toUInt32 >>> ((8 : Int32).toUInt32 &&& Int32.toUInt32 31)).toInt32)))] dJ6_bitCount_0f7a4_40 rfl (by decide) rfl ?_
  refine J_iload_n hX dJ6_bitCount_0f7a4_41 rfl 0 rfl ?_
  refine J_iload_n hX dJ6_bitCount_0f7a4_42 rfl 0 rfl ?_
  refine J_bipush hX (16 : Int32) dJ6_bitCount_0f7a4_43 (by decide) ?_
  refine J_iushr hX dJ6_bitCount_0f7a4_45 ?_
  refine J_iadd hX dJ6_bitCount_0f7a4_46 ?_
  refine J_istore_n hX [(0, .int (((((((x0 - (((x0.toUInt32 >>> ((1 : Int32).toUInt32 &&& Int32.toUInt32 31)).toInt32) &&& (1431655765 : Int32))) &&& (858993459 : Int32)) + ((((x0 - (((x0.toUInt32 >>> ((1 : Int32).toUInt32 &&& Int32.toUInt32 31)).toInt32) &&& (1431655765 : Int32))).toUInt32 >>> ((2 : Int32).toUInt32 &&& Int32.toUInt32 31)).toInt32) &&& (858993459 : Int32))) + (((((x0 - (((x0.toUInt32 >>> ((1 : Int32).toUInt32 &&& Int32.toUInt32 31)).toInt32) &&& (1431655765 : Int32))) &&& (858993459 : Int32)) + ((((x0 - (((x0.toUInt32 >>> ((1 : Int32).toUInt32 &&& Int32.toUInt32 31)).toInt32) &&& (1431655765 : Int32))).toUInt32 >>> ((2 : Int32).toUInt32 &&& Int32.toUInt32 31)).toInt32) &&& (858993459 : Int32))).toUInt32 >>> ((4 : Int32).toUInt32 &&& Int32.toUInt32 31)).toInt32)) &&& (252645135 : Int32)) + (((((((x0 - (((x0.toUInt32 >>> ((1 : Int32).toUInt32 &&& Int32.toUInt32 31)).toInt32) &&& (1431655765 : Int32))) &&& (858993459 : Int32)) + ((((x0 - (((x0.toUInt32 >>> ((1 : Int32).toUInt32 &&& Int32.toUInt32 31)).toInt32) &&& (1431655765 : Int32))).toUInt32 >>> ((2 : Int32).toUInt32 &&& Int32.toUInt32 31)).toInt32) &&& (858993459 : Int32))) + (((((x0 - (((x0.toUInt32 >>> ((1 : Int32).toUInt32 &&& Int32.toUInt32 31)).toInt32) &&& (1431655765 : Int32))) &&& (858993459 : Int32)) + ((((x0 - (((x0.toUInt32 >>> ((1 : Int32).toUInt32 &&& Int32.toUInt32 31)).toInt32) &&& (1431655765 : Int32))).toUInt32 >>> ((2 : Int32).toUInt32 &&& Int32.toUInt32 31)).toInt32) &&& (858993459 : Int32))).toUInt32 >>> ((4 : Int32).toUInt32 &&& Int32.toUInt32 31)).toInt32)) &&& (252645135 : Int32)).toUInt32 >>> ((8 : Int32).toUInt32 &&& Int32.toUInt32 31)).toInt32)) + ((((((((x0 - (((x0.toUInt32 >>> ((1 : Int32).toUInt32 &&& Int32.toUInt32 31)).toInt32) &&& (1431655765 : Int32))) &&& (858993459 : Int32)) + ((((x0 - (((x0.toUInt32 >>> ((1 : Int32).toUInt32 &&& Int32.toUInt32 31)).toInt32) &&& (1431655765 : Int32))).toUInt32 >>> ((2 : Int32).toUInt32 &&& Int32.toUInt32 31)).toInt32) &&& (858993459 : Int32))) + (((((x0 - (((x0.toUInt32 >>> ((1 : Int32).toUInt32 &&& Int32.toUInt32 31)).toInt32) &&& (1431655765 : Int32))) &&& (858993459 : Int32)) + ((((x0 - (((x0.toUInt32 >>> ((1 : Int32).toUInt32 &&& Int32.toUInt32 31)).toInt32) &&& (1431655765 : Int32))).toUInt32 >>> ((2 : Int32).toUInt32 &&& Int32.toUInt32 31)).toInt32) &&& (858993459 : Int32))).toUInt32 >>> ((4 : Int32).toUInt32 &&& Int32.toUInt32 31)).toInt32)) &&& (252645135 : Int32)) + (((((((x0 - (((x0.toUInt32 >>> ((1 : Int32).toUInt32 &&& Int32.toUInt32 31)).toInt32) &&& (1431655765 : Int32))) &&& (858993459 : Int32)) + ((((x0 - (((x0.toUInt32 >>> ((1 : Int32).toUInt32 &&& Int32.toUInt32 31)).toInt32) &&& (1431655765 : Int32))).toUInt32 >>> ((2 : Int32).toUInt32 &&& Int32.toUInt32 31)).toInt32) &&& (858993459 : Int32))) + (((((x0 - (((x0.toUInt32 >>> ((1 : Int32).toUInt32 &&& Int32.toUInt32 31)).toInt32) &&& (1431655765 : Int32))) &&& (858993459 : Int32)) + ((((x0 - (((x0.toUInt32 >>> ((1 : Int32).toUInt32 &&& Int32.toUInt32 31)).toInt32) &&& (1431655765 : Int32))).toUInt32 >>> ((2 : Int32).toUInt32 &&& Int32.toUInt32 31)).toInt32) &&& (858993459 : Int32))).toUInt32 >>> ((4 : Int32).toUInt32 &&& Int32.toUInt32 31)).toInt32)) &&& (252645135 : Int32)).toUInt32 >>> ((8 : Int32).toUInt32 &&& Int32.toUInt32 31)).toInt32)).toUInt32 >>> ((16 : Int32).toUInt32 &&& Int32.toUInt32 31)).toInt32)))] dJ6_bitCount_0f7a4_47 rfl (by decide) rfl ?_
  refine J_iload_n hX dJ6_bitCount_0f7a4_48 rfl 0 rfl ?_
  refine J_bipush hX (63 : Int32) dJ6_bitCount_0f7a4_49 (by decide) ?_
  refine J_iand hX dJ6_bitCount_0f7a4_51 ?_
  exact J_ireturn hX dJ6_bitCount_0f7a4_52 h hF rfl
theorem c_J6_bitCount_0f7a4 {G : GG} {l : Launch} {ρ : Nat → Nat} {n t u w v : Nat} {x : Option Nat} (hn : 126 ≤ n) {x0 : Int32} {m : Mm} {rE : Int32} {mE : Mm} (h : f_J6_bitCount_0f7a4 x0 m = some (rE, mE)) : CT G l yJ6_bitCount_0f7a4 cJ6_bitCount_0f7a4 1 (some .int) 0 0 0 ρ n (RT t u w v x) [.int x0] m (some (.int rE)) (RT t u w v x) mE := ct_of_J (by decide +kernel) rfl (Nat.le_of_ble_eq_true rfl) (fun X hX e1 e2 e3 e4 hQ hr hl => t_J6_bitCount_0f7a4 hX (Nat.le_refl _) hn ⟨by rw [hQ, e3, e4], hr, hl⟩ h)
def f_X1_ofSet (x0 : Int32) (x1 : Int32) (x2 : Int32) (m : Mm) : Option (Int32 × Mm) := bd2 (f_J6_bitCount_0f7a4 (x0 &&& (((x0 <<< (x1 &&& 31)) ||| (x0 >>> ((x2 - x1) &&& 31))) &&& (((1 : Int32) <<< (x2 &&& 31)) - (1 : Int32)))) m) (fun r2 m1 => some (r2, m1))
theorem t_X1_ofSet {X : XX} {G : GG} {ρ : Nat → Nat} {n t u w v : Nat} {x : Option Nat} {d : Nat} (hX : Ok X G ρ cX1_ofSet 4 RX1 d) (hd0 : 1 ≤ d) (hn : 126 ≤ n) {rE : Int32} {mE : Mm} (hF : Fin' X G ρ n (some .int) (some (.int rE)) (RT t u w v x) mE) {x0 : Int32} {x1 : Int32} {x2 : Int32} {m : Mm} (h : f_X1_ofSet x0 x1 x2 m = some (rE, mE)) : J X G ρ n 4 0 [(0, .int x0), (1, .int x1), (2, .int x2)] [] (RT t u w v x) m := by
  unfold f_X1_ofSet at h
  refine J_iload_n hX dX1_ofSet_0 rfl 0 rfl ?_
  refine J_iload_n hX dX1_ofSet_1 rfl 1 rfl ?_
  refine J_ishl hX dX1_ofSet_2 ?_
  refine J_iload_n hX dX1_ofSet_3 rfl 0 rfl ?_
  refine J_iload_n hX dX1_ofSet_4 rfl 2 rfl ?_
  refine J_iload_n hX dX1_ofSet_5 rfl 1 rfl ?_
  refine J_isub hX dX1_ofSet_6 ?_
  refine J_ishr hX dX1_ofSet_7 ?_
  refine J_ior hX dX1_ofSet_8 ?_
  refine J_iconst hX (1 : Int32) dX1_ofSet_9 ic_1 ?_
  refine J_iload_n hX dX1_ofSet_10 rfl 2 rfl ?_
  refine J_ishl hX dX1_ofSet_11 ?_
  refine J_iconst hX (1 : Int32) dX1_ofSet_12 ic_1 ?_
  refine J_isub hX dX1_ofSet_13 ?_
  refine J_iand hX dX1_ofSet_14 ?_
  refine J_istore_n hX [(3, .int (((x0 <<< (x1 &&& 31)) ||| (x0 >>> ((x2 - x1) &&& 31))) &&& (((1 : Int32) <<< (x2 &&& 31)) - (1 : Int32)))), (0, .int x0), (1, .int x1), (2, .int x2)] dX1_ofSet_15 rfl (by decide) rfl ?_
  refine J_iload_n hX dX1_ofSet_16 rfl 1 rfl ?_
  refine J_iload_n hX dX1_ofSet_17 rfl 0 rfl ?_
  refine J_iand hX dX1_ofSet_18 ?_
  obtain ⟨r2, m1, h0, h⟩ := bd2_some h
  refine J_callSi (As := [.int (x0 &&& (((x0 <<< (x1 &&& 31)) ||| (x0 >>> ((x2 - x1) &&& 31))) &&& (((1 : Int32) <<< (x2 &&& 31)) - (1 : Int32))))]) (st := []) hX dX1_ofSet_19 cw_RX1_9 (by omega) (c_J6_bitCount_0f7a4 hn  h0) rfl rfl (Nat.le_of_ble_eq_true rfl) ?_
  clear h0
  exact J_ireturn hX dX1_ofSet_22 h hF rfl
theorem c_X1_ofSet {G : GG} {l : Launch} {ρ : Nat → Nat} {n t u w v : Nat} {x : Option Nat} (hn : 126 ≤ n) {x0 : Int32} {x1 : Int32} {x2 : Int32} {m : Mm} {rE : Int32} {mE : Mm} (h : f_X1_ofSet x0 x1 x2 m = some (rE, mE)) : CT G l yX1_ofSet cX1_ofSet 4 (some .int) 1 0 0 ρ n (RT t u w v x) [.int x0, .int x1, .int x2] m (some (.int rE)) (RT t u w v x) mE := ct_of_J (by decide) rfl (Nat.le_of_ble_eq_true rfl) (fun X hX e1 e2 e3 e4 hQ hr hl => t_X1_ofSet hX (Nat.le_refl _) hn ⟨by rw [hQ, e3, e4], hr, hl⟩ h)
def f_X1_ofCycles_L4 (p0 : Nat) : Nat → Int32 → Int32 → Int32 →  Mm → Option (Int32 × Mm)
  | 0, _, _, _, _ => none
  | k + 1, v1, v2, v3, m => (if v3 < (gI m p0 2) then gd (inb v3 6) ((if (gI m (p0 + 1) (ix v3)) = (1 : Int32) then bd2 (f_X8_bitsOf p0 v3 m) (fun r2 m1 => bd2 (f_X1_ofSet r2 v1 (gI m1 p0 0) m1) (fun r4 m3 => f_X1_ofCycles_L4 p0 k v1 ((imax v2 (0 : Int32)) + r4) (v3 + (1 : Int32)) m3)) else f_X1_ofCycles_L4 p0 k v1 v2 (v3 + (1 : Int32)) m)) else some (v2, m))
theorem t_X1_ofCycles_L4 {X : XX} {G : GG} {ρ : Nat → Nat} {n t u w v : Nat} {x : Option Nat} {d : Nat} {p0 : Nat} (hX : Ok X G ρ cX1_ofCycles 4 RX1 d) (hd0 : 2 ≤ d) (hn : 126 ≤ n) (hp0 : isTo p0) {rE : Int32} {mE : Mm} (hF : Fin' X G ρ n (some .int) (some (.int rE)) (RT t u w v x) mE) : ∀ (k : Nat) (v1 : Int32) (v2 : Int32) (v3 : Int32) (m : Mm), f_X1_ofCycles_L4 p0 k v1 v2 v3 m = some (rE, mE) → J X G ρ n 4 4 [(0, .ref p0), (1, .int v1), (2, .int v2), (3, .int v3)] [] (RT t u w v x) m := by
  intro k
  induction k with
  | zero => intro _ _ _ _ h; rw [f_X1_ofCycles_L4] at h; cases h
  | succ k ih =>
    intro v1 v2 v3 m h
    rw [f_X1_ofCycles_L4] at h
    refine J_iload_n hX dX1_ofCycles_4 rfl 3 rfl ?_
    refine J_aload_n hX dX1_ofCycles_5 rfl 0 rfl ?_
    refine J_getI hX dX1_ofCycles_6 fl_RX1_27 (ltn (lt_isTo_0 hp0) hn) (lo_isTo_0 hp0) rfl ?_
    refine J_icmp_ge hX 48 dX1_ofCycles_9 (by decide) h (fun c h => ?_) (fun c h => ?_)
    · refine J_aload_n hX dX1_ofCycles_12 rfl 0 rfl ?_
      refine J_getR hX dX1_ofCycles_13 fl_RX1_30 (ltn (lt_isTo_0 hp0) hn) (lo_isTo_0 hp0) rfl (rt_isTo_0_3 _ _ _ _ _ hp0) ?_
      refine J_iload_n hX dX1_ofCycles_16 rfl 3 rfl ?_
      refine J_iaload hX dX1_ofCycles_17 (ltn (lt_isTo_1 hp0) hn) (lay_isTo_1 hp0) h (fun h => ?_)
      refine J_iconst hX (1 : Int32) dX1_ofCycles_18 ic_1 ?_
      refine J_icmp_ne hX 42 dX1_ofCycles_19 (by decide) h (fun c h => ?_) (fun c h => ?_)
      · refine J_iload_n hX dX1_ofCycles_22 rfl 2 rfl ?_
        refine J_iconst hX (0 : Int32) dX1_ofCycles_23 ic_0 ?_
        refine J_imax hX dX1_ofCycles_24 (by omega) cm_RX1_34 (Nat.le_of_ble_eq_true rfl) ?_
        refine J_aload_n hX dX1_ofCycles_27 rfl 0 rfl ?_
        refine J_iload_n hX dX1_ofCycles_28 rfl 3 rfl ?_
        obtain ⟨r2, m1, h0, h⟩ := bd2_some h
        refine J_callVi (As := [.int v3]) (st := [.int (imax v2 (0 : Int32))]) hX dX1_ofCycles_29 cw_RX1_40 (by omega) (c_X8_bitsOf hn hp0 h0) (ltn (lt_isTo_0 hp0) hn) (lo_isTo_0 hp0) (by decide) rfl rfl rfl (Nat.le_of_ble_eq_true rfl) ?_
        clear h0
        refine J_iload_n hX dX1_ofCycles_32 rfl 1 rfl ?_
        refine J_aload_n hX dX1_ofCycles_33 rfl 0 rfl ?_
        refine J_getI hX dX1_ofCycles_34 fl_RX1_15 (ltn (lt_isTo_0 hp0) hn) (lo_isTo_0 hp0) rfl ?_
        obtain ⟨r4, m3, h0, h⟩ := bd2_some h
        refine J_callSi (As := [.int r2, .int v1, .int (gI m1 p0 0)]) (st := [.int (imax v2 (0 : Int32))]) hX dX1_ofCycles_37 cw_RX1_43 (by omega) (c_X1_ofSet hn  h0) rfl rfl (Nat.le_of_ble_eq_true rfl) ?_
        clear h0
        refine J_iadd hX dX1_ofCycles_40 ?_
        refine J_istore_n hX [(2, .int ((imax v2 (0 : Int32)) + r4)), (0, .ref p0), (1, .int v1), (3, .int v3)] dX1_ofCycles_41 rfl (by decide) rfl ?_
        refine J_iinc hX (v3 + (1 : Int32)) [(3, .int (v3 + (1 : Int32))), (2, .int ((imax v2 (0 : Int32)) + r4)), (0, .ref p0), (1, .int v1)] dX1_ofCycles_42 3 rfl (congrArg (fun z => v3 + z) ic_1) (by decide) rfl ?_
        refine J_goto hX 4 dX1_ofCycles_45 (by decide) ?_
        refine J_sub [(0, .ref p0), (1, .int v1), (2, .int ((imax v2 (0 : Int32)) + r4)), (3, .int (v3 + (1 : Int32)))] [2, 3, 1, 0] rfl ?_
        exact ih v1 ((imax v2 (0 : Int32)) + r4) (v3 + (1 : Int32)) m3 h
      · refine J_iinc hX (v3 + (1 : Int32)) [(3, .int (v3 + (1 : Int32))), (0, .ref p0), (1, .int v1), (2, .int v2)] dX1_ofCycles_42 3 rfl (congrArg (fun z => v3 + z) ic_1) (by decide) rfl ?_
        refine J_goto hX 4 dX1_ofCycles_45 (by decide) ?_
        refine J_sub [(0, .ref p0), (1, .int v1), (2, .int v2), (3, .int (v3 + (1 : Int32)))] [1, 2, 3, 0] rfl ?_
        exact ih v1 v2 (v3 + (1 : Int32)) m h
    · refine J_iload_n hX dX1_ofCycles_48 rfl 2 rfl ?_
      exact J_ireturn hX dX1_ofCycles_49 h hF rfl
def f_X1_ofCycles (p0 : Nat) (x1 : Int32) (m : Mm) : Option (Int32 × Mm) := f_X1_ofCycles_L4 p0 FU x1 (-1 : Int32) (0 : Int32)  m
theorem t_X1_ofCycles {X : XX} {G : GG} {ρ : Nat → Nat} {n t u w v : Nat} {x : Option Nat} {d : Nat} {p0 : Nat} (hX : Ok X G ρ cX1_ofCycles 4 RX1 d) (hd0 : 2 ≤ d) (hn : 126 ≤ n) (hp0 : isTo p0) {rE : Int32} {mE : Mm} (hF : Fin' X G ρ n (some .int) (some (.int rE)) (RT t u w v x) mE) {x1 : Int32} {m : Mm} (h : f_X1_ofCycles p0 x1 m = some (rE, mE)) : J X G ρ n 4 0 [(0, .ref p0), (1, .int x1)] [] (RT t u w v x) m := by
  unfold f_X1_ofCycles at h
  refine J_iconst hX (-1 : Int32) dX1_ofCycles_0 ic_m1 ?_
  refine J_istore_n hX [(2, .int (-1 : Int32)), (0, .ref p0), (1, .int x1)] dX1_ofCycles_1 rfl (by decide) rfl ?_
  refine J_iconst hX (0 : Int32) dX1_ofCycles_2 ic_0 ?_
  refine J_istore_n hX [(3, .int (0 : Int32)), (2, .int (-1 : Int32)), (0, .ref p0), (1, .int x1)] dX1_ofCycles_3 rfl (by decide) rfl ?_
  refine J_sub [(0, .ref p0), (1, .int x1), (2, .int (-1 : Int32)), (3, .int (0 : Int32))] [2, 3, 1, 0] rfl ?_
  exact t_X1_ofCycles_L4 hX hd0 hn hp0 hF FU x1 (-1 : Int32) (0 : Int32)  m h
theorem c_X1_ofCycles {G : GG} {l : Launch} {ρ : Nat → Nat} {n t u w v : Nat} {x : Option Nat} (hn : 126 ≤ n) {p0 : Nat} (hp0 : isTo p0) {x1 : Int32} {m : Mm} {rE : Int32} {mE : Mm} (h : f_X1_ofCycles p0 x1 m = some (rE, mE)) : CT G l yX1_ofCycles cX1_ofCycles 4 (some .int) 2 0 0 ρ n (RT t u w v x) [.ref p0, .int x1] m (some (.int rE)) (RT t u w v x) mE := ct_of_J (by decide) rfl (Nat.le_of_ble_eq_true rfl) (fun X hX e1 e2 e3 e4 hQ hr hl => t_X1_ofCycles hX (Nat.le_refl _) hn hp0 ⟨by rw [hQ, e3, e4], hr, hl⟩ h)
def f_X8_diskIn_J35 (a : Nat) (v1 : Int32) (v3 : Int32) (v4 : Int32) (v5 : Int32) (m : Mm) : Option (Int32 × Mm) := gd (inb v1 6) ((if (gI m (a + 1) (ix v1)) = (2 : Int32) then (if v3 = (1 : Int32) then some (((v4 - (1 : Int32)) - v5), m) else some (v5, m)) else some (v5, m)))
theorem t_X8_diskIn_J35 {X : XX} {G : GG} {ρ : Nat → Nat} {n t u w v : Nat} {x : Option Nat} {d : Nat} {a : Nat} (hX : Ok X G ρ cX8_diskIn 6 RX8 d) (hd0 : 0 ≤ d) (hn : 126 ≤ n) (ha : isTo a) {rE : Int32} {mE : Mm} (hF : Fin' X G ρ n (some .int) (some (.int rE)) (RT t u w v x) mE) (v1 : Int32) (v3 : Int32) (v4 : Int32) (v5 : Int32) (m : Mm) (h : f_X8_diskIn_J35 a v1 v3 v4 v5 m = some (rE, mE)) : J X G ρ n 6 35 [(0, .ref a), (1, .int v1), (3, .int v3), (4, .int v4), (5, .int v5)] [] (RT t u w v x) m := by
  unfold f_X8_diskIn_J35 at h
  refine J_aload_n hX dX8_diskIn_35 rfl 0 rfl ?_
  refine J_getR hX dX8_diskIn_36 fl_RX8_9 (ltn (lt_isTo_0 ha) hn) (lo_isTo_0 ha) rfl (rt_isTo_0_3 _ _ _ _ _ ha) ?_
  refine J_iload_n hX dX8_diskIn_39 rfl 1 rfl ?_
  refine J_iaload hX dX8_diskIn_40 (ltn (lt_isTo_1 ha) hn) (lay_isTo_1 ha) h (fun h => ?_)
  refine J_iconst hX (2 : Int32) dX8_diskIn_41 ic_2 ?_
  refine J_icmp_ne hX 60 dX8_diskIn_42 (by decide) h (fun c h => ?_) (fun c h => ?_)
  · refine J_iload_n hX dX8_diskIn_45 rfl 2 rfl ?_
    refine J_iconst hX (1 : Int32) dX8_diskIn_46 ic_1 ?_
    refine J_icmp_ne hX 60 dX8_diskIn_47 (by decide) h (fun c h => ?_) (fun c h => ?_)
    · refine J_iload hX dX8_diskIn_50 3 rfl ?_
      refine J_iconst hX (1 : Int32) dX8_diskIn_52 ic_1 ?_
      refine J_isub hX dX8_diskIn_53 ?_
      refine J_iload hX dX8_diskIn_54 4 rfl ?_
      refine J_isub hX dX8_diskIn_56 ?_
      refine J_goto hX 62 dX8_diskIn_57 (by decide) ?_
      exact J_ireturn hX dX8_diskIn_62 h hF rfl
    · refine J_iload hX dX8_diskIn_60 4 rfl ?_
      exact J_ireturn hX dX8_diskIn_62 h hF rfl
  · refine J_iload hX dX8_diskIn_60 4 rfl ?_
    exact J_ireturn hX dX8_diskIn_62 h hF rfl
def f_X8_diskIn (a : Nat) (x1 : Int32) (x2 : Int32) (x3 : Int32) (x4 : Int32) (m : Mm) : Option (Int32 × Mm) := gd (inb ((x1 * (5 : Int32)) + x2) 30) (gd (inb x1 6) ((if (gI m (a + 1) (ix x1)) = (1 : Int32) then (if 0 < x4 then gd (nz x4) (some ((((gI m (a + 3) (ix ((x1 * (5 : Int32)) + x2))) + x3) - ((gI m (a + 3) (ix ((x1 * (5 : Int32)) + x2))) + x3) / x4 * x4), m)) else f_X8_diskIn_J35 a x1 x3 x4 (gI m (a + 3) (ix ((x1 * (5 : Int32)) + x2)))  m) else f_X8_diskIn_J35 a x1 x3 x4 (gI m (a + 3) (ix ((x1 * (5 : Int32)) + x2)))  m)))
theorem t_X8_diskIn {X : XX} {G : GG} {ρ : Nat → Nat} {n t u w v : Nat} {x : Option Nat} {d : Nat} {a : Nat} (hX : Ok X G ρ cX8_diskIn 6 RX8 d) (hd0 : 0 ≤ d) (hn : 126 ≤ n) (ha : isTo a) {rE : Int32} {mE : Mm} (hF : Fin' X G ρ n (some .int) (some (.int rE)) (RT t u w v x) mE) {x1 : Int32} {x2 : Int32} {x3 : Int32} {x4 : Int32} {m : Mm} (h : f_X8_diskIn a x1 x2 x3 x4 m = some (rE, mE)) : J X G ρ n 6 0 [(0, .ref a), (1, .int x1), (2, .int x2), (3, .int x3), (4, .int x4)] [] (RT t u w v x) m := by
  unfold f_X8_diskIn at h
  refine J_aload_n hX dX8_diskIn_0 rfl 0 rfl ?_
  refine J_getR hX dX8_diskIn_1 fl_RX8_18 (ltn (lt_isTo_0 ha) hn) (lo_isTo_0 ha) rfl (rt_isTo_0_5 _ _ _ _ _ ha) ?_
  refine J_iload_n hX dX8_diskIn_4 rfl 1 rfl ?_
  refine J_iconst hX (5 : Int32) dX8_diskIn_5 ic_5 ?_
  refine J_imul hX dX8_diskIn_6 ?_
  refine J_iload_n hX dX8_diskIn_7 rfl 2 rfl ?_
  refine J_iadd hX dX8_diskIn_8 ?_
  refine J_iaload hX dX8_diskIn_9 (ltn (lt_isTo_3 ha) hn) (lay_isTo_3 ha) h (fun h => ?_)
  refine J_istore hX [(5, .int (gI m (a + 3) (ix ((x1 * (5 : Int32)) + x2)))), (0, .ref a), (1, .int x1), (2, .int x2), (3, .int x3), (4, .int x4)] dX8_diskIn_10 (by decide) rfl ?_
  refine J_aload_n hX dX8_diskIn_12 rfl 1 rfl ?_
  refine J_getR hX dX8_diskIn_13 fl_RX8_9 (ltn (lt_isTo_0 ha) hn) (lo_isTo_0 ha) rfl (rt_isTo_0_3 _ _ _ _ _ ha) ?_
  refine J_iload_n hX dX8_diskIn_16 rfl 2 rfl ?_
  refine J_iaload hX dX8_diskIn_17 (ltn (lt_isTo_1 ha) hn) (lay_isTo_1 ha) h (fun h => ?_)
  refine J_iconst hX (1 : Int32) dX8_diskIn_18 ic_1 ?_
  refine J_icmp_ne hX 35 dX8_diskIn_19 (by decide) h (fun c h => ?_) (fun c h => ?_)
  · refine J_iload hX dX8_diskIn_22 5 rfl ?_
    refine J_if_le hX 35 dX8_diskIn_24 (by decide) h (fun c h => ?_) (fun c h => ?_)
    · refine J_iload hX dX8_diskIn_27 0 rfl ?_
      refine J_iload_n hX dX8_diskIn_29 rfl 4 rfl ?_
      refine J_iadd hX dX8_diskIn_30 ?_
      refine J_iload hX dX8_diskIn_31 5 rfl ?_
      refine J_irem hX dX8_diskIn_33 h (fun h => ?_)
      exact J_ireturn hX dX8_diskIn_34 h hF rfl
    · refine J_sub [(0, .ref a), (1, .int x1), (3, .int x3), (4, .int x4), (5, .int (gI m (a + 3) (ix ((x1 * (5 : Int32)) + x2))))] [1, 2, 4, 5, 0] rfl ?_
      exact t_X8_diskIn_J35 hX hd0 hn ha hF x1 x3 x4 (gI m (a + 3) (ix ((x1 * (5 : Int32)) + x2)))  m h
  · refine J_sub [(0, .ref a), (1, .int x1), (3, .int x3), (4, .int x4), (5, .int (gI m (a + 3) (ix ((x1 * (5 : Int32)) + x2))))] [1, 2, 4, 5, 0] rfl ?_
    exact t_X8_diskIn_J35 hX hd0 hn ha hF x1 x3 x4 (gI m (a + 3) (ix ((x1 * (5 : Int32)) + x2)))  m h
theorem c_X8_diskIn {G : GG} {l : Launch} {ρ : Nat → Nat} {n t u w v : Nat} {x : Option Nat} (hn : 126 ≤ n) {a : Nat} (ha : isTo a) {x1 : Int32} {x2 : Int32} {x3 : Int32} {x4 : Int32} {m : Mm} {rE : Int32} {mE : Mm} (h : f_X8_diskIn a x1 x2 x3 x4 m = some (rE, mE)) : CT G l yX8_diskIn cX8_diskIn 6 (some .int) 0 0 0 ρ n (RT t u w v x) [.ref a, .int x1, .int x2, .int x3, .int x4] m (some (.int rE)) (RT t u w v x) mE := ct_of_J (by decide) rfl (Nat.le_of_ble_eq_true rfl) (fun X hX e1 e2 e3 e4 hQ hr hl => t_X8_diskIn hX (Nat.le_refl _) hn ha ⟨by rw [hQ, e3, e4], hr, hl⟩ h)
def f_X3_push (a : Nat) (x1 : Int32) (m : Mm) : Option (Mm) := (if (gI m a 3) < (24 : Int32) then gd (inb (gI m a 3) 24) (stI m (a + 2) (ix (gI m a 3)) x1 (fun m1 => stI m1 a 3 ((gI m1 a 3) + (1 : Int32)) (fun m2 => some m2))) else some m)
theorem t_X3_push {X : XX} {G : GG} {ρ : Nat → Nat} {n t u w v : Nat} {x : Option Nat} {d : Nat} {a : Nat} (hX : Ok X G ρ cX3_push 2 RX3 d) (hd0 : 0 ≤ d) (hn : 126 ≤ n) (ha : isLw a) {mE : Mm} (hF : Fin' X G ρ n none none (RT t u w v x) mE) {x1 : Int32} {m : Mm} (h : f_X3_push a x1 m = some mE) : J X G ρ n 2 0 [(0, .ref a), (1, .int x1)] [] (RT t u w v x) m := by
  unfold f_X3_push at h
  refine J_aload_n hX dX3_push_0 rfl 0 rfl ?_
  refine J_getI hX dX3_push_1 fl_RX3_22 (ltn (lt_isLw_0 ha) hn) (lo_isLw_0 ha) rfl ?_
  refine J_aload_n hX dX3_push_4 rfl 0 rfl ?_
  refine J_getR hX dX3_push_5 fl_RX3_15 (ltn (lt_isLw_0 ha) hn) (lo_isLw_0 ha) rfl (rt_isLw_0_2 _ _ _ _ _ ha) ?_
  refine J_alen hX (24 : Int32) dX3_push_8 (ltn (lt_isLw_2 ha) hn) (lay_isLw_2 ha) (by decide) (by decide) ?_
  refine J_icmp_ge hX 32 dX3_push_9 (by decide) h (fun c h => ?_) (fun c h => ?_)
  · refine J_aload_n hX dX3_push_12 rfl 0 rfl ?_
    refine J_getR hX dX3_push_13 fl_RX3_15 (ltn (lt_isLw_0 ha) hn) (lo_isLw_0 ha) rfl (rt_isLw_0_2 _ _ _ _ _ ha) ?_
    refine J_aload_n hX dX3_push_16 rfl 0 rfl ?_
    refine J_getI hX dX3_push_17 fl_RX3_22 (ltn (lt_isLw_0 ha) hn) (lo_isLw_0 ha) rfl ?_
    refine J_iload_n hX dX3_push_20 rfl 1 rfl ?_
    refine J_iastore hX dX3_push_21 (ltn (lt_isLw_2 ha) hn) (lay_isLw_2 ha) h (fun m1 h => ?_)
    refine J_aload_n hX dX3_push_22 rfl 0 rfl ?_
    refine J_dup hX dX3_push_23 rfl ?_
    refine J_getI hX dX3_push_24 fl_RX3_22 (ltn (lt_isLw_0 ha) hn) (lo_isLw_0 ha) rfl ?_
    refine J_iconst hX (1 : Int32) dX3_push_27 ic_1 ?_
    refine J_iadd hX dX3_push_28 ?_
    refine J_putI hX dX3_push_29 pl_RX3_22 (ltn (lt_isLw_0 ha) hn) (lo_isLw_0 ha) rfl rfl rfl h (fun m2 h => ?_)
    exact J_return hX dX3_push_32 h hF
  · exact J_return hX dX3_push_32 h hF
theorem c_X3_push {G : GG} {l : Launch} {ρ : Nat → Nat} {n t u w v : Nat} {x : Option Nat} (hn : 126 ≤ n) {a : Nat} (ha : isLw a) {x1 : Int32} {m : Mm} {mE : Mm} (h : f_X3_push a x1 m = some mE) : CT G l yX3_push cX3_push 2 none 0 0 0 ρ n (RT t u w v x) [.ref a, .int x1] m none (RT t u w v x) mE := ct_of_J (by decide) rfl (Nat.le_of_ble_eq_true rfl) (fun X hX e1 e2 e3 e4 hQ hr hl => t_X3_push hX (Nat.le_refl _) hn ha ⟨by rw [hQ, e3, e4], hr, hl⟩ h)
def f_X3_pop (a : Nat) (m : Mm) : Option (Int32 × Mm) := (if (gI m a 3) < (1 : Int32) then some ((0 : Int32), m) else stI m a 3 ((gI m a 3) - (1 : Int32)) (fun m1 => gd (inb (gI m1 a 3) 24) (some ((gI m1 (a + 2) (ix (gI m1 a 3))), m1))))
theorem t_X3_pop {X : XX} {G : GG} {ρ : Nat → Nat} {n t u w v : Nat} {x : Option Nat} {d : Nat} {a : Nat} (hX : Ok X G ρ cX3_pop 1 RX3 d) (hd0 : 0 ≤ d) (hn : 126 ≤ n) (ha : isLw a) {rE : Int32} {mE : Mm} (hF : Fin' X G ρ n (some .int) (some (.int rE)) (RT t u w v x) mE) {m : Mm} (h : f_X3_pop a m = some (rE, mE)) : J X G ρ n 1 0 [(0, .ref a)] [] (RT t u w v x) m := by
  unfold f_X3_pop at h
  refine J_aload_n hX dX3_pop_0 rfl 0 rfl ?_
  refine J_getI hX dX3_pop_1 fl_RX3_22 (ltn (lt_isLw_0 ha) hn) (lo_isLw_0 ha) rfl ?_
  refine J_iconst hX (1 : Int32) dX3_pop_4 ic_1 ?_
  refine J_icmp_ge hX 10 dX3_pop_5 (by decide) h (fun c h => ?_) (fun c h => ?_)
  · refine J_iconst hX (0 : Int32) dX3_pop_8 ic_0 ?_
    exact J_ireturn hX dX3_pop_9 h hF rfl
  · refine J_aload_n hX dX3_pop_10 rfl 0 rfl ?_
    refine J_dup hX dX3_pop_11 rfl ?_
    refine J_getI hX dX3_pop_12 fl_RX3_22 (ltn (lt_isLw_0 ha) hn) (lo_isLw_0 ha) rfl ?_
    refine J_iconst hX (1 : Int32) dX3_pop_15 ic_1 ?_
    refine J_isub hX dX3_pop_16 ?_
    refine J_putI hX dX3_pop_17 pl_RX3_22 (ltn (lt_isLw_0 ha) hn) (lo_isLw_0 ha) rfl rfl rfl h (fun m1 h => ?_)
    refine J_aload_n hX dX3_pop_20 rfl 0 rfl ?_
    refine J_getR hX dX3_pop_21 fl_RX3_15 (ltn (lt_isLw_0 ha) hn) (lo_isLw_0 ha) rfl (rt_isLw_0_2 _ _ _ _ _ ha) ?_
    refine J_aload_n hX dX3_pop_24 rfl 0 rfl ?_
    refine J_getI hX dX3_pop_25 fl_RX3_22 (ltn (lt_isLw_0 ha) hn) (lo_isLw_0 ha) rfl ?_
    refine J_iaload hX dX3_pop_28 (ltn (lt_isLw_2 ha) hn) (lay_isLw_2 ha) h (fun h => ?_)
    exact J_ireturn hX dX3_pop_29 h hF rfl
theorem c_X3_pop {G : GG} {l : Launch} {ρ : Nat → Nat} {n t u w v : Nat} {x : Option Nat} (hn : 126 ≤ n) {a : Nat} (ha : isLw a) {m : Mm} {rE : Int32} {mE : Mm} (h : f_X3_pop a m = some (rE, mE)) : CT G l yX3_pop cX3_pop 1 (some .int) 0 0 0 ρ n (RT t u w v x) [.ref a] m (some (.int rE)) (RT t u w v x) mE := ct_of_J (by decide) rfl (Nat.le_of_ble_eq_true rfl) (fun X hX e1 e2 e3 e4 hQ hr hl => t_X3_pop hX (Nat.le_refl _) hn ha ⟨by rw [hQ, e3, e4], hr, hl⟩ h)
def f_X3_joined (x0 : Int32) (x1 : Int32) (x2 : Int32) (m : Mm) : Option (Int32 × Mm) := (if x0 = (-12 : Int32) then some ((x1 - x2), m) else (if x0 = (-11 : Int32) then some ((x1 + x2), m) else (if x0 = (-10 : Int32) then (if x1 = x2 then some ((1 : Int32), m) else some ((0 : Int32), m)) else (if x0 = (-9 : Int32) then (if x1 < x2 then some ((1 : Int32), m) else some ((0 : Int32), m)) else (if x0 = (-8 : Int32) then (if x1 = 0 then (if x2 = 0 then some ((0 : Int32), m) else some ((1 : Int32), m)) else some ((1 : Int32), m)) else (if x0 = (-7 : Int32) then (if x1 = 0 then some ((0 : Int32), m) else (if x2 = 0 then some ((0 : Int32), m) else some ((1 : Int32), m))) else some ((x1 * x2), m)))))))
theorem t_X3_joined {X : XX} {G : GG} {ρ : Nat → Nat} {n t u w v : Nat} {x : Option Nat} {d : Nat} (hX : Ok X G ρ cX3_joined 3 RX3 d) (hd0 : 0 ≤ d) (hn : 126 ≤ n) {rE : Int32} {mE : Mm} (hF : Fin' X G ρ n (some .int) (some (.int rE)) (RT t u w v x) mE) {x0 : Int32} {x1 : Int32} {x2 : Int32} {m : Mm} (h : f_X3_joined x0 x1 x2 m = some (rE, mE)) : J X G ρ n 3 0 [(0, .int x0), (1, .int x1), (2, .int x2)] [] (RT t u w v x) m := by
  unfold f_X3_joined at h
  refine J_iload_n hX dX3_joined_0 rfl 0 rfl ?_
  refine J_split h (fun c0 h => ?_) (fun c0 h => ?_)
  · refine J_tabIn hX 94 (-12 : Int32) dX3_joined_1 c0 (by decide) (by decide) (by decide) (by decide) ?_
    refine J_iload_n hX dX3_joined_94 rfl 1 rfl ?_
    refine J_iload_n hX dX3_joined_95 rfl 2 rfl ?_
    refine J_isub hX dX3_joined_96 ?_
    exact J_ireturn hX dX3_joined_97 h hF rfl
  · refine J_split h (fun c1 h => ?_) (fun c1 h => ?_)
    · refine J_tabIn hX 90 (-11 : Int32) dX3_joined_1 c1 (by decide) (by decide) (by decide) (by decide) ?_
      refine J_iload_n hX dX3_joined_90 rfl 1 rfl ?_
      refine J_iload_n hX dX3_joined_91 rfl 2 rfl ?_
      refine J_iadd hX dX3_joined_92 ?_
      exact J_ireturn hX dX3_joined_93 h hF rfl
    · refine J_split h (fun c2 h => ?_) (fun c2 h => ?_)
      · refine J_tabIn hX 79 (-10 : Int32) dX3_joined_1 c2 (by decide) (by decide) (by decide) (by decide) ?_
        refine J_iload_n hX dX3_joined_79 rfl 1 rfl ?_
        refine J_iload_n hX dX3_joined_80 rfl 2 rfl ?_
        refine J_icmp_ne hX 88 dX3_joined_81 (by decide) h (fun c h => ?_) (fun c h => ?_)
        · refine J_iconst hX (1 : Int32) dX3_joined_84 ic_1 ?_
          refine J_goto hX 89 dX3_joined_85 (by decide) ?_
          exact J_ireturn hX dX3_joined_89 h hF rfl
        · refine J_iconst hX (0 : Int32) dX3_joined_88 ic_0 ?_
          exact J_ireturn hX dX3_joined_89 h hF rfl
      · refine J_split h (fun c3 h => ?_) (fun c3 h => ?_)
        · refine J_tabIn hX 68 (-9 : Int32) dX3_joined_1 c3 (by decide) (by decide) (by decide) (by decide) ?_
          refine J_iload_n hX dX3_joined_68 rfl 1 rfl ?_
          refine J_iload_n hX dX3_joined_69 rfl 2 rfl ?_
          refine J_icmp_ge hX 77 dX3_joined_70 (by decide) h (fun c h => ?_) (fun c h => ?_)
          · refine J_iconst hX (1 : Int32) dX3_joined_73 ic_1 ?_
            refine J_goto hX 78 dX3_joined_74 (by decide) ?_
            exact J_ireturn hX dX3_joined_78 h hF rfl
          · refine J_iconst hX (0 : Int32) dX3_joined_77 ic_0 ?_
            exact J_ireturn hX dX3_joined_78 h hF rfl
        · refine J_split h (fun c4 h => ?_) (fun c4 h => ?_)
          · refine J_tabIn hX 54 (-8 : Int32) dX3_joined_1 c4 (by decide) (by decide) (by decide) (by decide) ?_
            refine J_iload_n hX dX3_joined_54 rfl 1 rfl ?_
            refine J_if_ne hX 62 dX3_joined_55 (by decide) h (fun c h => ?_) (fun c h => ?_)
            · refine J_iload_n hX dX3_joined_58 rfl 2 rfl ?_
              refine J_if_eq hX 66 dX3_joined_59 (by decide) h (fun c h => ?_) (fun c h => ?_)
              · refine J_iconst hX (0 : Int32) dX3_joined_66 ic_0 ?_
                exact J_ireturn hX dX3_joined_67 h hF rfl
              · refine J_iconst hX (1 : Int32) dX3_joined_62 ic_1 ?_
                refine J_goto hX 67 dX3_joined_63 (by decide) ?_
                exact J_ireturn hX dX3_joined_67 h hF rfl
            · refine J_iconst hX (1 : Int32) dX3_joined_62 ic_1 ?_
              refine J_goto hX 67 dX3_joined_63 (by decide) ?_
              exact J_ireturn hX dX3_joined_67 h hF rfl
          · refine J_split h (fun c5 h => ?_) (fun c5 h => ?_)
            · refine J_tabIn hX 40 (-7 : Int32) dX3_joined_1 c5 (by decide) (by decide) (by decide) (by decide) ?_
              refine J_iload_n hX dX3_joined_40 rfl 1 rfl ?_
              refine J_if_eq hX 52 dX3_joined_41 (by decide) h (fun c h => ?_) (fun c h => ?_)
              · refine J_iconst hX (0 : Int32) dX3_joined_52 ic_0 ?_
                exact J_ireturn hX dX3_joined_53 h hF rfl
              · refine J_iload_n hX dX3_joined_44 rfl 2 rfl ?_
                refine J_if_eq hX 52 dX3_joined_45 (by decide) h (fun c h => ?_) (fun c h => ?_)
                · refine J_iconst hX (0 : Int32) dX3_joined_52 ic_0 ?_
                  exact J_ireturn hX dX3_joined_53 h hF rfl
                · refine J_iconst hX (1 : Int32) dX3_joined_48 ic_1 ?_
                  refine J_goto hX 53 dX3_joined_49 (by decide) ?_
                  exact J_ireturn hX dX3_joined_53 h hF rfl
            · refine J_tabOut hX 98 [(-12 : Int32), (-11 : Int32), (-10 : Int32), (-9 : Int32), (-8 : Int32), (-7 : Int32)] dX3_joined_1 (by decide) (by simp only [List.mem_cons, List.not_mem_nil, or_false, not_or]; exact ⟨c0, c1, c2, c3, c4, c5⟩) (by decide) ?_
              refine J_iload_n hX dX3_joined_98 rfl 1 rfl ?_
              refine J_iload_n hX dX3_joined_99 rfl 2 rfl ?_
              refine J_imul hX dX3_joined_100 ?_
              exact J_ireturn hX dX3_joined_101 h hF rfl
theorem c_X3_joined {G : GG} {l : Launch} {ρ : Nat → Nat} {n t u w v : Nat} {x : Option Nat} (hn : 126 ≤ n) {x0 : Int32} {x1 : Int32} {x2 : Int32} {m : Mm} {rE : Int32} {mE : Mm} (h : f_X3_joined x0 x1 x2 m = some (rE, mE)) : CT G l yX3_joined cX3_joined 3 (some .int) 0 0 0 ρ n (RT t u w v x) [.int x0, .int x1, .int x2] m (some (.int rE)) (RT t u w v x) mE := ct_of_J (by decide) rfl (Nat.le_of_ble_eq_true rfl) (fun X hX e1 e2 e3 e4 hQ hr hl => t_X3_joined hX (Nat.le_refl _) hn ⟨by rw [hQ, e3, e4], hr, hl⟩ h)
def f_X3_pushOther (a : Nat) (x1 : Int32) (m : Mm) : Option (Mm) := (if x1 < 0 then bd2 (f_X3_pop a m) (fun r2 m1 => bd2 (f_X3_pop a m1) (fun r4 m3 => bd2 (f_X3_joined x1 r4 r2 m3) (fun r6 m5 => bd1 (f_X3_push a r6 m5) (fun m7 => some m7)))) else bd1 (f_X3_push a x1 m) (fun m8 => some m8))
theorem t_X3_pushOther {X : XX} {G : GG} {ρ : Nat → Nat} {n t u w v : Nat} {x : Option Nat} {d : Nat} {a : Nat} (hX : Ok X G ρ cX3_pushOther 4 RX3 d) (hd0 : 1 ≤ d) (hn : 126 ≤ n) (ha : isLw a) {mE : Mm} (hF : Fin' X G ρ n none none (RT t u w v x) mE) {x1 : Int32} {m : Mm} (h : f_X3_pushOther a x1 m = some mE) : J X G ρ n 4 0 [(0, .ref a), (1, .int x1)] [] (RT t u w v x) m := by
  unfold f_X3_pushOther at h
  refine J_iload_n hX dX3_pushOther_0 rfl 1 rfl ?_
  refine J_if_lt hX 12 dX3_pushOther_1 (by decide) h (fun c h => ?_) (fun c h => ?_)
  · refine J_aload_n hX dX3_pushOther_12 rfl 0 rfl ?_
    obtain ⟨r2, m1, h0, h⟩ := bd2_some h
    refine J_callVi (As := []) (st := []) hX dX3_pushOther_13 cw_RX3_29 (by omega) (c_X3_pop hn ha h0) (ltn (lt_isLw_0 ha) hn) (lo_isLw_0 ha) (by decide) rfl rfl rfl (Nat.le_of_ble_eq_true rfl) ?_
    clear h0
    refine J_istore_n hX [(2, .int r2), (0, .ref a), (1, .int x1)] dX3_pushOther_16 rfl (by decide) rfl ?_
    refine J_aload_n hX dX3_pushOther_17 rfl 1 rfl ?_
    obtain ⟨r4, m3, h0, h⟩ := bd2_some h
    refine J_callVi (As := []) (st := []) hX dX3_pushOther_18 cw_RX3_29 (by omega) (c_X3_pop hn ha h0) (ltn (lt_isLw_0 ha) hn) (lo_isLw_0 ha) (by decide) rfl rfl rfl (Nat.le_of_ble_eq_true rfl) ?_
    clear h0
    refine J_istore_n hX [(3, .int r4), (2, .int r2), (0, .ref a), (1, .int x1)] dX3_pushOther_21 rfl (by decide) rfl ?_
    refine J_aload_n hX dX3_pushOther_22 rfl 2 rfl ?_
    refine J_iload_n hX dX3_pushOther_23 rfl 3 rfl ?_
    refine J_iload_n hX dX3_pushOther_24 rfl 0 rfl ?_
    refine J_iload_n hX dX3_pushOther_25 rfl 1 rfl ?_
    obtain ⟨r6, m5, h0, h⟩ := bd2_some h
    refine J_callSi (As := [.int x1, .int r4, .int r2]) (st := [.ref a]) hX dX3_pushOther_26 cw_RX3_42 (by omega) (c_X3_joined hn  h0) rfl rfl (Nat.le_of_ble_eq_true rfl) ?_
    clear h0
    obtain ⟨m7, h0, h⟩ := bd1_some h
    refine J_callVv (As := [.int r6]) (st := []) hX dX3_pushOther_29 cw_RX3_25 (by omega) (c_X3_push hn ha h0) (ltn (lt_isLw_0 ha) hn) (lo_isLw_0 ha) (by decide) rfl rfl rfl (Nat.le_of_ble_eq_true rfl) ?_
    clear h0
    exact J_return hX dX3_pushOther_32 h hF
  · refine J_aload_n hX dX3_pushOther_4 rfl 0 rfl ?_
    refine J_iload_n hX dX3_pushOther_5 rfl 1 rfl ?_
    obtain ⟨m8, h0, h⟩ := bd1_some h
    refine J_callVv (As := [.int x1]) (st := []) hX dX3_pushOther_6 cw_RX3_25 (by omega) (c_X3_push hn ha h0) (ltn (lt_isLw_0 ha) hn) (lo_isLw_0 ha) (by decide) rfl rfl rfl (Nat.le_of_ble_eq_true rfl) ?_
    clear h0
    refine J_goto hX 32 dX3_pushOther_9 (by decide) ?_
    exact J_return hX dX3_pushOther_32 h hF
theorem c_X3_pushOther {G : GG} {l : Launch} {ρ : Nat → Nat} {n t u w v : Nat} {x : Option Nat} (hn : 126 ≤ n) {a : Nat} (ha : isLw a) {x1 : Int32} {m : Mm} {mE : Mm} (h : f_X3_pushOther a x1 m = some mE) : CT G l yX3_pushOther cX3_pushOther 4 none 1 0 0 ρ n (RT t u w v x) [.ref a, .int x1] m none (RT t u w v x) mE := ct_of_J (by decide) rfl (Nat.le_of_ble_eq_true rfl) (fun X hX e1 e2 e3 e4 hQ hr hl => t_X3_pushOther hX (Nat.le_refl _) hn ha ⟨by rw [hQ, e3, e4], hr, hl⟩ h)
def f_J9_floorMod_7cf53 (x0 : Int32) (x1 : Int32) (m : Mm) : Option (Int32 × Mm) := gd (nz x1) ((if (x0 ^^^ x1) < 0 then (if (x0 - x0 / x1 * x1) = 0 then some ((x0 - x0 / x1 * x1), m) else some (((x0 - x0 / x1 * x1) + x1), m)) else some ((x0 - x0 / x1 * x1), m)))
theorem t_J9_floorMod_7cf53 {X : XX} {G : GG} {ρ : Nat → Nat} {n t u w v : Nat} {x : Option Nat} {d : Nat} (hX : Ok X G ρ cJ9_floorMod_7cf53 3 RJ9 d) (hd0 : 0 ≤ d) (hn : 126 ≤ n) {rE : Int32} {mE : Mm} (hF : Fin' X G ρ n (some .int) (some (.int rE)) (RT t u w v x) mE) {x0 : Int32} {x1 : Int32} {m : Mm} (h : f_J9_floorMod_7cf53 x0 x1 m = some (rE, mE)) : J X G ρ n 3 0 [(0, .int x0), (1, .int x1)] [] (RT t u w v x) m := by
  unfold f_J9_floorMod_7cf53 at h
  refine J_iload_n hX dJ9_floorMod_7cf53_0 rfl 0 rfl ?_
  refine J_iload_n hX dJ9_floorMod_7cf53_1 rfl 1 rfl ?_
  refine J_irem hX dJ9_floorMod_7cf53_2 h (fun h => ?_)
  refine J_istore_n hX [(2, .int (x0 - x0 / x1 * x1)), (0, .int x0), (1, .int x1)] dJ9_floorMod_7cf53_3 rfl (by decide) rfl ?_
  refine J_iload_n hX dJ9_floorMod_7cf53_4 rfl 1 rfl ?_
  refine J_iload_n hX dJ9_floorMod_7cf53_5 rfl 2 rfl ?_
  refine J_ixor hX dJ9_floorMod_7cf53_6 ?_
  refine J_if_ge hX 18 dJ9_floorMod_7cf53_7 (by decide) h (fun c h => ?_) (fun c h => ?_)
  · refine J_iload_n hX dJ9_floorMod_7cf53_10 rfl 0 rfl ?_
    refine J_if_eq hX 18 dJ9_floorMod_7cf53_11 (by decide) h (fun c h => ?_) (fun c h => ?_)
    · refine J_iload_n hX dJ9_floorMod_7cf53_18 rfl 0 rfl ?_
      exact J_ireturn hX dJ9_floorMod_7cf53_19 h hF rfl
    · refine J_iload_n hX dJ9_floorMod_7cf53_14 rfl 0 rfl ?_
      refine J_iload_n hX dJ9_floorMod_7cf53_15 rfl 2 rfl ?_
      refine J_iadd hX dJ9_floorMod_7cf53_16 ?_
      exact J_ireturn hX dJ9_floorMod_7cf53_17 h hF rfl
  · refine J_iload_n hX dJ9_floorMod_7cf53_18 rfl 0 rfl ?_
    exact J_ireturn hX dJ9_floorMod_7cf53_19 h hF rfl
theorem c_J9_floorMod_7cf53 {G : GG} {l : Launch} {ρ : Nat → Nat} {n t u w v : Nat} {x : Option Nat} (hn : 126 ≤ n) {x0 : Int32} {x1 : Int32} {m : Mm} {rE : Int32} {mE : Mm} (h : f_J9_floorMod_7cf53 x0 x1 m = some (rE, mE)) : CT G l yJ9_floorMod_7cf53 cJ9_floorMod_7cf53 3 (some .int) 0 0 0 ρ n (RT t u w v x) [.int x0, .int x1] m (some (.int rE)) (RT t u w v x) mE := ct_of_J (by decide +kernel) rfl (Nat.le_of_ble_eq_true rfl) (fun X hX e1 e2 e3 e4 hQ hr hl => t_J9_floorMod_7cf53 hX (Nat.le_refl _) hn ⟨by rw [hQ, e3, e4], hr, hl⟩ h)
def f_X3_parityOf_L15 (a : Nat) : Nat → Int32 → Int32 → Int32 → Int32 → Int32 →  Mm → Option (Int32 × Mm)
  | 0, _, _, _, _, _, _ => none
  | k + 1, v1, v2, v3, v4, v5, m => (if v5 < (gI m a 1) then gd (inb v5 1000) ((if (gI m (a + 1) (ix v5)) = (-6 : Int32) then bd2 (f_X3_pop a m) (fun r9 m8 => (if r9 = 0 then bd1 (f_X3_push a (1 : Int32) m8) (fun m11 => f_X3_parityOf_L15 a k v1 v2 v3 v4 (v5 + (1 : Int32)) m11) else bd1 (f_X3_push a (0 : Int32) m8) (fun m10 => f_X3_parityOf_L15 a k v1 v2 v3 v4 (v5 + (1 : Int32)) m10))) else (if (gI m (a + 1) (ix v5)) = (-5 : Int32) then bd1 (f_X3_push a v4 m) (fun m12 => f_X3_parityOf_L15 a k v1 v2 v3 v4 (v5 + (1 : Int32)) m12) else (if (gI m (a + 1) (ix v5)) = (-4 : Int32) then bd1 (f_X3_push a v3 m) (fun m13 => f_X3_parityOf_L15 a k v1 v2 v3 v4 (v5 + (1 : Int32)) m13) else (if (gI m (a + 1) (ix v5)) = (-3 : Int32) then bd1 (f_X3_push a v2 m) (fun m14 => f_X3_parityOf_L15 a k v1 v2 v3 v4 (v5 + (1 : Int32)) m14) else (if (gI m (a + 1) (ix v5)) = (-2 : Int32) then bd1 (f_X3_push a v1 m) (fun m15 => f_X3_parityOf_L15 a k v1 v2 v3 v4 (v5 + (1 : Int32)) m15) else gd (inb v5 1000) (bd1 (f_X3_pushOther a (gI m (a + 1) (ix v5)) m) (fun m16 => f_X3_parityOf_L15 a k v1 v2 v3 v4 (v5 + (1 : Int32)) m16)))))))) else (if (gI m a 1) = 0 then bd2 (f_J9_floorMod_7cf53 v1 v2 m) (fun r7 m6 => some (r7, m6)) else bd2 (f_X3_pop a m) (fun r3 m2 => bd2 (f_J9_floorMod_7cf53 r3 v2 m2) (fun r5 m4 => some (r5, m4)))))
theorem t_X3_parityOf_L15 {X : XX} {G : GG} {ρ : Nat → Nat} {n t u w v : Nat} {x : Option Nat} {d : Nat} {a : Nat} (hX : Ok X G ρ cX3_parityOf 6 RX3 d) (hd0 : 2 ≤ d) (hn : 126 ≤ n) (ha : isLw a) {rE : Int32} {mE : Mm} (hF : Fin' X G ρ n (some .int) (some (.int rE)) (RT t u w v x) mE) : ∀ (k : Nat) (v1 : Int32) (v2 : Int32) (v3 : Int32) (v4 : Int32) (v5 : Int32) (m : Mm), f_X3_parityOf_L15 a k v1 v2 v3 v4 v5 m = some (rE, mE) → J X G ρ n 6 15 [(0, .ref a), (1, .int v1), (2, .int v2), (3, .int v3), (4, .int v4), (5, .int v5)] [] (RT t u w v x) m := by
  intro k
  induction k with
  | zero => intro _ _ _ _ _ _ h; rw [f_X3_parityOf_L15] at h; cases h
  | succ k ih =>
    intro v1 v2 v3 v4 v5 m h
    rw [f_X3_parityOf_L15] at h
    refine J_iload hX dX3_parityOf_15 5 rfl ?_
    refine J_aload_n hX dX3_parityOf_17 rfl 0 rfl ?_
    refine J_getI hX dX3_parityOf_18 fl_RX3_18 (ltn (lt_isLw_0 ha) hn) (lo_isLw_0 ha) rfl ?_
    refine J_icmp_ge hX 133 dX3_parityOf_21 (by decide) h (fun c h => ?_) (fun c h => ?_)
    · refine J_aload_n hX dX3_parityOf_24 rfl 0 rfl ?_
      refine J_getR hX dX3_parityOf_25 fl_RX3_9 (ltn (lt_isLw_0 ha) hn) (lo_isLw_0 ha) rfl (rt_isLw_0_0 _ _ _ _ _ ha) ?_
      refine J_iload hX dX3_parityOf_28 5 rfl ?_
      refine J_iaload hX dX3_parityOf_30 (ltn (lt_isLw_1 ha) hn) (lay_isLw_1 ha) h (fun h => ?_)
      refine J_split h (fun c0 h => ?_) (fun c0 h => ?_)
      · refine J_tabIn hX 97 (-6 : Int32) dX3_parityOf_31 c0 (by decide) (by decide) (by decide) (by decide) ?_
        refine J_aload_n hX dX3_parityOf_97 rfl 0 rfl ?_
        refine J_aload_n hX dX3_parityOf_98 rfl 0 rfl ?_
        obtain ⟨r9, m8, h0, h⟩ := bd2_some h
        refine J_callVi (As := []) (st := [.ref a]) hX dX3_parityOf_99 cw_RX3_29 (by omega) (c_X3_pop hn ha h0) (ltn (lt_isLw_0 ha) hn) (lo_isLw_0 ha) (by decide) rfl rfl rfl (Nat.le_of_ble_eq_true rfl) ?_
        clear h0
        refine J_if_ne hX 109 dX3_parityOf_102 (by decide) h (fun c h => ?_) (fun c h => ?_)
        · refine J_iconst hX (1 : Int32) dX3_parityOf_105 ic_1 ?_
          refine J_goto hX 110 dX3_parityOf_106 (by decide) ?_
          obtain ⟨m11, h0, h⟩ := bd1_some h
          refine J_callVv (As := [.int (1 : Int32)]) (st := []) hX dX3_parityOf_110 cw_RX3_25 (by omega) (c_X3_push hn ha h0) (ltn (lt_isLw_0 ha) hn) (lo_isLw_0 ha) (by decide) rfl rfl rfl (Nat.le_of_ble_eq_true rfl) ?_
          clear h0
          refine J_goto hX 127 dX3_parityOf_113 (by decide) ?_
          refine J_iinc hX (v5 + (1 : Int32)) [(5, .int (v5 + (1 : Int32))), (0, .ref a), (1, .int v1), (2, .int v2), (3, .int v3), (4, .int v4)] dX3_parityOf_127 5 rfl (congrArg (fun z => v5 + z) ic_1) (by decide) rfl ?_
          refine J_goto hX 15 dX3_parityOf_130 (by decide) ?_
          refine J_sub [(0, .ref a), (1, .int v1), (2, .int v2), (3, .int v3), (4, .int v4), (5, .int (v5 + (1 : Int32)))] [1, 2, 3, 4, 5, 0] rfl ?_
          exact ih v1 v2 v3 v4 (v5 + (1 : Int32)) m11 h
        · refine J_iconst hX (0 : Int32) dX3_parityOf_109 ic_0 ?_
          obtain ⟨m10, h0, h⟩ := bd1_some h
          refine J_callVv (As := [.int (0 : Int32)]) (st := []) hX dX3_parityOf_110 cw_RX3_25 (by omega) (c_X3_push hn ha h0) (ltn (lt_isLw_0 ha) hn) (lo_isLw_0 ha) (by decide) rfl rfl rfl (Nat.le_of_ble_eq_true rfl) ?_
          clear h0
          refine J_goto hX 127 dX3_parityOf_113 (by decide) ?_
          refine J_iinc hX (v5 + (1 : Int32)) [(5, .int (v5 + (1 : Int32))), (0, .ref a), (1, .int v1), (2, .int v2), (3, .int v3), (4, .int v4)] dX3_parityOf_127 5 rfl (congrArg (fun z => v5 + z) ic_1) (by decide) rfl ?_
          refine J_goto hX 15 dX3_parityOf_130 (by decide) ?_
          refine J_sub [(0, .ref a), (1, .int v1), (2, .int v2), (3, .int v3), (4, .int v4), (5, .int (v5 + (1 : Int32)))] [1, 2, 3, 4, 5, 0] rfl ?_
          exact ih v1 v2 v3 v4 (v5 + (1 : Int32)) m10 h
      · refine J_split h (fun c1 h => ?_) (fun c1 h => ?_)
        · refine J_tabIn hX 88 (-5 : Int32) dX3_parityOf_31 c1 (by decide) (by decide) (by decide) (by decide) ?_
          refine J_aload_n hX dX3_parityOf_88 rfl 0 rfl ?_
          refine J_iload hX dX3_parityOf_89 4 rfl ?_
          obtain ⟨m12, h0, h⟩ := bd1_some h
          refine J_callVv (As := [.int v4]) (st := []) hX dX3_parityOf_91 cw_RX3_25 (by omega) (c_X3_push hn ha h0) (ltn (lt_isLw_0 ha) hn) (lo_isLw_0 ha) (by decide) rfl rfl rfl (Nat.le_of_ble_eq_true rfl) ?_
          clear h0
          refine J_goto hX 127 dX3_parityOf_94 (by decide) ?_
          refine J_iinc hX (v5 + (1 : Int32)) [(5, .int (v5 + (1 : Int32))), (0, .ref a), (1, .int v1), (2, .int v2), (3, .int v3), (4, .int v4)] dX3_parityOf_127 5 rfl (congrArg (fun z => v5 + z) ic_1) (by decide) rfl ?_
          refine J_goto hX 15 dX3_parityOf_130 (by decide) ?_
          refine J_sub [(0, .ref a), (1, .int v1), (2, .int v2), (3, .int v3), (4, .int v4), (5, .int (v5 + (1 : Int32)))] [1, 2, 3, 4, 5, 0] rfl ?_
          exact ih v1 v2 v3 v4 (v5 + (1 : Int32)) m12 h
        · refine J_split h (fun c2 h => ?_) (fun c2 h => ?_)
          · refine J_tabIn hX 80 (-4 : Int32) dX3_parityOf_31 c2 (by decide) (by decide) (by decide) (by decide) ?_
            refine J_aload_n hX dX3_parityOf_80 rfl 0 rfl ?_
            refine J_iload_n hX dX3_parityOf_81 rfl 3 rfl ?_
            obtain ⟨m13, h0, h⟩ := bd1_some h
            refine J_callVv (As := [.int v3]) (st := []) hX dX3_parityOf_82 cw_RX3_25 (by omega) (c_X3_push hn ha h0) (ltn (lt_isLw_0 ha) hn) (lo_isLw_0 ha) (by decide) rfl rfl rfl (Nat.le_of_ble_eq_true rfl) ?_
            clear h0
            refine J_goto hX 127 dX3_parityOf_85 (by decide) ?_
            refine J_iinc hX (v5 + (1 : Int32)) [(5, .int (v5 + (1 : Int32))), (0, .ref a), (1, .int v1), (2, .int v2), (3, .int v3), (4, .int v4)] dX3_parityOf_127 5 rfl (congrArg (fun z => v5 + z) ic_1) (by decide) rfl ?_
            refine J_goto hX 15 dX3_parityOf_130 (by decide) ?_
            refine J_sub [(0, .ref a), (1, .int v1), (2, .int v2), (3, .int v3), (4, .int v4), (5, .int (v5 + (1 : Int32)))] [1, 2, 3, 4, 5, 0] rfl ?_
            exact ih v1 v2 v3 v4 (v5 + (1 : Int32)) m13 h
          · refine J_split h (fun c3 h => ?_) (fun c3 h => ?_)
            · refine J_tabIn hX 72 (-3 : Int32) dX3_parityOf_31 c3 (by decide) (by decide) (by decide) (by decide) ?_
              refine J_aload_n hX dX3_parityOf_72 rfl 0 rfl ?_
              refine J_iload_n hX dX3_parityOf_73 rfl 2 rfl ?_
              obtain ⟨m14, h0, h⟩ := bd1_some h
              refine J_callVv (As := [.int v2]) (st := []) hX dX3_parityOf_74 cw_RX3_25 (by omega) (c_X3_push hn ha h0) (ltn (lt_isLw_0 ha) hn) (lo_isLw_0 ha) (by decide) rfl rfl rfl (Nat.le_of_ble_eq_true rfl) ?_
              clear h0
              refine J_goto hX 127 dX3_parityOf_77 (by decide) ?_
              refine J_iinc hX (v5 + (1 : Int32)) [(5, .int (v5 + (1 : Int32))), (0, .ref a), (1, .int v1), (2, .int v2), (3, .int v3), (4, .int v4)] dX3_parityOf_127 5 rfl (congrArg (fun z => v5 + z) ic_1) (by decide) rfl ?_
              refine J_goto hX 15 dX3_parityOf_130 (by decide) ?_
              refine J_sub [(0, .ref a), (1, .int v1), (2, .int v2), (3, .int v3), (4, .int v4), (5, .int (v5 + (1 : Int32)))] [1, 2, 3, 4, 5, 0] rfl ?_
              exact ih v1 v2 v3 v4 (v5 + (1 : Int32)) m14 h
            · refine J_split h (fun c4 h => ?_) (fun c4 h => ?_)
              · refine J_tabIn hX 64 (-2 : Int32) dX3_parityOf_31 c4 (by decide) (by decide) (by decide) (by decide) ?_
                refine J_aload_n hX dX3_parityOf_64 rfl 0 rfl ?_
                refine J_iload_n hX dX3_parityOf_65 rfl 1 rfl ?_
                obtain ⟨m15, h0, h⟩ := bd1_some h
                refine J_callVv (As := [.int v1]) (st := []) hX dX3_parityOf_66 cw_RX3_25 (by omega) (c_X3_push hn ha h0) (ltn (lt_isLw_0 ha) hn) (lo_isLw_0 ha) (by decide) rfl rfl rfl (Nat.le_of_ble_eq_true rfl) ?_
                clear h0
                refine J_goto hX 127 dX3_parityOf_69 (by decide) ?_
                refine J_iinc hX (v5 + (1 : Int32)) [(5, .int (v5 + (1 : Int32))), (0, .ref a), (1, .int v1), (2, .int v2), (3, .int v3), (4, .int v4)] dX3_parityOf_127 5 rfl (congrArg (fun z => v5 + z) ic_1) (by decide) rfl ?_
                refine J_goto hX 15 dX3_parityOf_130 (by decide) ?_
                refine J_sub [(0, .ref a), (1, .int v1), (2, .int v2), (3, .int v3), (4, .int v4), (5, .int (v5 + (1 : Int32)))] [1, 2, 3, 4, 5, 0] rfl ?_
                exact ih v1 v2 v3 v4 (v5 + (1 : Int32)) m15 h
              · refine J_tabOut hX 116 [(-6 : Int32), (-5 : Int32), (-4 : Int32), (-3 : Int32), (-2 : Int32)] dX3_parityOf_31 (by decide) (by simp only [List.mem_cons, List.not_mem_nil, or_false, not_or]; exact ⟨c0, c1, c2, c3, c4⟩) (by decide) ?_
                refine J_aload_n hX dX3_parityOf_116 rfl 0 rfl ?_
                refine J_aload_n hX dX3_parityOf_117 rfl 0 rfl ?_
                refine J_getR hX dX3_parityOf_118 fl_RX3_9 (ltn (lt_isLw_0 ha) hn) (lo_isLw_0 ha) rfl (rt_isLw_0_0 _ _ _ _ _ ha) ?_
                refine J_iload hX dX3_parityOf_121 5 rfl ?_
                refine J_iaload hX dX3_parityOf_123 (ltn (lt_isLw_1 ha) hn) (lay_isLw_1 ha) h (fun h => ?_)
                obtain ⟨m16, h0, h⟩ := bd1_some h
                refine J_callVv (As := [.int (gI m (a + 1) (ix v5))]) (st := []) hX dX3_parityOf_124 cw_RX3_33 (by omega) (c_X3_pushOther hn ha h0) (ltn (lt_isLw_0 ha) hn) (lo_isLw_0 ha) (by decide) rfl rfl rfl (Nat.le_of_ble_eq_true rfl) ?_
                clear h0
                refine J_iinc hX (v5 + (1 : Int32)) [(5, .int (v5 + (1 : Int32))), (0, .ref a), (1, .int v1), (2, .int v2), (3, .int v3), (4, .int v4)] dX3_parityOf_127 5 rfl (congrArg (fun z => v5 + z) ic_1) (by decide) rfl ?_
                refine J_goto hX 15 dX3_parityOf_130 (by decide) ?_
                refine J_sub [(0, .ref a), (1, .int v1), (2, .int v2), (3, .int v3), (4, .int v4), (5, .int (v5 + (1 : Int32)))] [1, 2, 3, 4, 5, 0] rfl ?_
                exact ih v1 v2 v3 v4 (v5 + (1 : Int32)) m16 h
    · refine J_aload_n hX dX3_parityOf_133 rfl 0 rfl ?_
      refine J_getI hX dX3_parityOf_134 fl_RX3_18 (ltn (lt_isLw_0 ha) hn) (lo_isLw_0 ha) rfl ?_
      refine J_if_ne hX 144 dX3_parityOf_137 (by decide) h (fun c h => ?_) (fun c h => ?_)
      · refine J_iload_n hX dX3_parityOf_140 rfl 1 rfl ?_
        refine J_goto hX 148 dX3_parityOf_141 (by decide) ?_
        refine J_iload_n hX dX3_parityOf_148 rfl 2 rfl ?_
        obtain ⟨r7, m6, h0, h⟩ := bd2_some h
        refine J_callSi (As := [.int v1, .int v2]) (st := []) hX dX3_parityOf_149 cw_RX3_36 (by omega) (c_J9_floorMod_7cf53 hn  h0) rfl rfl (Nat.le_of_ble_eq_true rfl) ?_
        clear h0
        exact J_ireturn hX dX3_parityOf_152 h hF rfl
      · refine J_aload_n hX dX3_parityOf_144 rfl 0 rfl ?_
        obtain ⟨r3, m2, h0, h⟩ := bd2_some h
        refine J_callVi (As := []) (st := []) hX dX3_parityOf_145 cw_RX3_29 (by omega) (c_X3_pop hn ha h0) (ltn (lt_isLw_0 ha) hn) (lo_isLw_0 ha) (by decide) rfl rfl rfl (Nat.le_of_ble_eq_true rfl) ?_
        clear h0
        refine J_iload_n hX dX3_parityOf_148 rfl 2 rfl ?_
        obtain ⟨r5, m4, h0, h⟩ := bd2_some h
        refine J_callSi (As := [.int r3, .int v2]) (st := []) hX dX3_parityOf_149 cw_RX3_36 (by omega) (c_J9_floorMod_7cf53 hn  h0) rfl rfl (Nat.le_of_ble_eq_true rfl) ?_
        clear h0
        exact J_ireturn hX dX3_parityOf_152 h hF rfl
def f_X3_parityOf (a : Nat) (x1 : Int32) (x2 : Int32) (x3 : Int32) (x4 : Int32) (m : Mm) : Option (Int32 × Mm) := (if x2 < (1 : Int32) then some ((0 : Int32), m) else stI m a 3 (0 : Int32) (fun m1 => f_X3_parityOf_L15 a FU x1 x2 x3 x4 (0 : Int32)  m1))
theorem t_X3_parityOf {X : XX} {G : GG} {ρ : Nat → Nat} {n t u w v : Nat} {x : Option Nat} {d : Nat} {a : Nat} (hX : Ok X G ρ cX3_parityOf 6 RX3 d) (hd0 : 2 ≤ d) (hn : 126 ≤ n) (ha : isLw a) {rE : Int32} {mE : Mm} (hF : Fin' X G ρ n (some .int) (some (.int rE)) (RT t u w v x) mE) {x1 : Int32} {x2 : Int32} {x3 : Int32} {x4 : Int32} {m : Mm} (h : f_X3_parityOf a x1 x2 x3 x4 m = some (rE, mE)) : J X G ρ n 6 0 [(0, .ref a), (1, .int x1), (2, .int x2), (3, .int x3), (4, .int x4)] [] (RT t u w v x) m := by
  unfold f_X3_parityOf at h
  refine J_iload_n hX dX3_parityOf_0 rfl 2 rfl ?_
  refine J_iconst hX (1 : Int32) dX3_parityOf_1 ic_1 ?_
  refine J_icmp_ge hX 7 dX3_parityOf_2 (by decide) h (fun c h => ?_) (fun c h => ?_)
  · refine J_iconst hX (0 : Int32) dX3_parityOf_5 ic_0 ?_
    exact J_ireturn hX dX3_parityOf_6 h hF rfl
  · refine J_aload_n hX dX3_parityOf_7 rfl 0 rfl ?_
    refine J_iconst hX (0 : Int32) dX3_parityOf_8 ic_0 ?_
    refine J_putI hX dX3_parityOf_9 pl_RX3_22 (ltn (lt_isLw_0 ha) hn) (lo_isLw_0 ha) rfl rfl rfl h (fun m1 h => ?_)
    refine J_iconst hX (0 : Int32) dX3_parityOf_12 ic_0 ?_
    refine J_istore hX [(5, .int (0 : Int32)), (0, .ref a), (1, .int x1), (2, .int x2), (3, .int x3), (4, .int x4)] dX3_parityOf_13 (by decide) rfl ?_
    refine J_sub [(0, .ref a), (1, .int x1), (2, .int x2), (3, .int x3), (4, .int x4), (5, .int (0 : Int32))] [1, 2, 3, 4, 5, 0] rfl ?_
    exact t_X3_parityOf_L15 hX hd0 hn ha hF FU x1 x2 x3 x4 (0 : Int32)  m1 h
theorem c_X3_parityOf {G : GG} {l : Launch} {ρ : Nat → Nat} {n t u w v : Nat} {x : Option Nat} (hn : 126 ≤ n) {a : Nat} (ha : isLw a) {x1 : Int32} {x2 : Int32} {x3 : Int32} {x4 : Int32} {m : Mm} {rE : Int32} {mE : Mm} (h : f_X3_parityOf a x1 x2 x3 x4 m = some (rE, mE)) : CT G l yX3_parityOf cX3_parityOf 6 (some .int) 2 0 0 ρ n (RT t u w v x) [.ref a, .int x1, .int x2, .int x3, .int x4] m (some (.int rE)) (RT t u w v x) mE := ct_of_J (by decide) rfl (Nat.le_of_ble_eq_true rfl) (fun X hX e1 e2 e3 e4 hQ hr hl => t_X3_parityOf hX (Nat.le_refl _) hn ha ⟨by rw [hQ, e3, e4], hr, hl⟩ h)
def f_X4_numberData_L2 (a : Nat) : Nat → Int32 → Int32 →  Mm → Option (Mm)
  | 0, _, _, _ => none
  | k + 1, v1, v2, m => gd (inb v1 40) ((if v2 < (gI m (a + 1) (ix v1)) then gd (inb ((v1 * (5 : Int32)) + v2) 200) (stI m (a + 9) (ix ((v1 * (5 : Int32)) + v2)) (-1 : Int32) (fun m1 => gd (inb v1 40) ((if v2 = (gI m1 (a + 2) (ix v1)) then f_X4_numberData_L2 a k v1 (v2 + (1 : Int32)) m1 else gd (inb ((v1 * (5 : Int32)) + v2) 200) (stI m1 (a + 9) (ix ((v1 * (5 : Int32)) + v2)) (gI m1 a 2) (fun m2 => gd (inb (gI m2 a 2) 160) (stI m2 (a + 10) (ix (gI m2 a 2)) ((v1 * (5 : Int32)) + v2) (fun m3 => stI m3 a 2 ((gI m3 a 2) + (1 : Int32)) (fun m4 => f_X4_numberData_L2 a k v1 (v2 + (1 : Int32)) m4))))))))) else some m))
theorem t_X4_numberData_L2 {X : XX} {G : GG} {ρ : Nat → Nat} {n t u w v : Nat} {x : Option Nat} {d : Nat} {a : Nat} (hX : Ok X G ρ cX4_numberData 4 RX4 d) (hd0 : 0 ≤ d) (hn : 126 ≤ n) (ha : isLa a) {mE : Mm} (hF : Fin' X G ρ n none none (RT t u w v x) mE) : ∀ (k : Nat) (v1 : Int32) (v2 : Int32) (m : Mm), f_X4_numberData_L2 a k v1 v2 m = some mE → J X G ρ n 4 2 [(0, .ref a), (1, .int v1), (2, .int v2)] [] (RT t u w v x) m := by
  intro k
  induction k with
  | zero => intro _ _ _ h; rw [f_X4_numberData_L2] at h; cases h
  | succ k ih =>
    intro v1 v2 m h
    rw [f_X4_numberData_L2] at h
    refine J_iload_n hX dX4_numberData_2 rfl 2 rfl ?_
    refine J_aload_n hX dX4_numberData_3 rfl 0 rfl ?_
    refine J_getR hX dX4_numberData_4 fl_RX4_9 (ltn (lt_isLa_0 ha) hn) (lo_isLa_0 ha) rfl (rt_isLa_0_3 _ _ _ _ _ ha) ?_
    refine J_iload_n hX dX4_numberData_7 rfl 1 rfl ?_
    refine J_iaload hX dX4_numberData_8 (ltn (lt_isLa_1 ha) hn) (lay_isLa_1 ha) h (fun h => ?_)
    refine J_icmp_ge hX 71 dX4_numberData_9 (by decide) h (fun c h => ?_) (fun c h => ?_)
    · refine J_iload_n hX dX4_numberData_12 rfl 1 rfl ?_
      refine J_iconst hX (5 : Int32) dX4_numberData_13 ic_5 ?_
      refine J_imul hX dX4_numberData_14 ?_
      refine J_iload_n hX dX4_numberData_15 rfl 2 rfl ?_
      refine J_iadd hX dX4_numberData_16 ?_
      refine J_istore_n hX [(3, .int ((v1 * (5 : Int32)) + v2)), (0, .ref a), (1, .int v1), (2, .int v2)] dX4_numberData_17 rfl (by decide) rfl ?_
      refine J_aload_n hX dX4_numberData_18 rfl 1 rfl ?_
      refine J_getR hX dX4_numberData_19 fl_RX4_36 (ltn (lt_isLa_0 ha) hn) (lo_isLa_0 ha) rfl (rt_isLa_0_11 _ _ _ _ _ ha) ?_
      refine J_iload_n hX dX4_numberData_22 rfl 0 rfl ?_
      refine J_iconst hX (-1 : Int32) dX4_numberData_23 ic_m1 ?_
      refine J_iastore hX dX4_numberData_24 (ltn (lt_isLa_9 ha) hn) (lay_isLa_9 ha) h (fun m1 h => ?_)
      refine J_iload_n hX dX4_numberData_25 rfl 3 rfl ?_
      refine J_aload_n hX dX4_numberData_26 rfl 1 rfl ?_
      refine J_getR hX dX4_numberData_27 fl_RX4_15 (ltn (lt_isLa_0 ha) hn) (lo_isLa_0 ha) rfl (rt_isLa_0_4 _ _ _ _ _ ha) ?_
      refine J_iload_n hX dX4_numberData_30 rfl 2 rfl ?_
      refine J_iaload hX dX4_numberData_31 (ltn (lt_isLa_2 ha) hn) (lay_isLa_2 ha) h (fun h => ?_)
      refine J_icmp_eq hX 65 dX4_numberData_32 (by decide) h (fun c h => ?_) (fun c h => ?_)
      · refine J_iinc hX (v2 + (1 : Int32)) [(2, .int (v2 + (1 : Int32))), (3, .int ((v1 * (5 : Int32)) + v2)), (0, .ref a), (1, .int v1)] dX4_numberData_65 3 rfl (congrArg (fun z => v2 + z) ic_1) (by decide) rfl ?_
        refine J_goto hX 2 dX4_numberData_68 (by decide) ?_
        refine J_sub [(0, .ref a), (1, .int v1), (2, .int (v2 + (1 : Int32)))] [2, 3, 0] rfl ?_
        exact ih v1 (v2 + (1 : Int32)) m1 h
      · refine J_aload_n hX dX4_numberData_35 rfl 1 rfl ?_
        refine J_getR hX dX4_numberData_36 fl_RX4_36 (ltn (lt_isLa_0 ha) hn) (lo_isLa_0 ha) rfl (rt_isLa_0_11 _ _ _ _ _ ha) ?_
        refine J_iload_n hX dX4_numberData_39 rfl 0 rfl ?_
        refine J_aload_n hX dX4_numberData_40 rfl 1 rfl ?_
        refine J_getI hX dX4_numberData_41 fl_RX4_81 (ltn (lt_isLa_0 ha) hn) (lo_isLa_0 ha) rfl ?_
        refine J_iastore hX dX4_numberData_44 (ltn (lt_isLa_9 ha) hn) (lay_isLa_9 ha) h (fun m2 h => ?_)
        refine J_aload_n hX dX4_numberData_45 rfl 1 rfl ?_
        refine J_getR hX dX4_numberData_46 fl_RX4_39 (ltn (lt_isLa_0 ha) hn) (lo_isLa_0 ha) rfl (rt_isLa_0_12 _ _ _ _ _ ha) ?_
        refine J_aload_n hX dX4_numberData_49 rfl 1 rfl ?_
        refine J_getI hX dX4_numberData_50 fl_RX4_81 (ltn (lt_isLa_0 ha) hn) (lo_isLa_0 ha) rfl ?_
        refine J_iload_n hX dX4_numberData_53 rfl 0 rfl ?_
        refine J_iastore hX dX4_numberData_54 (ltn (lt_isLa_10 ha) hn) (lay_isLa_10 ha) h (fun m3 h => ?_)
        refine J_aload_n hX dX4_numberData_55 rfl 1 rfl ?_
        refine J_dup hX dX4_numberData_56 rfl ?_
        refine J_getI hX dX4_numberData_57 fl_RX4_81 (ltn (lt_isLa_0 ha) hn) (lo_isLa_0 ha) rfl ?_
        refine J_iconst hX (1 : Int32) dX4_numberData_60 ic_1 ?_
        refine J_iadd hX dX4_numberData_61 ?_
        refine J_putI hX dX4_numberData_62 pl_RX4_81 (ltn (lt_isLa_0 ha) hn) (lo_isLa_0 ha) rfl rfl rfl h (fun m4 h => ?_)
        refine J_iinc hX (v2 + (1 : Int32)) [(2, .int (v2 + (1 : Int32))), (3, .int ((v1 * (5 : Int32)) + v2)), (0, .ref a), (1, .int v1)] dX4_numberData_65 3 rfl (congrArg (fun z => v2 + z) ic_1) (by decide) rfl ?_
        refine J_goto hX 2 dX4_numberData_68 (by decide) ?_
        refine J_sub [(0, .ref a), (1, .int v1), (2, .int (v2 + (1 : Int32)))] [2, 3, 0] rfl ?_
        exact ih v1 (v2 + (1 : Int32)) m4 h
    · exact J_return hX dX4_numberData_71 h hF
def f_X4_numberData (a : Nat) (x1 : Int32) (m : Mm) : Option (Mm) := f_X4_numberData_L2 a FU x1 (0 : Int32)  m
theorem t_X4_numberData {X : XX} {G : GG} {ρ : Nat → Nat} {n t u w v : Nat} {x : Option Nat} {d : Nat} {a : Nat} (hX : Ok X G ρ cX4_numberData 4 RX4 d) (hd0 : 0 ≤ d) (hn : 126 ≤ n) (ha : isLa a) {mE : Mm} (hF : Fin' X G ρ n none none (RT t u w v x) mE) {x1 : Int32} {m : Mm} (h : f_X4_numberData a x1 m = some mE) : J X G ρ n 4 0 [(0, .ref a), (1, .int x1)] [] (RT t u w v x) m := by
  unfold f_X4_numberData at h
  refine J_iconst hX (0 : Int32) dX4_numberData_0 ic_0 ?_
  refine J_istore_n hX [(2, .int (0 : Int32)), (0, .ref a), (1, .int x1)] dX4_numberData_1 rfl (by decide) rfl ?_
  refine J_sub [(0, .ref a), (1, .int x1), (2, .int (0 : Int32))] [1, 2, 0] rfl ?_
  exact t_X4_numberData_L2 hX hd0 hn ha hF FU x1 (0 : Int32)  m h
theorem c_X4_numberData {G : GG} {l : Launch} {ρ : Nat → Nat} {n t u w v : Nat} {x : Option Nat} (hn : 126 ≤ n) {a : Nat} (ha : isLa a) {x1 : Int32} {m : Mm} {mE : Mm} (h : f_X4_numberData a x1 m = some mE) : CT G l yX4_numberData cX4_numberData 4 none 0 0 0 ρ n (RT t u w v x) [.ref a, .int x1] m none (RT t u w v x) mE := ct_of_J (by decide) rfl (Nat.le_of_ble_eq_true rfl) (fun X hX e1 e2 e3 e4 hQ hr hl => t_X4_numberData hX (Nat.le_refl _) hn ha ⟨by rw [hQ, e3, e4], hr, hl⟩ h)
def f_X4_clear_L17 (a : Nat) : Nat → Int32 →  Mm → Option (Mm)
  | 0, _, _ => none
  | k + 1, v2, m => (if v2 < (13 : Int32) then gd (inb v2 13) (stI m (a + 11) (ix v2) (0 : Int32) (fun m4 => gd (inb v2 13) (stI m4 (a + 12) (ix v2) (0 : Int32) (fun m5 => gd (inb v2 13) (stI m5 (a + 13) (ix v2) (0 : Int32) (fun m6 => f_X4_clear_L17 a k (v2 + (1 : Int32)) m6)))))) else some m)
theorem t_X4_clear_L17 {X : XX} {G : GG} {ρ : Nat → Nat} {n t u w v : Nat} {x : Option Nat} {d : Nat} {a : Nat} (hX : Ok X G ρ cX4_clear 3 RX4 d) (hd0 : 0 ≤ d) (hn : 126 ≤ n) (ha : isLa a) {mE : Mm} (hF : Fin' X G ρ n none none (RT t u w v x) mE) : ∀ (k : Nat) (v2 : Int32) (m : Mm), f_X4_clear_L17 a k v2 m = some mE → J X G ρ n 3 17 [(0, .ref a), (2, .int v2)] [] (RT t u w v x) m := by
  intro k
  induction k with
  | zero => intro _ _ h; rw [f_X4_clear_L17] at h; cases h
  | succ k ih =>
    intro v2 m h
    rw [f_X4_clear_L17] at h
    refine J_iload_n hX dX4_clear_17 rfl 1 rfl ?_
    refine J_bipush hX (13 : Int32) dX4_clear_18 (by decide) ?_
    refine J_icmp_ge hX 50 dX4_clear_20 (by decide) h (fun c h => ?_) (fun c h => ?_)
    · refine J_aload_n hX dX4_clear_23 rfl 0 rfl ?_
      refine J_getR hX dX4_clear_24 fl_RX4_42 (ltn (lt_isLa_0 ha) hn) (lo_isLa_0 ha) rfl (rt_isLa_0_13 _ _ _ _ _ ha) ?_
      refine J_iload_n hX dX4_clear_27 rfl 1 rfl ?_
      refine J_iconst hX (0 : Int32) dX4_clear_28 ic_0 ?_
      refine J_iastore hX dX4_clear_29 (ltn (lt_isLa_11 ha) hn) (lay_isLa_11 ha) h (fun m4 h => ?_)
      refine J_aload_n hX dX4_clear_30 rfl 0 rfl ?_
      refine J_getR hX dX4_clear_31 fl_RX4_45 (ltn (lt_isLa_0 ha) hn) (lo_isLa_0 ha) rfl (rt_isLa_0_14 _ _ _ _ _ ha) ?_
      refine J_iload_n hX dX4_clear_34 rfl 1 rfl ?_
      refine J_iconst hX (0 : Int32) dX4_clear_35 ic_0 ?_
      refine J_iastore hX dX4_clear_36 (ltn (lt_isLa_12 ha) hn) (lay_isLa_12 ha) h (fun m5 h => ?_)
      refine J_aload_n hX dX4_clear_37 rfl 0 rfl ?_
      refine J_getR hX dX4_clear_38 fl_RX4_48 (ltn (lt_isLa_0 ha) hn) (lo_isLa_0 ha) rfl (rt_isLa_0_15 _ _ _ _ _ ha) ?_
      refine J_iload_n hX dX4_clear_41 rfl 1 rfl ?_
      refine J_iconst hX (0 : Int32) dX4_clear_42 ic_0 ?_
      refine J_iastore hX dX4_clear_43 (ltn (lt_isLa_13 ha) hn) (lay_isLa_13 ha) h (fun m6 h => ?_)
      refine J_iinc hX (v2 + (1 : Int32)) [(2, .int (v2 + (1 : Int32))), (0, .ref a)] dX4_clear_44 1 rfl (congrArg (fun z => v2 + z) ic_1) (by decide) rfl ?_
      refine J_goto hX 17 dX4_clear_47 (by decide) ?_
      refine J_sub [(0, .ref a), (2, .int (v2 + (1 : Int32)))] [1, 0] rfl ?_
      exact ih (v2 + (1 : Int32)) m6 h
    · exact J_return hX dX4_clear_50 h hF
def f_X4_clear (a : Nat) (x1 : Int32) (m : Mm) : Option (Mm) := stI m a 0 x1 (fun m1 => stI m1 a 1 (0 : Int32) (fun m2 => stI m2 a 2 (0 : Int32) (fun m3 => f_X4_clear_L17 a FU (0 : Int32)  m3)))
theorem t_X4_clear {X : XX} {G : GG} {ρ : Nat → Nat} {n t u w v : Nat} {x : Option Nat} {d : Nat} {a : Nat} (hX : Ok X G ρ cX4_clear 3 RX4 d) (hd0 : 0 ≤ d) (hn : 126 ≤ n) (ha : isLa a) {mE : Mm} (hF : Fin' X G ρ n none none (RT t u w v x) mE) {x1 : Int32} {m : Mm} (h : f_X4_clear a x1 m = some mE) : J X G ρ n 3 0 [(0, .ref a), (1, .int x1)] [] (RT t u w v x) m := by
  unfold f_X4_clear at h
  refine J_aload_n hX dX4_clear_0 rfl 0 rfl ?_
  refine J_iload_n hX dX4_clear_1 rfl 1 rfl ?_
  refine J_putI hX dX4_clear_2 pl_RX4_78 (ltn (lt_isLa_0 ha) hn) (lo_isLa_0 ha) rfl rfl rfl h (fun m1 h => ?_)
  refine J_aload_n hX dX4_clear_5 rfl 0 rfl ?_
  refine J_iconst hX (0 : Int32) dX4_clear_6 ic_0 ?_
  refine J_putI hX dX4_clear_7 pl_RX4_72 (ltn (lt_isLa_0 ha) hn) (lo_isLa_0 ha) rfl rfl rfl h (fun m2 h => ?_)
  refine J_aload_n hX dX4_clear_10 rfl 0 rfl ?_
  refine J_iconst hX (0 : Int32) dX4_clear_11 ic_0 ?_
  refine J_putI hX dX4_clear_12 pl_RX4_81 (ltn (lt_isLa_0 ha) hn) (lo_isLa_0 ha) rfl rfl rfl h (fun m3 h => ?_)
  refine J_iconst hX (0 : Int32) dX4_clear_15 ic_0 ?_
  refine J_istore_n hX [(2, .int (0 : Int32)), (0, .ref a), (1, .int x1)] dX4_clear_16 rfl (by decide) rfl ?_
  refine J_sub [(0, .ref a), (2, .int (0 : Int32))] [1, 0] rfl ?_
  exact t_X4_clear_L17 hX hd0 hn ha hF FU (0 : Int32)  m3 h
theorem c_X4_clear {G : GG} {l : Launch} {ρ : Nat → Nat} {n t u w v : Nat} {x : Option Nat} (hn : 126 ≤ n) {a : Nat} (ha : isLa a) {x1 : Int32} {m : Mm} {mE : Mm} (h : f_X4_clear a x1 m = some mE) : CT G l yX4_clear cX4_clear 3 none 0 0 0 ρ n (RT t u w v x) [.ref a, .int x1] m none (RT t u w v x) mE := ct_of_J (by decide) rfl (Nat.le_of_ble_eq_true rfl) (fun X hX e1 e2 e3 e4 hQ hr hl => t_X4_clear hX (Nat.le_refl _) hn ha ⟨by rw [hQ, e3, e4], hr, hl⟩ h)
def f_X4_addStripe_L54 (a : Nat) (p1 : Nat) : Nat → Int32 → Int32 → Int32 → Int32 → Int32 →  Mm → Option (Mm)
  | 0, _, _, _, _, _, _ => none
  | k + 1, v2, v3, v4, v5, v6, m => gd (inb v4 40) ((if v6 < (gI m (a + 1) (ix v4)) then bd2 (f_X8_diskIn p1 v2 v6 v3 (gI m a 0) m) (fun r11 m10 => gd (inb (v5 + v6) 200) (stI m10 (a + 7) (ix (v5 + v6)) r11 (fun m12 => gd (inb r11 13) (gd (inb (v5 + v6) 200) (stI m12 (a + 8) (ix (v5 + v6)) (gI m12 (a + 11) (ix r11)) (fun m13 => gd (inb r11 13) (gd (inb r11 13) (stI m13 (a + 11) (ix r11) ((gI m13 (a + 11) (ix r11)) + (1 : Int32)) (fun m14 => gd (inb v4 40) (gd (inb v4 40) (stI m14 (a + 6) (ix v4) ((gI m14 (a + 6) (ix v4)) ||| ((1 : Int32) <<< (r11 &&& 31))) (fun m15 => f_X4_addStripe_L54 a p1 k v2 v3 v4 v5 (v6 + (1 : Int32)) m15)))))))))))) else gd (inb v4 40) (gd (inb v5 200) (bd2 (f_X3_parityOf (p1 + 4) v4 (gI m (a + 1) (ix v4)) (gI m (a + 7) (ix v5)) v2 m) (fun r6 m5 => gd (inb v4 40) (stI m5 (a + 2) (ix v4) r6 (fun m7 => gd (inb v4 40) (gd (inb (v5 + (gI m7 (a + 2) (ix v4))) 200) (gd (inb (gI m7 (a + 7) (ix (v5 + (gI m7 (a + 2) (ix v4))))) 13) (gd (inb (gI m7 (a + 7) (ix (v5 + (gI m7 (a + 2) (ix v4))))) 13) (stI m7 (a + 12) (ix (gI m7 (a + 7) (ix (v5 + (gI m7 (a + 2) (ix v4)))))) ((gI m7 (a + 12) (ix (gI m7 (a + 7) (ix (v5 + (gI m7 (a + 2) (ix v4))))))) + (1 : Int32)) (fun m8 => bd1 (f_X4_numberData a v4 m8) (fun m9 => some m9)))))))))))))
theorem t_X4_addStripe_L54 {X : XX} {G : GG} {ρ : Nat → Nat} {n t u w v : Nat} {x : Option Nat} {d : Nat} {a : Nat} {p1 : Nat} (hX : Ok X G ρ cX4_addStripe 8 RX4 d) (hd0 : 3 ≤ d) (hn : 126 ≤ n) (ha : isLa a) (hp1 : isTo p1) {mE : Mm} (hF : Fin' X G ρ n none none (RT t u w v x) mE) : ∀ (k : Nat) (v2 : Int32) (v3 : Int32) (v4 : Int32) (v5 : Int32) (v6 : Int32) (m : Mm), f_X4_addStripe_L54 a p1 k v2 v3 v4 v5 v6 m = some mE → J X G ρ n 8 54 [(0, .ref a), (1, .ref p1), (2, .int v2), (3, .int v3), (4, .int v4), (5, .int v5), (6, .int v6)] [] (RT t u w v x) m := by
  intro k
  induction k with
  | zero => intro _ _ _ _ _ _ h; rw [f_X4_addStripe_L54] at h; cases h
  | succ k ih =>
    intro v2 v3 v4 v5 v6 m h
    rw [f_X4_addStripe_L54] at h
    refine J_iload hX dX4_addStripe_54 6 rfl ?_
    refine J_aload_n hX dX4_addStripe_56 rfl 0 rfl ?_
    refine J_getR hX dX4_addStripe_57 fl_RX4_9 (ltn (lt_isLa_0 ha) hn) (lo_isLa_0 ha) rfl (rt_isLa_0_3 _ _ _ _ _ ha) ?_
    refine J_iload hX dX4_addStripe_60 4 rfl ?_
    refine J_iaload hX dX4_addStripe_62 (ltn (lt_isLa_1 ha) hn) (lay_isLa_1 ha) h (fun h => ?_)
    refine J_icmp_ge hX 140 dX4_addStripe_63 (by decide) h (fun c h => ?_) (fun c h => ?_)
    · refine J_aload_n hX dX4_addStripe_66 rfl 1 rfl ?_
      refine J_iload_n hX dX4_addStripe_67 rfl 2 rfl ?_
      refine J_iload hX dX4_addStripe_68 6 rfl ?_
      refine J_iload_n hX dX4_addStripe_70 rfl 3 rfl ?_
      refine J_aload_n hX dX4_addStripe_71 rfl 0 rfl ?_
      refine J_getI hX dX4_addStripe_72 fl_RX4_78 (ltn (lt_isLa_0 ha) hn) (lo_isLa_0 ha) rfl ?_
      obtain ⟨r11, m10, h0, h⟩ := bd2_some h
      refine J_callVi (As := [.int v2, .int v6, .int v3, .int (gI m a 0)]) (st := []) hX dX4_addStripe_75 cw_RX4_85 (by omega) (c_X8_diskIn hn hp1 h0) (ltn (lt_isTo_0 hp1) hn) (lo_isTo_0 hp1) (by decide) rfl rfl rfl (Nat.le_of_ble_eq_true rfl) ?_
      clear h0
      refine J_istore hX [(7, .int r11), (0, .ref a), (1, .ref p1), (2, .int v2), (3, .int v3), (4, .int v4), (5, .int v5), (6, .int v6)] dX4_addStripe_78 (by decide) rfl ?_
      refine J_aload_n hX dX4_addStripe_80 rfl 1 rfl ?_
      refine J_getR hX dX4_addStripe_81 fl_RX4_30 (ltn (lt_isLa_0 ha) hn) (lo_isLa_0 ha) rfl (rt_isLa_0_9 _ _ _ _ _ ha) ?_
      refine J_iload hX dX4_addStripe_84 6 rfl ?_
      refine J_iload hX dX4_addStripe_86 7 rfl ?_
      refine J_iadd hX dX4_addStripe_88 ?_
      refine J_iload hX dX4_addStripe_89 0 rfl ?_
      refine J_iastore hX dX4_addStripe_91 (ltn (lt_isLa_7 ha) hn) (lay_isLa_7 ha) h (fun m12 h => ?_)
      refine J_aload_n hX dX4_addStripe_92 rfl 1 rfl ?_
      refine J_getR hX dX4_addStripe_93 fl_RX4_33 (ltn (lt_isLa_0 ha) hn) (lo_isLa_0 ha) rfl (rt_isLa_0_10 _ _ _ _ _ ha) ?_
      refine J_iload hX dX4_addStripe_96 6 rfl ?_
      refine J_iload hX dX4_addStripe_98 7 rfl ?_
      refine J_iadd hX dX4_addStripe_100 ?_
      refine J_aload_n hX dX4_addStripe_101 rfl 1 rfl ?_
      refine J_getR hX dX4_addStripe_102 fl_RX4_42 (ltn (lt_isLa_0 ha) hn) (lo_isLa_0 ha) rfl (rt_isLa_0_13 _ _ _ _ _ ha) ?_
      refine J_iload hX dX4_addStripe_105 0 rfl ?_
      refine J_iaload hX dX4_addStripe_107 (ltn (lt_isLa_11 ha) hn) (lay_isLa_11 ha) h (fun h => ?_)
      refine J_iastore hX dX4_addStripe_108 (ltn (lt_isLa_8 ha) hn) (lay_isLa_8 ha) h (fun m13 h => ?_)
      refine J_aload_n hX dX4_addStripe_109 rfl 1 rfl ?_
      refine J_getR hX dX4_addStripe_110 fl_RX4_42 (ltn (lt_isLa_0 ha) hn) (lo_isLa_0 ha) rfl (rt_isLa_0_13 _ _ _ _ _ ha) ?_
      refine J_iload hX dX4_addStripe_113 0 rfl ?_
      refine J_dup2 hX dX4_addStripe_115 rfl rfl ?_
      refine J_iaload hX dX4_addStripe_116 (ltn (lt_isLa_11 ha) hn) (lay_isLa_11 ha) h (fun h => ?_)
      refine J_iconst hX (1 : Int32) dX4_addStripe_117 ic_1 ?_
      refine J_iadd hX dX4_addStripe_118 ?_
      refine J_iastore hX dX4_addStripe_119 (ltn (lt_isLa_11 ha) hn) (lay_isLa_11 ha) h (fun m14 h => ?_)
      refine J_aload_n hX dX4_addStripe_120 rfl 1 rfl ?_
      refine J_getR hX dX4_addStripe_121 fl_RX4_27 (ltn (lt_isLa_0 ha) hn) (lo_isLa_0 ha) rfl (rt_isLa_0_8 _ _ _ _ _ ha) ?_
      refine J_iload hX dX4_addStripe_124 5 rfl ?_
      refine J_dup2 hX dX4_addStripe_126 rfl rfl ?_
      refine J_iaload hX dX4_addStripe_127 (ltn (lt_isLa_6 ha) hn) (lay_isLa_6 ha) h (fun h => ?_)
      refine J_iconst hX (1 : Int32) dX4_addStripe_128 ic_1 ?_
      refine J_iload hX dX4_addStripe_129 0 rfl ?_
      refine J_ishl hX dX4_addStripe_131 ?_
      refine J_ior hX dX4_addStripe_132 ?_
      refine J_iastore hX dX4_addStripe_133 (ltn (lt_isLa_6 ha) hn) (lay_isLa_6 ha) h (fun m15 h => ?_)
      refine J_iinc hX (v6 + (1 : Int32)) [(6, .int (v6 + (1 : Int32))), (7, .int r11), (0, .ref a), (1, .ref p1), (2, .int v2), (3, .int v3), (4, .int v4), (5, .int v5)] dX4_addStripe_134 7 rfl (congrArg (fun z => v6 + z) ic_1) (by decide) rfl ?_
      refine J_goto hX 54 dX4_addStripe_137 (by decide) ?_
      refine J_sub [(0, .ref a), (1, .ref p1), (2, .int v2), (3, .int v3), (4, .int v4), (5, .int v5), (6, .int (v6 + (1 : Int32)))] [2, 3, 4, 5, 6, 7, 0] rfl ?_
      exact ih v2 v3 v4 v5 (v6 + (1 : Int32)) m15 h
    · refine J_aload_n hX dX4_addStripe_140 rfl 0 rfl ?_
      refine J_getR hX dX4_addStripe_141 fl_RX4_15 (ltn (lt_isLa_0 ha) hn) (lo_isLa_0 ha) rfl (rt_isLa_0_4 _ _ _ _ _ ha) ?_
      refine J_iload hX dX4_addStripe_144 4 rfl ?_
      refine J_aload_n hX dX4_addStripe_146 rfl 1 rfl ?_
      refine J_getR hX dX4_addStripe_147 fl_RX4_89 (ltn (lt_isTo_0 hp1) hn) (lo_isTo_0 hp1) rfl (rt_isTo_0_6 _ _ _ _ _ hp1) ?_
      refine J_iload hX dX4_addStripe_150 4 rfl ?_
      refine J_aload_n hX dX4_addStripe_152 rfl 0 rfl ?_
      refine J_getR hX dX4_addStripe_153 fl_RX4_9 (ltn (lt_isLa_0 ha) hn) (lo_isLa_0 ha) rfl (rt_isLa_0_3 _ _ _ _ _ ha) ?_
      refine J_iload hX dX4_addStripe_156 4 rfl ?_
      refine J_iaload hX dX4_addStripe_158 (ltn (lt_isLa_1 ha) hn) (lay_isLa_1 ha) h (fun h => ?_)
      refine J_aload_n hX dX4_addStripe_159 rfl 0 rfl ?_
      refine J_getR hX dX4_addStripe_160 fl_RX4_30 (ltn (lt_isLa_0 ha) hn) (lo_isLa_0 ha) rfl (rt_isLa_0_9 _ _ _ _ _ ha) ?_
      refine J_iload hX dX4_addStripe_163 5 rfl ?_
      refine J_iaload hX dX4_addStripe_165 (ltn (lt_isLa_7 ha) hn) (lay_isLa_7 ha) h (fun h => ?_)
      refine J_iload_n hX dX4_addStripe_166 rfl 2 rfl ?_
      obtain ⟨r6, m5, h0, h⟩ := bd2_some h
      refine J_callVi (As := [.int v4, .int (gI m (a + 1) (ix v4)), .int (gI m (a + 7) (ix v5)), .int v2]) (st := [.int v4, .ref (a + 2)]) hX dX4_addStripe_167 cw_RX4_93 (by omega) (c_X3_parityOf hn (isLw_isTo hp1) h0) (ltn (lt_isTo_4 hp1) hn) (lo_isTo_4 hp1) (by decide) rfl rfl rfl (Nat.le_of_ble_eq_true rfl) ?_
      clear h0
      refine J_iastore hX dX4_addStripe_170 (ltn (lt_isLa_2 ha) hn) (lay_isLa_2 ha) h (fun m7 h => ?_)
      refine J_aload_n hX dX4_addStripe_171 rfl 0 rfl ?_
      refine J_getR hX dX4_addStripe_172 fl_RX4_45 (ltn (lt_isLa_0 ha) hn) (lo_isLa_0 ha) rfl (rt_isLa_0_14 _ _ _ _ _ ha) ?_
      refine J_aload_n hX dX4_addStripe_175 rfl 0 rfl ?_
      refine J_getR hX dX4_addStripe_176 fl_RX4_30 (ltn (lt_isLa_0 ha) hn) (lo_isLa_0 ha) rfl (rt_isLa_0_9 _ _ _ _ _ ha) ?_
      refine J_iload hX dX4_addStripe_179 5 rfl ?_
      refine J_aload_n hX dX4_addStripe_181 rfl 0 rfl ?_
      refine J_getR hX dX4_addStripe_182 fl_RX4_15 (ltn (lt_isLa_0 ha) hn) (lo_isLa_0 ha) rfl (rt_isLa_0_4 _ _ _ _ _ ha) ?_
      refine J_iload hX dX4_addStripe_185 4 rfl ?_
      refine J_iaload hX dX4_addStripe_187 (ltn (lt_isLa_2 ha) hn) (lay_isLa_2 ha) h (fun h => ?_)
      refine J_iadd hX dX4_addStripe_188 ?_
      refine J_iaload hX dX4_addStripe_189 (ltn (lt_isLa_7 ha) hn) (lay_isLa_7 ha) h (fun h => ?_)
      refine J_dup2 hX dX4_addStripe_190 rfl rfl ?_
      refine J_iaload hX dX4_addStripe_191 (ltn (lt_isLa_12 ha) hn) (lay_isLa_12 ha) h (fun h => ?_)
      refine J_iconst hX (1 : Int32) dX4_addStripe_192 ic_1 ?_
      refine J_iadd hX dX4_addStripe_193 ?_
      refine J_iastore hX dX4_addStripe_194 (ltn (lt_isLa_12 ha) hn) (lay_isLa_12 ha) h (fun m8 h => ?_)
      refine J_aload_n hX dX4_addStripe_195 rfl 0 rfl ?_
      refine J_iload hX dX4_addStripe_196 4 rfl ?_
      obtain ⟨m9, h0, h⟩ := bd1_some h
      refine J_callVv (As := [.int v4]) (st := []) hX dX4_addStripe_198 cw_RX4_98 (by omega) (c_X4_numberData hn ha h0) (ltn (lt_isLa_0 ha) hn) (lo_isLa_0 ha) (by decide) rfl rfl rfl (Nat.le_of_ble_eq_true rfl) ?_
      clear h0
      exact J_return hX dX4_addStripe_201 h hF
def f_X4_addStripe (a : Nat) (p1 : Nat) (x2 : Int32) (x3 : Int32) (m : Mm) : Option (Mm) := stI m a 1 ((gI m a 1) + (1 : Int32)) (fun m1 => gd (inb (gI m a 1) 40) (stI m1 (a + 3) (ix (gI m a 1)) x2 (fun m2 => gd (inb x2 6) (gd (inb (gI m a 1) 40) (stI m2 (a + 1) (ix (gI m a 1)) (gI m2 (p1 + 2) (ix x2)) (fun m3 => gd (inb (gI m a 1) 40) (stI m3 (a + 6) (ix (gI m a 1)) (0 : Int32) (fun m4 => f_X4_addStripe_L54 a p1 FU x2 x3 (gI m a 1) ((gI m a 1) * (5 : Int32)) (0 : Int32)  m4))))))))
theorem t_X4_addStripe {X : XX} {G : GG} {ρ : Nat → Nat} {n t u w v : Nat} {x : Option Nat} {d : Nat} {a : Nat} {p1 : Nat} (hX : Ok X G ρ cX4_addStripe 8 RX4 d) (hd0 : 3 ≤ d) (hn : 126 ≤ n) (ha : isLa a) (hp1 : isTo p1) {mE : Mm} (hF : Fin' X G ρ n none none (RT t u w v x) mE) {x2 : Int32} {x3 : Int32} {m : Mm} (h : f_X4_addStripe a p1 x2 x3 m = some mE) : J X G ρ n 8 0 [(0, .ref a), (1, .ref p1), (2, .int x2), (3, .int x3)] [] (RT t u w v x) m := by
  unfold f_X4_addStripe at h
  refine J_aload_n hX dX4_addStripe_0 rfl 0 rfl ?_
  refine J_getI hX dX4_addStripe_1 fl_RX4_72 (ltn (lt_isLa_0 ha) hn) (lo_isLa_0 ha) rfl ?_
  refine J_istore hX [(4, .int (gI m a 1)), (0, .ref a), (1, .ref p1), (2, .int x2), (3, .int x3)] dX4_addStripe_4 (by decide) rfl ?_
  refine J_aload_n hX dX4_addStripe_6 rfl 1 rfl ?_
  refine J_dup hX dX4_addStripe_7 rfl ?_
  refine J_getI hX dX4_addStripe_8 fl_RX4_72 (ltn (lt_isLa_0 ha) hn) (lo_isLa_0 ha) rfl ?_
  refine J_iconst hX (1 : Int32) dX4_addStripe_11 ic_1 ?_
  refine J_iadd hX dX4_addStripe_12 ?_
  refine J_putI hX dX4_addStripe_13 pl_RX4_72 (ltn (lt_isLa_0 ha) hn) (lo_isLa_0 ha) rfl rfl rfl h (fun m1 h => ?_)
  refine J_aload_n hX dX4_addStripe_16 rfl 1 rfl ?_
  refine J_getR hX dX4_addStripe_17 fl_RX4_18 (ltn (lt_isLa_0 ha) hn) (lo_isLa_0 ha) rfl (rt_isLa_0_5 _ _ _ _ _ ha) ?_
  refine J_iload hX dX4_addStripe_20 0 rfl ?_
  refine J_iload_n hX dX4_addStripe_22 rfl 3 rfl ?_
  refine J_iastore hX dX4_addStripe_23 (ltn (lt_isLa_3 ha) hn) (lay_isLa_3 ha) h (fun m2 h => ?_)
  refine J_aload_n hX dX4_addStripe_24 rfl 1 rfl ?_
  refine J_getR hX dX4_addStripe_25 fl_RX4_9 (ltn (lt_isLa_0 ha) hn) (lo_isLa_0 ha) rfl (rt_isLa_0_3 _ _ _ _ _ ha) ?_
  refine J_iload hX dX4_addStripe_28 0 rfl ?_
  refine J_aload_n hX dX4_addStripe_30 rfl 2 rfl ?_
  refine J_getR hX dX4_addStripe_31 fl_RX4_84 (ltn (lt_isTo_0 hp1) hn) (lo_isTo_0 hp1) rfl (rt_isTo_0_4 _ _ _ _ _ hp1) ?_
  refine J_iload_n hX dX4_addStripe_34 rfl 3 rfl ?_
  refine J_iaload hX dX4_addStripe_35 (ltn (lt_isTo_2 hp1) hn) (lay_isTo_2 hp1) h (fun h => ?_)
  refine J_iastore hX dX4_addStripe_36 (ltn (lt_isLa_1 ha) hn) (lay_isLa_1 ha) h (fun m3 h => ?_)
  refine J_aload_n hX dX4_addStripe_37 rfl 1 rfl ?_
  refine J_getR hX dX4_addStripe_38 fl_RX4_27 (ltn (lt_isLa_0 ha) hn) (lo_isLa_0 ha) rfl (rt_isLa_0_8 _ _ _ _ _ ha) ?_
  refine J_iload hX dX4_addStripe_41 0 rfl ?_
  refine J_iconst hX (0 : Int32) dX4_addStripe_43 ic_0 ?_
  refine J_iastore hX dX4_addStripe_44 (ltn (lt_isLa_6 ha) hn) (lay_isLa_6 ha) h (fun m4 h => ?_)
  refine J_iload hX dX4_addStripe_45 0 rfl ?_
  refine J_iconst hX (5 : Int32) dX4_addStripe_47 ic_5 ?_
  refine J_imul hX dX4_addStripe_48 ?_
  refine J_istore hX [(5, .int ((gI m a 1) * (5 : Int32))), (4, .int (gI m a 1)), (0, .ref a), (1, .ref p1), (2, .int x2), (3, .int x3)] dX4_addStripe_49 (by decide) rfl ?_
  refine J_iconst hX (0 : Int32) dX4_addStripe_51 ic_0 ?_
  refine J_istore hX [(6, .int (0 : Int32)), (5, .int ((gI m a 1) * (5 : Int32))), (4, .int (gI m a 1)), (0, .ref a), (1, .ref p1), (2, .int x2), (3, .int x3)] dX4_addStripe_52 (by decide) rfl ?_
  refine J_sub [(0, .ref a), (1, .ref p1), (2, .int x2), (3, .int x3), (4, .int (gI m a 1)), (5, .int ((gI m a 1) * (5 : Int32))), (6, .int (0 : Int32))] [3, 4, 5, 6, 2, 1, 0] rfl ?_
  exact t_X4_addStripe_L54 hX hd0 hn ha hp1 hF FU x2 x3 (gI m a 1) ((gI m a 1) * (5 : Int32)) (0 : Int32)  m4 h
theorem c_X4_addStripe {G : GG} {l : Launch} {ρ : Nat → Nat} {n t u w v : Nat} {x : Option Nat} (hn : 126 ≤ n) {a : Nat} {p1 : Nat} (ha : isLa a) (hp1 : isTo p1) {x2 : Int32} {x3 : Int32} {m : Mm} {mE : Mm} (h : f_X4_addStripe a p1 x2 x3 m = some mE) : CT G l yX4_addStripe cX4_addStripe 8 none 3 0 0 ρ n (RT t u w v x) [.ref a, .ref p1, .int x2, .int x3] m none (RT t u w v x) mE := ct_of_J (by decide) rfl (Nat.le_of_ble_eq_true rfl) (fun X hX e1 e2 e3 e4 hQ hr hl => t_X4_addStripe hX (Nat.le_refl _) hn ha hp1 ⟨by rw [hQ, e3, e4], hr, hl⟩ h)
def f_X4_addSpare_J30 (a : Nat) (K4 : Int32 → Int32 → Int32 → Mm → Option (Mm)) (v1 : Int32) (v2 : Int32) (v3 : Int32) (s0 : Int32) (m : Mm) : Option (Mm) := (if s0 = 0 then K4 v1 v2 (v3 + (1 : Int32)) m else (if v2 = (-1 : Int32) then K4 v1 v3 (v3 + (1 : Int32)) m else gd (inb v3 13) (gd (inb v2 13) ((if (gI m (a + 13) (ix v3)) < (gI m (a + 13) (ix v2)) then K4 v1 v3 (v3 + (1 : Int32)) m else K4 v1 v2 (v3 + (1 : Int32)) m)))))
theorem t_X4_addSpare_J30 {X : XX} {G : GG} {ρ : Nat → Nat} {n t u w v : Nat} {x : Option Nat} {d : Nat} {a : Nat} (hX : Ok X G ρ cX4_addSpare 5 RX4 d) (hd0 : 0 ≤ d) (hn : 126 ≤ n) (ha : isLa a) {mE : Mm} (hF : Fin' X G ρ n none none (RT t u w v x) mE) {K4 : Int32 → Int32 → Int32 → Mm → Option (Mm)} (v1 : Int32) (v2 : Int32) (v3 : Int32) (s0 : Int32) (hK4 : ∀ (w1 : Int32) (w2 : Int32) (w3 : Int32) (m : Mm), K4 w1 w2 w3 m = some mE → J X G ρ n 5 4 [(0, .ref a), (1, .int w1), (2, .int w2), (3, .int w3)] [] (RT t u w v x) m) (m : Mm) (h : f_X4_addSpare_J30 a K4 v1 v2 v3 s0 m = some mE) : J X G ρ n 5 30 [(0, .ref a), (1, .int v1), (2, .int v2), (3, .int v3)] [.int s0] (RT t u w v x) m := by
  unfold f_X4_addSpare_J30 at h
  refine J_istore hX [(4, .int s0), (0, .ref a), (1, .int v1), (2, .int v2), (3, .int v3)] dX4_addSpare_30 (by decide) rfl ?_
  refine J_iload hX dX4_addSpare_32 0 rfl ?_
  refine J_if_eq hX 59 dX4_addSpare_34 (by decide) h (fun c h => ?_) (fun c h => ?_)
  · refine J_iinc hX (v3 + (1 : Int32)) [(3, .int (v3 + (1 : Int32))), (4, .int s0), (0, .ref a), (1, .int v1), (2, .int v2)] dX4_addSpare_59 4 rfl (congrArg (fun z => v3 + z) ic_1) (by decide) rfl ?_
    refine J_goto hX 4 dX4_addSpare_62 (by decide) ?_
    refine J_sub [(0, .ref a), (1, .int v1), (2, .int v2), (3, .int (v3 + (1 : Int32)))] [2, 3, 4, 0] rfl ?_
    exact hK4 v1 v2 (v3 + (1 : Int32)) m h
  · refine J_iload_n hX dX4_addSpare_37 rfl 3 rfl ?_
    refine J_iconst hX (-1 : Int32) dX4_addSpare_38 ic_m1 ?_
    refine J_icmp_eq hX 57 dX4_addSpare_39 (by decide) h (fun c h => ?_) (fun c h => ?_)
    · refine J_iload_n hX dX4_addSpare_57 rfl 4 rfl ?_
      refine J_istore_n hX [(2, .int v3), (4, .int s0), (0, .ref a), (1, .int v1), (3, .int v3)] dX4_addSpare_58 rfl (by decide) rfl ?_
      refine J_iinc hX (v3 + (1 : Int32)) [(3, .int (v3 + (1 : Int32))), (2, .int v3), (4, .int s0), (0, .ref a), (1, .int v1)] dX4_addSpare_59 4 rfl (congrArg (fun z => v3 + z) ic_1) (by decide) rfl ?_
      refine J_goto hX 4 dX4_addSpare_62 (by decide) ?_
      refine J_sub [(0, .ref a), (1, .int v1), (2, .int v3), (3, .int (v3 + (1 : Int32)))] [3, 4, 1, 0] rfl ?_
      exact hK4 v1 v3 (v3 + (1 : Int32)) m h
    · refine J_aload_n hX dX4_addSpare_42 rfl 1 rfl ?_
      refine J_getR hX dX4_addSpare_43 fl_RX4_48 (ltn (lt_isLa_0 ha) hn) (lo_isLa_0 ha) rfl (rt_isLa_0_15 _ _ _ _ _ ha) ?_
      refine J_iload_n hX dX4_addSpare_46 rfl 4 rfl ?_
      refine J_iaload hX dX4_addSpare_47 (ltn (lt_isLa_13 ha) hn) (lay_isLa_13 ha) h (fun h => ?_)
      refine J_aload_n hX dX4_addSpare_48 rfl 1 rfl ?_
      refine J_getR hX dX4_addSpare_49 fl_RX4_48 (ltn (lt_isLa_0 ha) hn) (lo_isLa_0 ha) rfl (rt_isLa_0_15 _ _ _ _ _ ha) ?_
      refine J_iload_n hX dX4_addSpare_52 rfl 3 rfl ?_
      refine J_iaload hX dX4_addSpare_53 (ltn (lt_isLa_13 ha) hn) (lay_isLa_13 ha) h (fun h => ?_)
      refine J_icmp_ge hX 59 dX4_addSpare_54 (by decide) h (fun c h => ?_) (fun c h => ?_)
      · refine J_iload_n hX dX4_addSpare_57 rfl 4 rfl ?_
        refine J_istore_n hX [(2, .int v3), (4, .int s0), (0, .ref a), (1, .int v1), (3, .int v3)] dX4_addSpare_58 rfl (by decide) rfl ?_
        refine J_iinc hX (v3 + (1 : Int32)) [(3, .int (v3 + (1 : Int32))), (2, .int v3), (4, .int s0), (0, .ref a), (1, .int v1)] dX4_addSpare_59 4 rfl (congrArg (fun z => v3 + z) ic_1) (by decide) rfl ?_
        refine J_goto hX 4 dX4_addSpare_62 (by decide) ?_
        refine J_sub [(0, .ref a), (1, .int v1), (2, .int v3), (3, .int (v3 + (1 : Int32)))] [3, 4, 1, 0] rfl ?_
        exact hK4 v1 v3 (v3 + (1 : Int32)) m h
      · refine J_iinc hX (v3 + (1 : Int32)) [(3, .int (v3 + (1 : Int32))), (4, .int s0), (0, .ref a), (1, .int v1), (2, .int v2)] dX4_addSpare_59 4 rfl (congrArg (fun z => v3 + z) ic_1) (by decide) rfl ?_
        refine J_goto hX 4 dX4_addSpare_62 (by decide) ?_
        refine J_sub [(0, .ref a), (1, .int v1), (2, .int v2), (3, .int (v3 + (1 : Int32)))] [2, 3, 4, 0] rfl ?_
        exact hK4 v1 v2 (v3 + (1 : Int32)) m h
def f_X4_addSpare_L4 (a : Nat) : Nat → Int32 → Int32 → Int32 →  Mm → Option (Mm)
  | 0, _, _, _, _ => none
  | k + 1, v1, v2, v3, m => (if v3 < (gI m a 0) then gd (inb v1 40) ((if (((gI m (a + 6) (ix v1)) >>> (v3 &&& 31)) &&& (1 : Int32)) = 0 then f_X4_addSpare_J30 a (fun w1 w2 w3 m => f_X4_addSpare_L4 a k w1 w2 w3 m) v1 v2 v3 (1 : Int32) m else f_X4_addSpare_J30 a (fun w1 w2 w3 m => f_X4_addSpare_L4 a k w1 w2 w3 m) v1 v2 v3 (0 : Int32) m)) else gd (inb v1 40) (stI m (a + 4) (ix v1) v2 (fun m1 => gd (inb v1 40) (stI m1 (a + 5) (ix v1) (-1 : Int32) (fun m2 => (if v2 = (-1 : Int32) then some m2 else gd (inb v2 13) (gd (inb v2 13) (gd (inb v1 40) (stI m2 (a + 5) (ix v1) ((gI m2 (a + 11) (ix v2)) + (gI m2 (a + 13) (ix v2))) (fun m3 => gd (inb v2 13) (gd (inb v2 13) (stI m3 (a + 13) (ix v2) ((gI m3 (a + 13) (ix v2)) + (1 : Int32)) (fun m4 => some m4)))))))))))))
theorem t_X4_addSpare_L4 {X : XX} {G : GG} {ρ : Nat → Nat} {n t u w v : Nat} {x : Option Nat} {d : Nat} {a : Nat} (hX : Ok X G ρ cX4_addSpare 5 RX4 d) (hd0 : 0 ≤ d) (hn : 126 ≤ n) (ha : isLa a) {mE : Mm} (hF : Fin' X G ρ n none none (RT t u w v x) mE) : ∀ (k : Nat) (v1 : Int32) (v2 : Int32) (v3 : Int32) (m : Mm), f_X4_addSpare_L4 a k v1 v2 v3 m = some mE → J X G ρ n 5 4 [(0, .ref a), (1, .int v1), (2, .int v2), (3, .int v3)] [] (RT t u w v x) m := by
  intro k
  induction k with
  | zero => intro _ _ _ _ h; rw [f_X4_addSpare_L4] at h; cases h
  | succ k ih =>
    intro v1 v2 v3 m h
    rw [f_X4_addSpare_L4] at h
    refine J_iload_n hX dX4_addSpare_4 rfl 3 rfl ?_
    refine J_aload_n hX dX4_addSpare_5 rfl 0 rfl ?_
    refine J_getI hX dX4_addSpare_6 fl_RX4_78 (ltn (lt_isLa_0 ha) hn) (lo_isLa_0 ha) rfl ?_
    refine J_icmp_ge hX 65 dX4_addSpare_9 (by decide) h (fun c h => ?_) (fun c h => ?_)
    · refine J_aload_n hX dX4_addSpare_12 rfl 0 rfl ?_
      refine J_getR hX dX4_addSpare_13 fl_RX4_27 (ltn (lt_isLa_0 ha) hn) (lo_isLa_0 ha) rfl (rt_isLa_0_8 _ _ _ _ _ ha) ?_
      refine J_iload_n hX dX4_addSpare_16 rfl 1 rfl ?_
      refine J_iaload hX dX4_addSpare_17 (ltn (lt_isLa_6 ha) hn) (lay_isLa_6 ha) h (fun h => ?_)
      refine J_iload_n hX dX4_addSpare_18 rfl 3 rfl ?_
      refine J_ishr hX dX4_addSpare_19 ?_
      refine J_iconst hX (1 : Int32) dX4_addSpare_20 ic_1 ?_
      refine J_iand hX dX4_addSpare_21 ?_
      refine J_if_ne hX 29 dX4_addSpare_22 (by decide) h (fun c h => ?_) (fun c h => ?_)
      · refine J_iconst hX (1 : Int32) dX4_addSpare_25 ic_1 ?_
        refine J_goto hX 30 dX4_addSpare_26 (by decide) ?_
        exact t_X4_addSpare_J30 hX hd0 hn ha hF v1 v2 v3 (1 : Int32) (fun w1 w2 w3 m h => ih w1 w2 w3 m h) m h
      · refine J_iconst hX (0 : Int32) dX4_addSpare_29 ic_0 ?_
        exact t_X4_addSpare_J30 hX hd0 hn ha hF v1 v2 v3 (0 : Int32) (fun w1 w2 w3 m h => ih w1 w2 w3 m h) m h
    · refine J_aload_n hX dX4_addSpare_65 rfl 0 rfl ?_
      refine J_getR hX dX4_addSpare_66 fl_RX4_21 (ltn (lt_isLa_0 ha) hn) (lo_isLa_0 ha) rfl (rt_isLa_0_6 _ _ _ _ _ ha) ?_
      refine J_iload_n hX dX4_addSpare_69 rfl 1 rfl ?_
      refine J_iload_n hX dX4_addSpare_70 rfl 2 rfl ?_
      refine J_iastore hX dX4_addSpare_71 (ltn (lt_isLa_4 ha) hn) (lay_isLa_4 ha) h (fun m1 h => ?_)
      refine J_aload_n hX dX4_addSpare_72 rfl 0 rfl ?_
      refine J_getR hX dX4_addSpare_73 fl_RX4_24 (ltn (lt_isLa_0 ha) hn) (lo_isLa_0 ha) rfl (rt_isLa_0_7 _ _ _ _ _ ha) ?_
      refine J_iload_n hX dX4_addSpare_76 rfl 1 rfl ?_
      refine J_iconst hX (-1 : Int32) dX4_addSpare_77 ic_m1 ?_
      refine J_iastore hX dX4_addSpare_78 (ltn (lt_isLa_5 ha) hn) (lay_isLa_5 ha) h (fun m2 h => ?_)
      refine J_iload_n hX dX4_addSpare_79 rfl 2 rfl ?_
      refine J_iconst hX (-1 : Int32) dX4_addSpare_80 ic_m1 ?_
      refine J_icmp_eq hX 113 dX4_addSpare_81 (by decide) h (fun c h => ?_) (fun c h => ?_)
      · exact J_return hX dX4_addSpare_113 h hF
      · refine J_aload_n hX dX4_addSpare_84 rfl 0 rfl ?_
        refine J_getR hX dX4_addSpare_85 fl_RX4_24 (ltn (lt_isLa_0 ha) hn) (lo_isLa_0 ha) rfl (rt_isLa_0_7 _ _ _ _ _ ha) ?_
        refine J_iload_n hX dX4_addSpare_88 rfl 1 rfl ?_
        refine J_aload_n hX dX4_addSpare_89 rfl 0 rfl ?_
        refine J_getR hX dX4_addSpare_90 fl_RX4_42 (ltn (lt_isLa_0 ha) hn) (lo_isLa_0 ha) rfl (rt_isLa_0_13 _ _ _ _ _ ha) ?_
        refine J_iload_n hX dX4_addSpare_93 rfl 2 rfl ?_
        refine J_iaload hX dX4_addSpare_94 (ltn (lt_isLa_11 ha) hn) (lay_isLa_11 ha) h (fun h => ?_)
        refine J_aload_n hX dX4_addSpare_95 rfl 0 rfl ?_
        refine J_getR hX dX4_addSpare_96 fl_RX4_48 (ltn (lt_isLa_0 ha) hn) (lo_isLa_0 ha) rfl (rt_isLa_0_15 _ _ _ _ _ ha) ?_
        refine J_iload_n hX dX4_addSpare_99 rfl 2 rfl ?_
        refine J_iaload hX dX4_addSpare_100 (ltn (lt_isLa_13 ha) hn) (lay_isLa_13 ha) h (fun h => ?_)
        refine J_iadd hX dX4_addSpare_101 ?_
        refine J_iastore hX dX4_addSpare_102 (ltn (lt_isLa_5 ha) hn) (lay_isLa_5 ha) h (fun m3 h => ?_)
        refine J_aload_n hX dX4_addSpare_103 rfl 0 rfl ?_
        refine J_getR hX dX4_addSpare_104 fl_RX4_48 (ltn (lt_isLa_0 ha) hn) (lo_isLa_0 ha) rfl (rt_isLa_0_15 _ _ _ _ _ ha) ?_
        refine J_iload_n hX dX4_addSpare_107 rfl 2 rfl ?_
        refine J_dup2 hX dX4_addSpare_108 rfl rfl ?_
        refine J_iaload hX dX4_addSpare_109 (ltn (lt_isLa_13 ha) hn) (lay_isLa_13 ha) h (fun h => ?_)
        refine J_iconst hX (1 : Int32) dX4_addSpare_110 ic_1 ?_
        refine J_iadd hX dX4_addSpare_111 ?_
        refine J_iastore hX dX4_addSpare_112 (ltn (lt_isLa_13 ha) hn) (lay_isLa_13 ha) h (fun m4 h => ?_)
        exact J_return hX dX4_addSpare_113 h hF
def f_X4_addSpare (a : Nat) (x1 : Int32) (m : Mm) : Option (Mm) := f_X4_addSpare_L4 a FU x1 (-1 : Int32) (0 : Int32)  m
theorem t_X4_addSpare {X : XX} {G : GG} {ρ : Nat → Nat} {n t u w v : Nat} {x : Option Nat} {d : Nat} {a : Nat} (hX : Ok X G ρ cX4_addSpare 5 RX4 d) (hd0 : 0 ≤ d) (hn : 126 ≤ n) (ha : isLa a) {mE : Mm} (hF : Fin' X G ρ n none none (RT t u w v x) mE) {x1 : Int32} {m : Mm} (h : f_X4_addSpare a x1 m = some mE) : J X G ρ n 5 0 [(0, .ref a), (1, .int x1)] [] (RT t u w v x) m := by
  unfold f_X4_addSpare at h
  refine J_iconst hX (-1 : Int32) dX4_addSpare_0 ic_m1 ?_
  refine J_istore_n hX [(2, .int (-1 : Int32)), (0, .ref a), (1, .int x1)] dX4_addSpare_1 rfl (by decide) rfl ?_
  refine J_iconst hX (0 : Int32) dX4_addSpare_2 ic_0 ?_
  refine J_istore_n hX [(3, .int (0 : Int32)), (2, .int (-1 : Int32)), (0, .ref a), (1, .int x1)] dX4_addSpare_3 rfl (by decide) rfl ?_
  refine J_sub [(0, .ref a), (1, .int x1), (2, .int (-1 : Int32)), (3, .int (0 : Int32))] [2, 3, 1, 0] rfl ?_
  exact t_X4_addSpare_L4 hX hd0 hn ha hF FU x1 (-1 : Int32) (0 : Int32)  m h
theorem c_X4_addSpare {G : GG} {l : Launch} {ρ : Nat → Nat} {n t u w v : Nat} {x : Option Nat} (hn : 126 ≤ n) {a : Nat} (ha : isLa a) {x1 : Int32} {m : Mm} {mE : Mm} (h : f_X4_addSpare a x1 m = some mE) : CT G l yX4_addSpare cX4_addSpare 5 none 0 0 0 ρ n (RT t u w v x) [.ref a, .int x1] m none (RT t u w v x) mE := ct_of_J (by decide) rfl (Nat.le_of_ble_eq_true rfl) (fun X hX e1 e2 e3 e4 hQ hr hl => t_X4_addSpare hX (Nat.le_refl _) hn ha ⟨by rw [hQ, e3, e4], hr, hl⟩ h)
def f_X6_diskNow (a : Nat) (x1 : Int32) (m : Mm) : Option (Int32 × Mm) := gd (inb x1 200) ((if (gI m (a + 1) (ix x1)) = (2 : Int32) then some ((-1 : Int32), m) else gd (inb x1 200) ((if (gI m (a + 1) (ix x1)) = 0 then gd (inb x1 200) (some ((gI m 33 (ix x1)), m)) else gd (inb (x1 / (5 : Int32)) 40) (some ((gI m 30 (ix (x1 / (5 : Int32)))), m))))))
theorem t_X6_diskNow {X : XX} {G : GG} {ρ : Nat → Nat} {n t u w v : Nat} {x : Option Nat} {d : Nat} {a : Nat} (hX : Ok X G ρ cX6_diskNow 2 RX6 d) (hd0 : 0 ≤ d) (hn : 126 ≤ n) (ha : isSt a) {rE : Int32} {mE : Mm} (hF : Fin' X G ρ n (some .int) (some (.int rE)) (RT t u w v x) mE) {x1 : Int32} {m : Mm} (h : f_X6_diskNow a x1 m = some (rE, mE)) : J X G ρ n 2 0 [(0, .ref a), (1, .int x1)] [] (RT t u w v x) m := by
  unfold f_X6_diskNow at h
  refine J_aload_n hX dX6_diskNow_0 rfl 0 rfl ?_
  refine J_getR hX dX6_diskNow_1 fl_RX6_9 (ltn (lt_isSt_0 ha) hn) (lo_isSt_0 ha) rfl (rt_isSt_0_2 _ _ _ _ _ ha) ?_
  refine J_iload_n hX dX6_diskNow_4 rfl 1 rfl ?_
  refine J_iaload hX dX6_diskNow_5 (ltn (lt_isSt_1 ha) hn) (lay_isSt_1 ha) h (fun h => ?_)
  refine J_iconst hX (2 : Int32) dX6_diskNow_6 ic_2 ?_
  refine J_icmp_ne hX 12 dX6_diskNow_7 (by decide) h (fun c h => ?_) (fun c h => ?_)
  · refine J_iconst hX (-1 : Int32) dX6_diskNow_10 ic_m1 ?_
    exact J_ireturn hX dX6_diskNow_11 h hF rfl
  · refine J_aload_n hX dX6_diskNow_12 rfl 0 rfl ?_
    refine J_getR hX dX6_diskNow_13 fl_RX6_9 (ltn (lt_isSt_0 ha) hn) (lo_isSt_0 ha) rfl (rt_isSt_0_2 _ _ _ _ _ ha) ?_
    refine J_iload_n hX dX6_diskNow_16 rfl 1 rfl ?_
    refine J_iaload hX dX6_diskNow_17 (ltn (lt_isSt_1 ha) hn) (lay_isSt_1 ha) h (fun h => ?_)
    refine J_if_ne hX 33 dX6_diskNow_18 (by decide) h (fun c h => ?_) (fun c h => ?_)
    · refine J_aload_n hX dX6_diskNow_21 rfl 0 rfl ?_
      refine J_getR hX dX6_diskNow_22 fl_RX6_24 (ltn (lt_isSt_0 ha) hn) (lo_isSt_0 ha) rfl (rt_isSt_0_0 _ _ _ _ _ ha) ?_
      refine J_getR hX dX6_diskNow_25 fl_RX6_49 (ltn ltc_26 hn) lo_26 rfl (rt_26_9 _ _ _ _ _) ?_
      refine J_iload_n hX dX6_diskNow_28 rfl 1 rfl ?_
      refine J_iaload hX dX6_diskNow_29 (ltn ltc_33 hn) lay_33 h (fun h => ?_)
      refine J_goto hX 44 dX6_diskNow_30 (by decide) ?_
      exact J_ireturn hX dX6_diskNow_44 h hF rfl
    · refine J_aload_n hX dX6_diskNow_33 rfl 0 rfl ?_
      refine J_getR hX dX6_diskNow_34 fl_RX6_24 (ltn (lt_isSt_0 ha) hn) (lo_isSt_0 ha) rfl (rt_isSt_0_0 _ _ _ _ _ ha) ?_
      refine J_getR hX dX6_diskNow_37 fl_RX6_52 (ltn ltc_26 hn) lo_26 rfl (rt_26_6 _ _ _ _ _) ?_
      refine J_iload_n hX dX6_diskNow_40 rfl 1 rfl ?_
      refine J_iconst hX (5 : Int32) dX6_diskNow_41 ic_5 ?_
      refine J_idiv0 hX dX6_diskNow_42 (by decide) ?_
      refine J_iaload hX dX6_diskNow_43 (ltn ltc_30 hn) lay_30 h (fun h => ?_)
      exact J_ireturn hX dX6_diskNow_44 h hF rfl
theorem c_X6_diskNow {G : GG} {l : Launch} {ρ : Nat → Nat} {n t u w v : Nat} {x : Option Nat} (hn : 126 ≤ n) {a : Nat} (ha : isSt a) {x1 : Int32} {m : Mm} {rE : Int32} {mE : Mm} (h : f_X6_diskNow a x1 m = some (rE, mE)) : CT G l yX6_diskNow cX6_diskNow 2 (some .int) 0 0 0 ρ n (RT t u w v x) [.ref a, .int x1] m (some (.int rE)) (RT t u w v x) mE := ct_of_J (by decide) rfl (Nat.le_of_ble_eq_true rfl) (fun X hX e1 e2 e3 e4 hQ hr hl => t_X6_diskNow hX (Nat.le_refl _) hn ha ⟨by rw [hQ, e3, e4], hr, hl⟩ h)
def f_X6_disksNow_L4 (a : Nat) : Nat → Int32 → Int32 → Int32 →  Mm → Option (Int32 × Mm)
  | 0, _, _, _, _ => none
  | k + 1, v1, v2, v3, m => gd (inb v1 40) ((if v3 < (gI m 27 (ix v1)) then bd2 (f_X6_diskNow a ((v1 * (5 : Int32)) + v3) m) (fun r2 m1 => (if r2 = (-1 : Int32) then f_X6_disksNow_L4 a k v1 v2 (v3 + (1 : Int32)) m1 else f_X6_disksNow_L4 a k v1 (v2 ||| ((1 : Int32) <<< (r2 &&& 31))) (v3 + (1 : Int32)) m1)) else some (v2, m)))
theorem t_X6_disksNow_L4 {X : XX} {G : GG} {ρ : Nat → Nat} {n t u w v : Nat} {x : Option Nat} {d : Nat} {a : Nat} (hX : Ok X G ρ cX6_disksNow 5 RX6 d) (hd0 : 1 ≤ d) (hn : 126 ≤ n) (ha : isSt a) {rE : Int32} {mE : Mm} (hF : Fin' X G ρ n (some .int) (some (.int rE)) (RT t u w v x) mE) : ∀ (k : Nat) (v1 : Int32) (v2 : Int32) (v3 : Int32) (m : Mm), f_X6_disksNow_L4 a k v1 v2 v3 m = some (rE, mE) → J X G ρ n 5 4 [(0, .ref a), (1, .int v1), (2, .int v2), (3, .int v3)] [] (RT t u w v x) m := by
  intro k
  induction k with
  | zero => intro _ _ _ _ h; rw [f_X6_disksNow_L4] at h; cases h
  | succ k ih =>
    intro v1 v2 v3 m h
    rw [f_X6_disksNow_L4] at h
    refine J_iload_n hX dX6_disksNow_4 rfl 3 rfl ?_
    refine J_aload_n hX dX6_disksNow_5 rfl 0 rfl ?_
    refine J_getR hX dX6_disksNow_6 fl_RX6_24 (ltn (lt_isSt_0 ha) hn) (lo_isSt_0 ha) rfl (rt_isSt_0_0 _ _ _ _ _ ha) ?_
    refine J_getR hX dX6_disksNow_9 fl_RX6_61 (ltn ltc_26 hn) lo_26 rfl (rt_26_3 _ _ _ _ _) ?_
    refine J_iload_n hX dX6_disksNow_12 rfl 1 rfl ?_
    refine J_iaload hX dX6_disksNow_13 (ltn ltc_27 hn) lay_27 h (fun h => ?_)
    refine J_icmp_ge hX 47 dX6_disksNow_14 (by decide) h (fun c h => ?_) (fun c h => ?_)
    · refine J_aload_n hX dX6_disksNow_17 rfl 0 rfl ?_
      refine J_iload_n hX dX6_disksNow_18 rfl 1 rfl ?_
      refine J_iconst hX (5 : Int32) dX6_disksNow_19 ic_5 ?_
      refine J_imul hX dX6_disksNow_20 ?_
      refine J_iload_n hX dX6_disksNow_21 rfl 3 rfl ?_
      refine J_iadd hX dX6_disksNow_22 ?_
      obtain ⟨r2, m1, h0, h⟩ := bd2_some h
      refine J_callVi (As := [.int ((v1 * (5 : Int32)) + v3)]) (st := []) hX dX6_disksNow_23 cw_RX6_73 (by omega) (c_X6_diskNow hn ha h0) (ltn (lt_isSt_0 ha) hn) (lo_isSt_0 ha) (by decide) rfl rfl rfl (Nat.le_of_ble_eq_true rfl) ?_
      clear h0
      refine J_istore hX [(4, .int r2), (0, .ref a), (1, .int v1), (2, .int v2), (3, .int v3)] dX6_disksNow_26 (by decide) rfl ?_
      refine J_iload hX dX6_disksNow_28 0 rfl ?_
      refine J_iconst hX (-1 : Int32) dX6_disksNow_30 ic_m1 ?_
      refine J_icmp_eq hX 41 dX6_disksNow_31 (by decide) h (fun c h => ?_) (fun c h => ?_)
      · refine J_iinc hX (v3 + (1 : Int32)) [(3, .int (v3 + (1 : Int32))), (4, .int r2), (0, .ref a), (1, .int v1), (2, .int v2)] dX6_disksNow_41 4 rfl (congrArg (fun z => v3 + z) ic_1) (by decide) rfl ?_
        refine J_goto hX 4 dX6_disksNow_44 (by decide) ?_
        refine J_sub [(0, .ref a), (1, .int v1), (2, .int v2), (3, .int (v3 + (1 : Int32)))] [2, 3, 4, 0] rfl ?_
        exact ih v1 v2 (v3 + (1 : Int32)) m1 h
      · refine J_iload_n hX dX6_disksNow_34 rfl 3 rfl ?_
        refine J_iconst hX (1 : Int32) dX6_disksNow_35 ic_1 ?_
        refine J_iload hX dX6_disksNow_36 0 rfl ?_
        refine J_ishl hX dX6_disksNow_38 ?_
        refine J_ior hX dX6_disksNow_39 ?_
        refine J_istore_n hX [(2, .int (v2 ||| ((1 : Int32) <<< (r2 &&& 31)))), (4, .int r2), (0, .ref a), (1, .int v1), (3, .int v3)] dX6_disksNow_40 rfl (by decide) rfl ?_
        refine J_iinc hX (v3 + (1 : Int32)) [(3, .int (v3 + (1 : Int32))), (2, .int (v2 ||| ((1 : Int32) <<< (r2 &&& 31)))), (4, .int r2), (0, .ref a), (1, .int v1)] dX6_disksNow_41 4 rfl (congrArg (fun z => v3 + z) ic_1) (by decide) rfl ?_
        refine J_goto hX 4 dX6_disksNow_44 (by decide) ?_
        refine J_sub [(0, .ref a), (1, .int v1), (2, .int (v2 ||| ((1 : Int32) <<< (r2 &&& 31)))), (3, .int (v3 + (1 : Int32)))] [3, 4, 1, 0] rfl ?_
        exact ih v1 (v2 ||| ((1 : Int32) <<< (r2 &&& 31))) (v3 + (1 : Int32)) m1 h
    · refine J_iload_n hX dX6_disksNow_47 rfl 2 rfl ?_
      exact J_ireturn hX dX6_disksNow_48 h hF rfl
def f_X6_disksNow (a : Nat) (x1 : Int32) (m : Mm) : Option (Int32 × Mm) := f_X6_disksNow_L4 a FU x1 (0 : Int32) (0 : Int32)  m
theorem t_X6_disksNow {X : XX} {G : GG} {ρ : Nat → Nat} {n t u w v : Nat} {x : Option Nat} {d : Nat} {a : Nat} (hX : Ok X G ρ cX6_disksNow 5 RX6 d) (hd0 : 1 ≤ d) (hn : 126 ≤ n) (ha : isSt a) {rE : Int32} {mE : Mm} (hF : Fin' X G ρ n (some .int) (some (.int rE)) (RT t u w v x) mE) {x1 : Int32} {m : Mm} (h : f_X6_disksNow a x1 m = some (rE, mE)) : J X G ρ n 5 0 [(0, .ref a), (1, .int x1)] [] (RT t u w v x) m := by
  unfold f_X6_disksNow at h
  refine J_iconst hX (0 : Int32) dX6_disksNow_0 ic_0 ?_
  refine J_istore_n hX [(2, .int (0 : Int32)), (0, .ref a), (1, .int x1)] dX6_disksNow_1 rfl (by decide) rfl ?_
  refine J_iconst hX (0 : Int32) dX6_disksNow_2 ic_0 ?_
  refine J_istore_n hX [(3, .int (0 : Int32)), (2, .int (0 : Int32)), (0, .ref a), (1, .int x1)] dX6_disksNow_3 rfl (by decide) rfl ?_
  refine J_sub [(0, .ref a), (1, .int x1), (2, .int (0 : Int32)), (3, .int (0 : Int32))] [2, 3, 1, 0] rfl ?_
  exact t_X6_disksNow_L4 hX hd0 hn ha hF FU x1 (0 : Int32) (0 : Int32)  m h
theorem c_X6_disksNow {G : GG} {l : Launch} {ρ : Nat → Nat} {n t u w v : Nat} {x : Option Nat} (hn : 126 ≤ n) {a : Nat} (ha : isSt a) {x1 : Int32} {m : Mm} {rE : Int32} {mE : Mm} (h : f_X6_disksNow a x1 m = some (rE, mE)) : CT G l yX6_disksNow cX6_disksNow 5 (some .int) 1 0 0 ρ n (RT t u w v x) [.ref a, .int x1] m (some (.int rE)) (RT t u w v x) mE := ct_of_J (by decide) rfl (Nat.le_of_ble_eq_true rfl) (fun X hX e1 e2 e3 e4 hQ hr hl => t_X6_disksNow hX (Nat.le_refl _) hn ha ⟨by rw [hQ, e3, e4], hr, hl⟩ h)
def f_X6_lostBits_L4 (a : Nat) : Nat → Int32 → Int32 → Int32 →  Mm → Option (Int32 × Mm)
  | 0, _, _, _, _ => none
  | k + 1, v1, v2, v3, m => gd (inb v1 40) ((if v3 < (gI m 27 (ix v1)) then gd (inb ((v1 * (5 : Int32)) + v3) 200) ((if (gI m (a + 1) (ix ((v1 * (5 : Int32)) + v3))) = (2 : Int32) then f_X6_lostBits_L4 a k v1 (v2 ||| ((1 : Int32) <<< (v3 &&& 31))) (v3 + (1 : Int32)) m else f_X6_lostBits_L4 a k v1 v2 (v3 + (1 : Int32)) m)) else some (v2, m)))
theorem t_X6_lostBits_L4 {X : XX} {G : GG} {ρ : Nat → Nat} {n t u w v : Nat} {x : Option Nat} {d : Nat} {a : Nat} (hX : Ok X G ρ cX6_lostBits 4 RX6 d) (hd0 : 0 ≤ d) (hn : 126 ≤ n) (ha : isSt a) {rE : Int32} {mE : Mm} (hF : Fin' X G ρ n (some .int) (some (.int rE)) (RT t u w v x) mE) : ∀ (k : Nat) (v1 : Int32) (v2 : Int32) (v3 : Int32) (m : Mm), f_X6_lostBits_L4 a k v1 v2 v3 m = some (rE, mE) → J X G ρ n 4 4 [(0, .ref a), (1, .int v1), (2, .int v2), (3, .int v3)] [] (RT t u w v x) m := by
  intro k
  induction k with
  | zero => intro _ _ _ _ h; rw [f_X6_lostBits_L4] at h; cases h
  | succ k ih =>
    intro v1 v2 v3 m h
    rw [f_X6_lostBits_L4] at h
    refine J_iload_n hX dX6_lostBits_4 rfl 3 rfl ?_
    refine J_aload_n hX dX6_lostBits_5 rfl 0 rfl ?_
    refine J_getR hX dX6_lostBits_6 fl_RX6_24 (ltn (lt_isSt_0 ha) hn) (lo_isSt_0 ha) rfl (rt_isSt_0_0 _ _ _ _ _ ha) ?_
    refine J_getR hX dX6_lostBits_9 fl_RX6_61 (ltn ltc_26 hn) lo_26 rfl (rt_26_3 _ _ _ _ _) ?_
    refine J_iload_n hX dX6_lostBits_12 rfl 1 rfl ?_
    refine J_iaload hX dX6_lostBits_13 (ltn ltc_27 hn) lay_27 h (fun h => ?_)
    refine J_icmp_ge hX 43 dX6_lostBits_14 (by decide) h (fun c h => ?_) (fun c h => ?_)
    · refine J_aload_n hX dX6_lostBits_17 rfl 0 rfl ?_
      refine J_getR hX dX6_lostBits_18 fl_RX6_9 (ltn (lt_isSt_0 ha) hn) (lo_isSt_0 ha) rfl (rt_isSt_0_2 _ _ _ _ _ ha) ?_
      refine J_iload_n hX dX6_lostBits_21 rfl 1 rfl ?_
      refine J_iconst hX (5 : Int32) dX6_lostBits_22 ic_5 ?_
      refine J_imul hX dX6_lostBits_23 ?_
      refine J_iload_n hX dX6_lostBits_24 rfl 3 rfl ?_
      refine J_iadd hX dX6_lostBits_25 ?_
      refine J_iaload hX dX6_lostBits_26 (ltn (lt_isSt_1 ha) hn) (lay_isSt_1 ha) h (fun h => ?_)
      refine J_iconst hX (2 : Int32) dX6_lostBits_27 ic_2 ?_
      refine J_icmp_ne hX 37 dX6_lostBits_28 (by decide) h (fun c h => ?_) (fun c h => ?_)
      · refine J_iload_n hX dX6_lostBits_31 rfl 2 rfl ?_
        refine J_iconst hX (1 : Int32) dX6_lostBits_32 ic_1 ?_
        refine J_iload_n hX dX6_lostBits_33 rfl 3 rfl ?_
        refine J_ishl hX dX6_lostBits_34 ?_
        refine J_ior hX dX6_lostBits_35 ?_
        refine J_istore_n hX [(2, .int (v2 ||| ((1 : Int32) <<< (v3 &&& 31)))), (0, .ref a), (1, .int v1), (3, .int v3)] dX6_lostBits_36 rfl (by decide) rfl ?_
        refine J_iinc hX (v3 + (1 : Int32)) [(3, .int (v3 + (1 : Int32))), (2, .int (v2 ||| ((1 : Int32) <<< (v3 &&& 31)))), (0, .ref a), (1, .int v1)] dX6_lostBits_37 3 rfl (congrArg (fun z => v3 + z) ic_1) (by decide) rfl ?_
        refine J_goto hX 4 dX6_lostBits_40 (by decide) ?_
        refine J_sub [(0, .ref a), (1, .int v1), (2, .int (v2 ||| ((1 : Int32) <<< (v3 &&& 31)))), (3, .int (v3 + (1 : Int32)))] [2, 3, 1, 0] rfl ?_
        exact ih v1 (v2 ||| ((1 : Int32) <<< (v3 &&& 31))) (v3 + (1 : Int32)) m h
      · refine J_iinc hX (v3 + (1 : Int32)) [(3, .int (v3 + (1 : Int32))), (0, .ref a), (1, .int v1), (2, .int v2)] dX6_lostBits_37 3 rfl (congrArg (fun z => v3 + z) ic_1) (by decide) rfl ?_
        refine J_goto hX 4 dX6_lostBits_40 (by decide) ?_
        refine J_sub [(0, .ref a), (1, .int v1), (2, .int v2), (3, .int (v3 + (1 : Int32)))] [1, 2, 3, 0] rfl ?_
        exact ih v1 v2 (v3 + (1 : Int32)) m h
    · refine J_iload_n hX dX6_lostBits_43 rfl 2 rfl ?_
      exact J_ireturn hX dX6_lostBits_44 h hF rfl
def f_X6_lostBits (a : Nat) (x1 : Int32) (m : Mm) : Option (Int32 × Mm) := f_X6_lostBits_L4 a FU x1 (0 : Int32) (0 : Int32)  m
theorem t_X6_lostBits {X : XX} {G : GG} {ρ : Nat → Nat} {n t u w v : Nat} {x : Option Nat} {d : Nat} {a : Nat} (hX : Ok X G ρ cX6_lostBits 4 RX6 d) (hd0 : 0 ≤ d) (hn : 126 ≤ n) (ha : isSt a) {rE : Int32} {mE : Mm} (hF : Fin' X G ρ n (some .int) (some (.int rE)) (RT t u w v x) mE) {x1 : Int32} {m : Mm} (h : f_X6_lostBits a x1 m = some (rE, mE)) : J X G ρ n 4 0 [(0, .ref a), (1, .int x1)] [] (RT t u w v x) m := by
  unfold f_X6_lostBits at h
  refine J_iconst hX (0 : Int32) dX6_lostBits_0 ic_0 ?_
  refine J_istore_n hX [(2, .int (0 : Int32)), (0, .ref a), (1, .int x1)] dX6_lostBits_1 rfl (by decide) rfl ?_
  refine J_iconst hX (0 : Int32) dX6_lostBits_2 ic_0 ?_
  refine J_istore_n hX [(3, .int (0 : Int32)), (2, .int (0 : Int32)), (0, .ref a), (1, .int x1)] dX6_lostBits_3 rfl (by decide) rfl ?_
  refine J_sub [(0, .ref a), (1, .int x1), (2, .int (0 : Int32)), (3, .int (0 : Int32))] [2, 3, 1, 0] rfl ?_
  exact t_X6_lostBits_L4 hX hd0 hn ha hF FU x1 (0 : Int32) (0 : Int32)  m h
theorem c_X6_lostBits {G : GG} {l : Launch} {ρ : Nat → Nat} {n t u w v : Nat} {x : Option Nat} (hn : 126 ≤ n) {a : Nat} (ha : isSt a) {x1 : Int32} {m : Mm} {rE : Int32} {mE : Mm} (h : f_X6_lostBits a x1 m = some (rE, mE)) : CT G l yX6_lostBits cX6_lostBits 4 (some .int) 0 0 0 ρ n (RT t u w v x) [.ref a, .int x1] m (some (.int rE)) (RT t u w v x) mE := ct_of_J (by decide) rfl (Nat.le_of_ble_eq_true rfl) (fun X hX e1 e2 e3 e4 hQ hr hl => t_X6_lostBits hX (Nat.le_refl _) hn ha ⟨by rw [hQ, e3, e4], hr, hl⟩ h)
def f_X6_awayUnit_L2 (a : Nat) : Nat → Int32 → Int32 →  Mm → Option (Int32 × Mm)
  | 0, _, _, _ => none
  | k + 1, v1, v2, m => gd (inb v1 40) ((if v2 < (gI m 27 (ix v1)) then gd (inb ((v1 * (5 : Int32)) + v2) 200) ((if (gI m (a + 1) (ix ((v1 * (5 : Int32)) + v2))) = (1 : Int32) then some (v2, m) else f_X6_awayUnit_L2 a k v1 (v2 + (1 : Int32)) m)) else some ((-1 : Int32), m)))
theorem t_X6_awayUnit_L2 {X : XX} {G : GG} {ρ : Nat → Nat} {n t u w v : Nat} {x : Option Nat} {d : Nat} {a : Nat} (hX : Ok X G ρ cX6_awayUnit 3 RX6 d) (hd0 : 0 ≤ d) (hn : 126 ≤ n) (ha : isSt a) {rE : Int32} {mE : Mm} (hF : Fin' X G ρ n (some .int) (some (.int rE)) (RT t u w v x) mE) : ∀ (k : Nat) (v1 : Int32) (v2 : Int32) (m : Mm), f_X6_awayUnit_L2 a k v1 v2 m = some (rE, mE) → J X G ρ n 3 2 [(0, .ref a), (1, .int v1), (2, .int v2)] [] (RT t u w v x) m := by
  intro k
  induction k with
  | zero => intro _ _ _ h; rw [f_X6_awayUnit_L2] at h; cases h
  | succ k ih =>
    intro v1 v2 m h
    rw [f_X6_awayUnit_L2] at h
    refine J_iload_n hX dX6_awayUnit_2 rfl 2 rfl ?_
    refine J_aload_n hX dX6_awayUnit_3 rfl 0 rfl ?_
    refine J_getR hX dX6_awayUnit_4 fl_RX6_24 (ltn (lt_isSt_0 ha) hn) (lo_isSt_0 ha) rfl (rt_isSt_0_0 _ _ _ _ _ ha) ?_
    refine J_getR hX dX6_awayUnit_7 fl_RX6_61 (ltn ltc_26 hn) lo_26 rfl (rt_26_3 _ _ _ _ _) ?_
    refine J_iload_n hX dX6_awayUnit_10 rfl 1 rfl ?_
    refine J_iaload hX dX6_awayUnit_11 (ltn ltc_27 hn) lay_27 h (fun h => ?_)
    refine J_icmp_ge hX 37 dX6_awayUnit_12 (by decide) h (fun c h => ?_) (fun c h => ?_)
    · refine J_aload_n hX dX6_awayUnit_15 rfl 0 rfl ?_
      refine J_getR hX dX6_awayUnit_16 fl_RX6_9 (ltn (lt_isSt_0 ha) hn) (lo_isSt_0 ha) rfl (rt_isSt_0_2 _ _ _ _ _ ha) ?_
      refine J_iload_n hX dX6_awayUnit_19 rfl 1 rfl ?_
      refine J_iconst hX (5 : Int32) dX6_awayUnit_20 ic_5 ?_
      refine J_imul hX dX6_awayUnit_21 ?_
      refine J_iload_n hX dX6_awayUnit_22 rfl 2 rfl ?_
      refine J_iadd hX dX6_awayUnit_23 ?_
      refine J_iaload hX dX6_awayUnit_24 (ltn (lt_isSt_1 ha) hn) (lay_isSt_1 ha) h (fun h => ?_)
      refine J_iconst hX (1 : Int32) dX6_awayUnit_25 ic_1 ?_
      refine J_icmp_ne hX 31 dX6_awayUnit_26 (by decide) h (fun c h => ?_) (fun c h => ?_)
      · refine J_iload_n hX dX6_awayUnit_29 rfl 2 rfl ?_
        exact J_ireturn hX dX6_awayUnit_30 h hF rfl
      · refine J_iinc hX (v2 + (1 : Int32)) [(2, .int (v2 + (1 : Int32))), (0, .ref a), (1, .int v1)] dX6_awayUnit_31 2 rfl (congrArg (fun z => v2 + z) ic_1) (by decide) rfl ?_
        refine J_goto hX 2 dX6_awayUnit_34 (by decide) ?_
        refine J_sub [(0, .ref a), (1, .int v1), (2, .int (v2 + (1 : Int32)))] [1, 2, 0] rfl ?_
        exact ih v1 (v2 + (1 : Int32)) m h
    · refine J_iconst hX (-1 : Int32) dX6_awayUnit_37 ic_m1 ?_
      exact J_ireturn hX dX6_awayUnit_38 h hF rfl
def f_X6_awayUnit (a : Nat) (x1 : Int32) (m : Mm) : Option (Int32 × Mm) := f_X6_awayUnit_L2 a FU x1 (0 : Int32)  m
theorem t_X6_awayUnit {X : XX} {G : GG} {ρ : Nat → Nat} {n t u w v : Nat} {x : Option Nat} {d : Nat} {a : Nat} (hX : Ok X G ρ cX6_awayUnit 3 RX6 d) (hd0 : 0 ≤ d) (hn : 126 ≤ n) (ha : isSt a) {rE : Int32} {mE : Mm} (hF : Fin' X G ρ n (some .int) (some (.int rE)) (RT t u w v x) mE) {x1 : Int32} {m : Mm} (h : f_X6_awayUnit a x1 m = some (rE, mE)) : J X G ρ n 3 0 [(0, .ref a), (1, .int x1)] [] (RT t u w v x) m := by
  unfold f_X6_awayUnit at h
  refine J_iconst hX (0 : Int32) dX6_awayUnit_0 ic_0 ?_
  refine J_istore_n hX [(2, .int (0 : Int32)), (0, .ref a), (1, .int x1)] dX6_awayUnit_1 rfl (by decide) rfl ?_
  refine J_sub [(0, .ref a), (1, .int x1), (2, .int (0 : Int32))] [1, 2, 0] rfl ?_
  exact t_X6_awayUnit_L2 hX hd0 hn ha hF FU x1 (0 : Int32)  m h
theorem c_X6_awayUnit {G : GG} {l : Launch} {ρ : Nat → Nat} {n t u w v : Nat} {x : Option Nat} (hn : 126 ≤ n) {a : Nat} (ha : isSt a) {x1 : Int32} {m : Mm} {rE : Int32} {mE : Mm} (h : f_X6_awayUnit a x1 m = some (rE, mE)) : CT G l yX6_awayUnit cX6_awayUnit 3 (some .int) 0 0 0 ρ n (RT t u w v x) [.ref a, .int x1] m (some (.int rE)) (RT t u w v x) mE := ct_of_J (by decide) rfl (Nat.le_of_ble_eq_true rfl) (fun X hX e1 e2 e3 e4 hQ hr hl => t_X6_awayUnit hX (Nat.le_refl _) hn ha ⟨by rw [hQ, e3, e4], hr, hl⟩ h)
def f_X6_isUp (a : Nat) (x1 : Int32) (m : Mm) : Option (Int32 × Mm) := (if x1 < 0 then some ((0 : Int32), m) else (if (((gI m a 1) >>> (x1 &&& 31)) &&& (1 : Int32)) = 0 then some ((0 : Int32), m) else some ((1 : Int32), m)))
theorem t_X6_isUp {X : XX} {G : GG} {ρ : Nat → Nat} {n t u w v : Nat} {x : Option Nat} {d : Nat} {a : Nat} (hX : Ok X G ρ cX6_isUp 2 RX6 d) (hd0 : 0 ≤ d) (hn : 126 ≤ n) (ha : isSt a) {rE : Int32} {mE : Mm} (hF : Fin' X G ρ n (some .boolean) (some (.int rE)) (RT t u w v x) mE) {x1 : Int32} {m : Mm} (h : f_X6_isUp a x1 m = some (rE, mE)) : J X G ρ n 2 0 [(0, .ref a), (1, .int x1)] [] (RT t u w v x) m := by
  unfold f_X6_isUp at h
  refine J_iload_n hX dX6_isUp_0 rfl 1 rfl ?_
  refine J_if_lt hX 19 dX6_isUp_1 (by decide) h (fun c h => ?_) (fun c h => ?_)
  · refine J_iconst hX (0 : Int32) dX6_isUp_19 ic_0 ?_
    exact J_ireturn hX dX6_isUp_20 h hF narrow_b0
  · refine J_aload_n hX dX6_isUp_4 rfl 0 rfl ?_
    refine J_getI hX dX6_isUp_5 fl_RX6_34 (ltn (lt_isSt_0 ha) hn) (lo_isSt_0 ha) rfl ?_
    refine J_iload_n hX dX6_isUp_8 rfl 1 rfl ?_
    refine J_ishr hX dX6_isUp_9 ?_
    refine J_iconst hX (1 : Int32) dX6_isUp_10 ic_1 ?_
    refine J_iand hX dX6_isUp_11 ?_
    refine J_if_eq hX 19 dX6_isUp_12 (by decide) h (fun c h => ?_) (fun c h => ?_)
    · refine J_iconst hX (0 : Int32) dX6_isUp_19 ic_0 ?_
      exact J_ireturn hX dX6_isUp_20 h hF narrow_b0
    · refine J_iconst hX (1 : Int32) dX6_isUp_15 ic_1 ?_
      refine J_goto hX 20 dX6_isUp_16 (by decide) ?_
      exact J_ireturn hX dX6_isUp_20 h hF narrow_b1
theorem c_X6_isUp {G : GG} {l : Launch} {ρ : Nat → Nat} {n t u w v : Nat} {x : Option Nat} (hn : 126 ≤ n) {a : Nat} (ha : isSt a) {x1 : Int32} {m : Mm} {rE : Int32} {mE : Mm} (h : f_X6_isUp a x1 m = some (rE, mE)) : CT G l yX6_isUp cX6_isUp 2 (some .boolean) 0 0 0 ρ n (RT t u w v x) [.ref a, .int x1] m (some (.int rE)) (RT t u w v x) mE := ct_of_J (by decide) rfl (Nat.le_of_ble_eq_true rfl) (fun X hX e1 e2 e3 e4 hQ hr hl => t_X6_isUp hX (Nat.le_refl _) hn ha ⟨by rw [hQ, e3, e4], hr, hl⟩ h)
def f_X5_rebuiltIntoSpares_J70 (K5 : Int32 → Int64 → Int32 → Mm → Option (Int64 × Mm)) (v1 : Int32) (v2 : Int64) (v4 : Int32) (v5 : Int32) (s0 : Int32) (m : Mm) : Option (Int64 × Mm) := (if v5 = 0 then K5 v1 v2 (v4 + (1 : Int32)) m else (if s0 = 0 then K5 v1 v2 (v4 + (1 : Int32)) m else gd (inb v4 40) (bd2 (f_X6_isUp 54 (gI m 30 (ix v4)) m) (fun r6 m5 => (if r6 = 0 then K5 v1 v2 (v4 + (1 : Int32)) m5 else K5 v1 (v2 ||| ((1 : Int64) <<< (v4.toInt64 &&& 63))) (v4 + (1 : Int32)) m5)))))
theorem t_X5_rebuiltIntoSpares_J70 {X : XX} {G : GG} {ρ : Nat → Nat} {n t u w v : Nat} {x : Option Nat} {d : Nat} (hX : Ok X G ρ cX5_rebuiltIntoSpares 7 RX5 d) (hd0 : 2 ≤ d) (hn : 126 ≤ n) {rE : Int64} {mE : Mm} (hF : Fin' X G ρ n (some .long) (some (.long rE)) (RT t u w v x) mE) {K5 : Int32 → Int64 → Int32 → Mm → Option (Int64 × Mm)} (v1 : Int32) (v2 : Int64) (v4 : Int32) (v5 : Int32) (s0 : Int32) (hK5 : ∀ (w1 : Int32) (w2 : Int64) (w4 : Int32) (m : Mm), K5 w1 w2 w4 m = some (rE, mE) → J X G ρ n 7 5 [(0, .ref 76), (1, .int w1), (2, .long w2), (4, .int w4)] [] (RT t u w v x) m) (m : Mm) (h : f_X5_rebuiltIntoSpares_J70 K5 v1 v2 v4 v5 s0 m = some (rE, mE)) : J X G ρ n 7 70 [(0, .ref 76), (1, .int v1), (2, .long v2), (4, .int v4), (5, .int v5)] [.int s0] (RT t u w v x) m := by
  unfold f_X5_rebuiltIntoSpares_J70 at h
  refine J_istore hX [(6, .int s0), (0, .ref 76), (1, .int v1), (2, .long v2), (4, .int v4), (5, .int v5)] dX5_rebuiltIntoSpares_70 (by decide) rfl ?_
  refine J_iload hX dX5_rebuiltIntoSpares_72 5 rfl ?_
  refine J_if_eq hX 109 dX5_rebuiltIntoSpares_74 (by decide) h (fun c h => ?_) (fun c h => ?_)
  · refine J_iinc hX (v4 + (1 : Int32)) [(4, .int (v4 + (1 : Int32))), (6, .int s0), (0, .ref 76), (1, .int v1), (2, .long v2), (5, .int v5)] dX5_rebuiltIntoSpares_109 4 rfl (congrArg (fun z => v4 + z) ic_1) (by decide) rfl ?_
    refine J_goto hX 5 dX5_rebuiltIntoSpares_112 (by decide) ?_
    refine J_sub [(0, .ref 76), (1, .int v1), (2, .long v2), (4, .int (v4 + (1 : Int32)))] [2, 3, 4, 0] rfl ?_
    exact hK5 v1 v2 (v4 + (1 : Int32)) m h
  · refine J_iload hX dX5_rebuiltIntoSpares_77 0 rfl ?_
    refine J_if_eq hX 109 dX5_rebuiltIntoSpares_79 (by decide) h (fun c h => ?_) (fun c h => ?_)
    · refine J_iinc hX (v4 + (1 : Int32)) [(4, .int (v4 + (1 : Int32))), (6, .int s0), (0, .ref 76), (1, .int v1), (2, .long v2), (5, .int v5)] dX5_rebuiltIntoSpares_109 4 rfl (congrArg (fun z => v4 + z) ic_1) (by decide) rfl ?_
      refine J_goto hX 5 dX5_rebuiltIntoSpares_112 (by decide) ?_
      refine J_sub [(0, .ref 76), (1, .int v1), (2, .long v2), (4, .int (v4 + (1 : Int32)))] [2, 3, 4, 0] rfl ?_
      exact hK5 v1 v2 (v4 + (1 : Int32)) m h
    · refine J_aload_n hX dX5_rebuiltIntoSpares_82 rfl 1 rfl ?_
      refine J_getR hX dX5_rebuiltIntoSpares_83 fl_RX5_15 (ltn ltc_76 hn) lo_76 rfl (rt_76_0 _ _ _ _ _) ?_
      refine J_aload_n hX dX5_rebuiltIntoSpares_86 rfl 1 rfl ?_
      refine J_getR hX dX5_rebuiltIntoSpares_87 fl_RX5_19 (ltn ltc_76 hn) lo_76 rfl (rt_76_1 _ _ _ _ _) ?_
      refine J_getR hX dX5_rebuiltIntoSpares_90 fl_RX5_49 (ltn ltc_26 hn) lo_26 rfl (rt_26_6 _ _ _ _ _) ?_
      refine J_iload hX dX5_rebuiltIntoSpares_93 4 rfl ?_
      refine J_iaload hX dX5_rebuiltIntoSpares_95 (ltn ltc_30 hn) lay_30 h (fun h => ?_)
      obtain ⟨r6, m5, h0, h⟩ := bd2_some h
      refine J_callVi (As := [.int (gI m 30 (ix v4))]) (st := []) hX dX5_rebuiltIntoSpares_96 cw_RX5_52 (by omega) (c_X6_isUp hn p_isSt_54 h0) (ltn ltc_54 hn) lo_54 (by decide) rfl rfl rfl (Nat.le_of_ble_eq_true rfl) ?_
      clear h0
      refine J_if_eq hX 109 dX5_rebuiltIntoSpares_99 (by decide) h (fun c h => ?_) (fun c h => ?_)
      · refine J_iinc hX (v4 + (1 : Int32)) [(4, .int (v4 + (1 : Int32))), (6, .int s0), (0, .ref 76), (1, .int v1), (2, .long v2), (5, .int v5)] dX5_rebuiltIntoSpares_109 4 rfl (congrArg (fun z => v4 + z) ic_1) (by decide) rfl ?_
        refine J_goto hX 5 dX5_rebuiltIntoSpares_112 (by decide) ?_
        refine J_sub [(0, .ref 76), (1, .int v1), (2, .long v2), (4, .int (v4 + (1 : Int32)))] [2, 3, 4, 0] rfl ?_
        exact hK5 v1 v2 (v4 + (1 : Int32)) m5 h
      · refine J_lload_n hX dX5_rebuiltIntoSpares_102 rfl 3 rfl ?_
        refine J_lconst hX (1 : Int64) dX5_rebuiltIntoSpares_103 (by decide) ?_
        refine J_iload hX dX5_rebuiltIntoSpares_104 4 rfl ?_
        refine J_lshl hX dX5_rebuiltIntoSpares_106 ?_
        refine J_lor hX dX5_rebuiltIntoSpares_107 ?_
        refine J_lstore_n hX [(2, .long (v2 ||| ((1 : Int64) <<< (v4.toInt64 &&& 63)))), (6, .int s0), (0, .ref 76), (1, .int v1), (4, .int v4), (5, .int v5)] dX5_rebuiltIntoSpares_108 rfl (by decide) rfl ?_
        refine J_iinc hX (v4 + (1 : Int32)) [(4, .int (v4 + (1 : Int32))), (2, .long (v2 ||| ((1 : Int64) <<< (v4.toInt64 &&& 63)))), (6, .int s0), (0, .ref 76), (1, .int v1), (5, .int v5)] dX5_rebuiltIntoSpares_109 4 rfl (congrArg (fun z => v4 + z) ic_1) (by decide) rfl ?_
        refine J_goto hX 5 dX5_rebuiltIntoSpares_112 (by decide) ?_
        refine J_sub [(0, .ref 76), (1, .int v1), (2, .long (v2 ||| ((1 : Int64) <<< (v4.toInt64 &&& 63)))), (4, .int (v4 + (1 : Int32)))] [3, 4, 1, 0] rfl ?_
        exact hK5 v1 (v2 ||| ((1 : Int64) <<< (v4.toInt64 &&& 63))) (v4 + (1 : Int32)) m5 h
def f_X5_rebuiltIntoSpares_J69 (K5 : Int32 → Int64 → Int32 → Mm → Option (Int64 × Mm)) (v1 : Int32) (v2 : Int64) (v4 : Int32) (v5 : Int32) (m : Mm) : Option (Int64 × Mm) := f_X5_rebuiltIntoSpares_J70 K5 v1 v2 v4 v5 (0 : Int32) m
theorem t_X5_rebuiltIntoSpares_J69 {X : XX} {G : GG} {ρ : Nat → Nat} {n t u w v : Nat} {x : Option Nat} {d : Nat} (hX : Ok X G ρ cX5_rebuiltIntoSpares 7 RX5 d) (hd0 : 2 ≤ d) (hn : 126 ≤ n) {rE : Int64} {mE : Mm} (hF : Fin' X G ρ n (some .long) (some (.long rE)) (RT t u w v x) mE) {K5 : Int32 → Int64 → Int32 → Mm → Option (Int64 × Mm)} (v1 : Int32) (v2 : Int64) (v4 : Int32) (v5 : Int32) (hK5 : ∀ (w1 : Int32) (w2 : Int64) (w4 : Int32) (m : Mm), K5 w1 w2 w4 m = some (rE, mE) → J X G ρ n 7 5 [(0, .ref 76), (1, .int w1), (2, .long w2), (4, .int w4)] [] (RT t u w v x) m) (m : Mm) (h : f_X5_rebuiltIntoSpares_J69 K5 v1 v2 v4 v5 m = some (rE, mE)) : J X G ρ n 7 69 [(0, .ref 76), (1, .int v1), (2, .long v2), (4, .int v4), (5, .int v5)] [] (RT t u w v x) m := by
  unfold f_X5_rebuiltIntoSpares_J69 at h
  refine J_iconst hX (0 : Int32) dX5_rebuiltIntoSpares_69 ic_0 ?_
  exact t_X5_rebuiltIntoSpares_J70 hX hd0 hn hF v1 v2 v4 v5 (0 : Int32) hK5 m h
def f_X5_rebuiltIntoSpares_J38 (K5 : Int32 → Int64 → Int32 → Mm → Option (Int64 × Mm)) (v1 : Int32) (v2 : Int64) (v4 : Int32) (s0 : Int32) (m : Mm) : Option (Int64 × Mm) := bd2 (f_X6_lostBits 54 v4 m) (fun r4 m3 => (if r4 = 0 then bd2 (f_X6_awayUnit 54 v4 m3) (fun r8 m7 => (if r8 = (-1 : Int32) then f_X5_rebuiltIntoSpares_J70 K5 v1 v2 v4 s0 (1 : Int32) m7 else f_X5_rebuiltIntoSpares_J69 K5 v1 v2 v4 s0 m7)) else f_X5_rebuiltIntoSpares_J69 K5 v1 v2 v4 s0 m3))
theorem t_X5_rebuiltIntoSpares_J38 {X : XX} {G : GG} {ρ : Nat → Nat} {n t u w v : Nat} {x : Option Nat} {d : Nat} (hX : Ok X G ρ cX5_rebuiltIntoSpares 7 RX5 d) (hd0 : 2 ≤ d) (hn : 126 ≤ n) {rE : Int64} {mE : Mm} (hF : Fin' X G ρ n (some .long) (some (.long rE)) (RT t u w v x) mE) {K5 : Int32 → Int64 → Int32 → Mm → Option (Int64 × Mm)} (v1 : Int32) (v2 : Int64) (v4 : Int32) (s0 : Int32) (hK5 : ∀ (w1 : Int32) (w2 : Int64) (w4 : Int32) (m : Mm), K5 w1 w2 w4 m = some (rE, mE) → J X G ρ n 7 5 [(0, .ref 76), (1, .int w1), (2, .long w2), (4, .int w4)] [] (RT t u w v x) m) (m : Mm) (h : f_X5_rebuiltIntoSpares_J38 K5 v1 v2 v4 s0 m = some (rE, mE)) : J X G ρ n 7 38 [(0, .ref 76), (1, .int v1), (2, .long v2), (4, .int v4)] [.int s0] (RT t u w v x) m := by
  unfold f_X5_rebuiltIntoSpares_J38 at h
  refine J_istore hX [(5, .int s0), (0, .ref 76), (1, .int v1), (2, .long v2), (4, .int v4)] dX5_rebuiltIntoSpares_38 (by decide) rfl ?_
  refine J_aload_n hX dX5_rebuiltIntoSpares_40 rfl 1 rfl ?_
  refine J_getR hX dX5_rebuiltIntoSpares_41 fl_RX5_15 (ltn ltc_76 hn) lo_76 rfl (rt_76_0 _ _ _ _ _) ?_
  refine J_iload hX dX5_rebuiltIntoSpares_44 4 rfl ?_
  obtain ⟨r4, m3, h0, h⟩ := bd2_some h
  refine J_callVi (As := [.int v4]) (st := []) hX dX5_rebuiltIntoSpares_46 cw_RX5_29 (by omega) (c_X6_lostBits hn p_isSt_54 h0) (ltn ltc_54 hn) lo_54 (by decide) rfl rfl rfl (Nat.le_of_ble_eq_true rfl) ?_
  clear h0
  refine J_if_ne hX 69 dX5_rebuiltIntoSpares_49 (by decide) h (fun c h => ?_) (fun c h => ?_)
  · refine J_aload_n hX dX5_rebuiltIntoSpares_52 rfl 1 rfl ?_
    refine J_getR hX dX5_rebuiltIntoSpares_53 fl_RX5_15 (ltn ltc_76 hn) lo_76 rfl (rt_76_0 _ _ _ _ _) ?_
    refine J_iload hX dX5_rebuiltIntoSpares_56 4 rfl ?_
    obtain ⟨r8, m7, h0, h⟩ := bd2_some h
    refine J_callVi (As := [.int v4]) (st := []) hX dX5_rebuiltIntoSpares_58 cw_RX5_46 (by omega) (c_X6_awayUnit hn p_isSt_54 h0) (ltn ltc_54 hn) lo_54 (by decide) rfl rfl rfl (Nat.le_of_ble_eq_true rfl) ?_
    clear h0
    refine J_iconst hX (-1 : Int32) dX5_rebuiltIntoSpares_61 ic_m1 ?_
    refine J_icmp_ne hX 69 dX5_rebuiltIntoSpares_62 (by decide) h (fun c h => ?_) (fun c h => ?_)
    · refine J_iconst hX (1 : Int32) dX5_rebuiltIntoSpares_65 ic_1 ?_
      refine J_goto hX 70 dX5_rebuiltIntoSpares_66 (by decide) ?_
      refine J_sub [(0, .ref 76), (1, .int v1), (2, .long v2), (4, .int v4), (5, .int s0)] [1, 2, 3, 4, 0] rfl ?_
      exact t_X5_rebuiltIntoSpares_J70 hX hd0 hn hF v1 v2 v4 s0 (1 : Int32) hK5 m7 h
    · refine J_sub [(0, .ref 76), (1, .int v1), (2, .long v2), (4, .int v4), (5, .int s0)] [1, 2, 3, 4, 0] rfl ?_
      exact t_X5_rebuiltIntoSpares_J69 hX hd0 hn hF v1 v2 v4 s0 hK5 m7 h
  · refine J_sub [(0, .ref 76), (1, .int v1), (2, .long v2), (4, .int v4), (5, .int s0)] [1, 2, 3, 4, 0] rfl ?_
    exact t_X5_rebuiltIntoSpares_J69 hX hd0 hn hF v1 v2 v4 s0 hK5 m3 h
def f_X5_rebuiltIntoSpares_L5 : Nat → Int32 → Int64 → Int32 →  Mm → Option (Int64 × Mm)
  | 0, _, _, _, _ => none
  | k + 1, v1, v2, v4, m => (if v4 < (gI m 26 1) then bd2 (f_X6_disksNow 54 v4 m) (fun r2 m1 => (if ((r2 >>> (v1 &&& 31)) &&& (1 : Int32)) = 0 then f_X5_rebuiltIntoSpares_J38 (fun w1 w2 w4 m => f_X5_rebuiltIntoSpares_L5 k w1 w2 w4 m) v1 v2 v4 (0 : Int32) m1 else f_X5_rebuiltIntoSpares_J38 (fun w1 w2 w4 m => f_X5_rebuiltIntoSpares_L5 k w1 w2 w4 m) v1 v2 v4 (1 : Int32) m1)) else some (v2, m))
theorem t_X5_rebuiltIntoSpares_L5 {X : XX} {G : GG} {ρ : Nat → Nat} {n t u w v : Nat} {x : Option Nat} {d : Nat} (hX : Ok X G ρ cX5_rebuiltIntoSpares 7 RX5 d) (hd0 : 2 ≤ d) (hn : 126 ≤ n) {rE : Int64} {mE : Mm} (hF : Fin' X G ρ n (some .long) (some (.long rE)) (RT t u w v x) mE) : ∀ (k : Nat) (v1 : Int32) (v2 : Int64) (v4 : Int32) (m : Mm), f_X5_rebuiltIntoSpares_L5 k v1 v2 v4 m = some (rE, mE) → J X G ρ n 7 5 [(0, .ref 76), (1, .int v1), (2, .long v2), (4, .int v4)] [] (RT t u w v x) m := by
  intro k
  induction k with
  | zero => intro _ _ _ _ h; rw [f_X5_rebuiltIntoSpares_L5] at h; cases h
  | succ k ih =>
    intro v1 v2 v4 m h
    rw [f_X5_rebuiltIntoSpares_L5] at h
    refine J_iload hX dX5_rebuiltIntoSpares_5 3 rfl ?_
    refine J_aload_n hX dX5_rebuiltIntoSpares_7 rfl 0 rfl ?_
    refine J_getR hX dX5_rebuiltIntoSpares_8 fl_RX5_19 (ltn ltc_76 hn) lo_76 rfl (rt_76_1 _ _ _ _ _) ?_
    refine J_getI hX dX5_rebuiltIntoSpares_11 fl_RX5_23 (ltn ltc_26 hn) lo_26 rfl ?_
    refine J_icmp_ge hX 115 dX5_rebuiltIntoSpares_14 (by decide) h (fun c h => ?_) (fun c h => ?_)
    · refine J_aload_n hX dX5_rebuiltIntoSpares_17 rfl 0 rfl ?_
      refine J_getR hX dX5_rebuiltIntoSpares_18 fl_RX5_15 (ltn ltc_76 hn) lo_76 rfl (rt_76_0 _ _ _ _ _) ?_
      refine J_iload hX dX5_rebuiltIntoSpares_21 3 rfl ?_
      obtain ⟨r2, m1, h0, h⟩ := bd2_some h
      refine J_callVi (As := [.int v4]) (st := []) hX dX5_rebuiltIntoSpares_23 cw_RX5_35 (by omega) (c_X6_disksNow hn p_isSt_54 h0) (ltn ltc_54 hn) lo_54 (by decide) rfl rfl rfl (Nat.le_of_ble_eq_true rfl) ?_
      clear h0
      refine J_iload_n hX dX5_rebuiltIntoSpares_26 rfl 1 rfl ?_
      refine J_ishr hX dX5_rebuiltIntoSpares_27 ?_
      refine J_iconst hX (1 : Int32) dX5_rebuiltIntoSpares_28 ic_1 ?_
      refine J_iand hX dX5_rebuiltIntoSpares_29 ?_
      refine J_if_eq hX 37 dX5_rebuiltIntoSpares_30 (by decide) h (fun c h => ?_) (fun c h => ?_)
      · refine J_iconst hX (0 : Int32) dX5_rebuiltIntoSpares_37 ic_0 ?_
        exact t_X5_rebuiltIntoSpares_J38 hX hd0 hn hF v1 v2 v4 (0 : Int32) (fun w1 w2 w4 m h => ih w1 w2 w4 m h) m1 h
      · refine J_iconst hX (1 : Int32) dX5_rebuiltIntoSpares_33 ic_1 ?_
        refine J_goto hX 38 dX5_rebuiltIntoSpares_34 (by decide) ?_
        exact t_X5_rebuiltIntoSpares_J38 hX hd0 hn hF v1 v2 v4 (1 : Int32) (fun w1 w2 w4 m h => ih w1 w2 w4 m h) m1 h
    · refine J_lload_n hX dX5_rebuiltIntoSpares_115 rfl 2 rfl ?_
      exact J_lreturn hX dX5_rebuiltIntoSpares_116 h hF
def f_X5_rebuiltIntoSpares (x1 : Int32) (m : Mm) : Option (Int64 × Mm) := f_X5_rebuiltIntoSpares_L5 FU x1 (0 : Int64) (0 : Int32)  m
theorem t_X5_rebuiltIntoSpares {X : XX} {G : GG} {ρ : Nat → Nat} {n t u w v : Nat} {x : Option Nat} {d : Nat} (hX : Ok X G ρ cX5_rebuiltIntoSpares 7 RX5 d) (hd0 : 2 ≤ d) (hn : 126 ≤ n) {rE : Int64} {mE : Mm} (hF : Fin' X G ρ n (some .long) (some (.long rE)) (RT t u w v x) mE) {x1 : Int32} {m : Mm} (h : f_X5_rebuiltIntoSpares x1 m = some (rE, mE)) : J X G ρ n 7 0 [(0, .ref 76), (1, .int x1)] [] (RT t u w v x) m := by
  unfold f_X5_rebuiltIntoSpares at h
  refine J_lconst hX (0 : Int64) dX5_rebuiltIntoSpares_0 (by decide) ?_
  refine J_lstore_n hX [(2, .long (0 : Int64)), (0, .ref 76), (1, .int x1)] dX5_rebuiltIntoSpares_1 rfl (by decide) rfl ?_
  refine J_iconst hX (0 : Int32) dX5_rebuiltIntoSpares_2 ic_0 ?_
  refine J_istore hX [(4, .int (0 : Int32)), (2, .long (0 : Int64)), (0, .ref 76), (1, .int x1)] dX5_rebuiltIntoSpares_3 (by decide) rfl ?_
  refine J_sub [(0, .ref 76), (1, .int x1), (2, .long (0 : Int64)), (4, .int (0 : Int32))] [2, 3, 1, 0] rfl ?_
  exact t_X5_rebuiltIntoSpares_L5 hX hd0 hn hF FU x1 (0 : Int64) (0 : Int32)  m h
theorem c_X5_rebuiltIntoSpares {G : GG} {l : Launch} {ρ : Nat → Nat} {n t u w v : Nat} {x : Option Nat} (hn : 126 ≤ n) {x1 : Int32} {m : Mm} {rE : Int64} {mE : Mm} (h : f_X5_rebuiltIntoSpares x1 m = some (rE, mE)) : CT G l yX5_rebuiltIntoSpares cX5_rebuiltIntoSpares 7 (some .long) 2 0 0 ρ n (RT t u w v x) [.ref 76, .int x1] m (some (.long rE)) (RT t u w v x) mE := ct_of_J (by decide) rfl (Nat.le_of_ble_eq_true rfl) (fun X hX e1 e2 e3 e4 hQ hr hl => t_X5_rebuiltIntoSpares hX (Nat.le_refl _) hn ⟨by rw [hQ, e3, e4], hr, hl⟩ h)
def f_X5_canTake_L2 : Nat → Int32 → Int32 →  Mm → Option (Int32 × Mm)
  | 0, _, _, _ => none
  | k + 1, v1, v2, m => (if v2 < (13 : Int32) then (if ((v1 >>> (v2 &&& 31)) &&& (1 : Int32)) = 0 then f_X5_canTake_L2 k v1 (v2 + (1 : Int32)) m else gd (inb v2 13) ((if (gI m 77 (ix v2)) < (1 : Int32) then some ((0 : Int32), m) else f_X5_canTake_L2 k v1 (v2 + (1 : Int32)) m))) else some ((1 : Int32), m))
theorem t_X5_canTake_L2 {X : XX} {G : GG} {ρ : Nat → Nat} {n t u w v : Nat} {x : Option Nat} {d : Nat} (hX : Ok X G ρ cX5_canTake 3 RX5 d) (hd0 : 0 ≤ d) (hn : 126 ≤ n) {rE : Int32} {mE : Mm} (hF : Fin' X G ρ n (some .boolean) (some (.int rE)) (RT t u w v x) mE) : ∀ (k : Nat) (v1 : Int32) (v2 : Int32) (m : Mm), f_X5_canTake_L2 k v1 v2 m = some (rE, mE) → J X G ρ n 3 2 [(0, .ref 76), (1, .int v1), (2, .int v2)] [] (RT t u w v x) m := by
  intro k
  induction k with
  | zero => intro _ _ _ h; rw [f_X5_canTake_L2] at h; cases h
  | succ k ih =>
    intro v1 v2 m h
    rw [f_X5_canTake_L2] at h
    refine J_iload_n hX dX5_canTake_2 rfl 2 rfl ?_
    refine J_bipush hX (13 : Int32) dX5_canTake_3 (by decide) ?_
    refine J_icmp_ge hX 34 dX5_canTake_5 (by decide) h (fun c h => ?_) (fun c h => ?_)
    · refine J_iload_n hX dX5_canTake_8 rfl 1 rfl ?_
      refine J_iload_n hX dX5_canTake_9 rfl 2 rfl ?_
      refine J_ishr hX dX5_canTake_10 ?_
      refine J_iconst hX (1 : Int32) dX5_canTake_11 ic_1 ?_
      refine J_iand hX dX5_canTake_12 ?_
      refine J_if_eq hX 28 dX5_canTake_13 (by decide) h (fun c h => ?_) (fun c h => ?_)
      · refine J_iinc hX (v2 + (1 : Int32)) [(2, .int (v2 + (1 : Int32))), (0, .ref 76), (1, .int v1)] dX5_canTake_28 2 rfl (congrArg (fun z => v2 + z) ic_1) (by decide) rfl ?_
        refine J_goto hX 2 dX5_canTake_31 (by decide) ?_
        refine J_sub [(0, .ref 76), (1, .int v1), (2, .int (v2 + (1 : Int32)))] [1, 2, 0] rfl ?_
        exact ih v1 (v2 + (1 : Int32)) m h
      · refine J_aload_n hX dX5_canTake_16 rfl 0 rfl ?_
        refine J_getR hX dX5_canTake_17 fl_RX5_9 (ltn ltc_76 hn) lo_76 rfl (rt_76_2 _ _ _ _ _) ?_
        refine J_iload_n hX dX5_canTake_20 rfl 2 rfl ?_
        refine J_iaload hX dX5_canTake_21 (ltn ltc_77 hn) lay_77 h (fun h => ?_)
        refine J_iconst hX (1 : Int32) dX5_canTake_22 ic_1 ?_
        refine J_icmp_ge hX 28 dX5_canTake_23 (by decide) h (fun c h => ?_) (fun c h => ?_)
        · refine J_iconst hX (0 : Int32) dX5_canTake_26 ic_0 ?_
          exact J_ireturn hX dX5_canTake_27 h hF narrow_b0
        · refine J_iinc hX (v2 + (1 : Int32)) [(2, .int (v2 + (1 : Int32))), (0, .ref 76), (1, .int v1)] dX5_canTake_28 2 rfl (congrArg (fun z => v2 + z) ic_1) (by decide) rfl ?_
          refine J_goto hX 2 dX5_canTake_31 (by decide) ?_
          refine J_sub [(0, .ref 76), (1, .int v1), (2, .int (v2 + (1 : Int32)))] [1, 2, 0] rfl ?_
          exact ih v1 (v2 + (1 : Int32)) m h
    · refine J_iconst hX (1 : Int32) dX5_canTake_34 ic_1 ?_
      exact J_ireturn hX dX5_canTake_35 h hF narrow_b1
def f_X5_canTake (x1 : Int32) (m : Mm) : Option (Int32 × Mm) := f_X5_canTake_L2 FU x1 (0 : Int32)  m
theorem t_X5_canTake {X : XX} {G : GG} {ρ : Nat → Nat} {n t u w v : Nat} {x : Option Nat} {d : Nat} (hX : Ok X G ρ cX5_canTake 3 RX5 d) (hd0 : 0 ≤ d) (hn : 126 ≤ n) {rE : Int32} {mE : Mm} (hF : Fin' X G ρ n (some .boolean) (some (.int rE)) (RT t u w v x) mE) {x1 : Int32} {m : Mm} (h : f_X5_canTake x1 m = some (rE, mE)) : J X G ρ n 3 0 [(0, .ref 76), (1, .int x1)] [] (RT t u w v x) m := by
  unfold f_X5_canTake at h
  refine J_iconst hX (0 : Int32) dX5_canTake_0 ic_0 ?_
  refine J_istore_n hX [(2, .int (0 : Int32)), (0, .ref 76), (1, .int x1)] dX5_canTake_1 rfl (by decide) rfl ?_
  refine J_sub [(0, .ref 76), (1, .int x1), (2, .int (0 : Int32))] [1, 2, 0] rfl ?_
  exact t_X5_canTake_L2 hX hd0 hn hF FU x1 (0 : Int32)  m h
theorem c_X5_canTake {G : GG} {l : Launch} {ρ : Nat → Nat} {n t u w v : Nat} {x : Option Nat} (hn : 126 ≤ n) {x1 : Int32} {m : Mm} {rE : Int32} {mE : Mm} (h : f_X5_canTake x1 m = some (rE, mE)) : CT G l yX5_canTake cX5_canTake 3 (some .boolean) 0 0 0 ρ n (RT t u w v x) [.ref 76, .int x1] m (some (.int rE)) (RT t u w v x) mE := ct_of_J (by decide) rfl (Nat.le_of_ble_eq_true rfl) (fun X hX e1 e2 e3 e4 hQ hr hl => t_X5_canTake hX (Nat.le_refl _) hn ⟨by rw [hQ, e3, e4], hr, hl⟩ h)
def f_X5_take_L2 : Nat → Int32 → Int32 →  Mm → Option (Mm)
  | 0, _, _, _ => none
  | k + 1, v1, v2, m => (if v2 < (13 : Int32) then gd (inb v2 13) (gd (inb v2 13) (stI m 77 (ix v2) ((gI m 77 (ix v2)) - ((v1 >>> (v2 &&& 31)) &&& (1 : Int32))) (fun m1 => f_X5_take_L2 k v1 (v2 + (1 : Int32)) m1))) else some m)
theorem t_X5_take_L2 {X : XX} {G : GG} {ρ : Nat → Nat} {n t u w v : Nat} {x : Option Nat} {d : Nat} (hX : Ok X G ρ cX5_take 3 RX5 d) (hd0 : 0 ≤ d) (hn : 126 ≤ n) {mE : Mm} (hF : Fin' X G ρ n none none (RT t u w v x) mE) : ∀ (k : Nat) (v1 : Int32) (v2 : Int32) (m : Mm), f_X5_take_L2 k v1 v2 m = some mE → J X G ρ n 3 2 [(0, .ref 76), (1, .int v1), (2, .int v2)] [] (RT t u w v x) m := by
  intro k
  induction k with
  | zero => intro _ _ _ h; rw [f_X5_take_L2] at h; cases h
  | succ k ih =>
    intro v1 v2 m h
    rw [f_X5_take_L2] at h
    refine J_iload_n hX dX5_take_2 rfl 2 rfl ?_
    refine J_bipush hX (13 : Int32) dX5_take_3 (by decide) ?_
    refine J_icmp_ge hX 28 dX5_take_5 (by decide) h (fun c h => ?_) (fun c h => ?_)
    · refine J_aload_n hX dX5_take_8 rfl 0 rfl ?_
      refine J_getR hX dX5_take_9 fl_RX5_9 (ltn ltc_76 hn) lo_76 rfl (rt_76_2 _ _ _ _ _) ?_
      refine J_iload_n hX dX5_take_12 rfl 2 rfl ?_
      refine J_dup2 hX dX5_take_13 rfl rfl ?_
      refine J_iaload hX dX5_take_14 (ltn ltc_77 hn) lay_77 h (fun h => ?_)
      refine J_iload_n hX dX5_take_15 rfl 1 rfl ?_
      refine J_iload_n hX dX5_take_16 rfl 2 rfl ?_
      refine J_ishr hX dX5_take_17 ?_
      refine J_iconst hX (1 : Int32) dX5_take_18 ic_1 ?_
      refine J_iand hX dX5_take_19 ?_
      refine J_isub hX dX5_take_20 ?_
      refine J_iastore hX dX5_take_21 (ltn ltc_77 hn) lay_77 h (fun m1 h => ?_)
      refine J_iinc hX (v2 + (1 : Int32)) [(2, .int (v2 + (1 : Int32))), (0, .ref 76), (1, .int v1)] dX5_take_22 2 rfl (congrArg (fun z => v2 + z) ic_1) (by decide) rfl ?_
      refine J_goto hX 2 dX5_take_25 (by decide) ?_
      refine J_sub [(0, .ref 76), (1, .int v1), (2, .int (v2 + (1 : Int32)))] [1, 2, 0] rfl ?_
      exact ih v1 (v2 + (1 : Int32)) m1 h
    · exact J_return hX dX5_take_28 h hF
def f_X5_take (x1 : Int32) (m : Mm) : Option (Mm) := f_X5_take_L2 FU x1 (0 : Int32)  m
theorem t_X5_take {X : XX} {G : GG} {ρ : Nat → Nat} {n t u w v : Nat} {x : Option Nat} {d : Nat} (hX : Ok X G ρ cX5_take 3 RX5 d) (hd0 : 0 ≤ d) (hn : 126 ≤ n) {mE : Mm} (hF : Fin' X G ρ n none none (RT t u w v x) mE) {x1 : Int32} {m : Mm} (h : f_X5_take x1 m = some mE) : J X G ρ n 3 0 [(0, .ref 76), (1, .int x1)] [] (RT t u w v x) m := by
  unfold f_X5_take at h
  refine J_iconst hX (0 : Int32) dX5_take_0 ic_0 ?_
  refine J_istore_n hX [(2, .int (0 : Int32)), (0, .ref 76), (1, .int x1)] dX5_take_1 rfl (by decide) rfl ?_
  refine J_sub [(0, .ref 76), (1, .int x1), (2, .int (0 : Int32))] [1, 2, 0] rfl ?_
  exact t_X5_take_L2 hX hd0 hn hF FU x1 (0 : Int32)  m h
theorem c_X5_take {G : GG} {l : Launch} {ρ : Nat → Nat} {n t u w v : Nat} {x : Option Nat} (hn : 126 ≤ n) {x1 : Int32} {m : Mm} {mE : Mm} (h : f_X5_take x1 m = some mE) : CT G l yX5_take cX5_take 3 none 0 0 0 ρ n (RT t u w v x) [.ref 76, .int x1] m none (RT t u w v x) mE := ct_of_J (by decide) rfl (Nat.le_of_ble_eq_true rfl) (fun X hX e1 e2 e3 e4 hQ hr hl => t_X5_take hX (Nat.le_refl _) hn ⟨by rw [hQ, e3, e4], hr, hl⟩ h)
def f_X5_afterTick_L6 : Nat → Int64 → Int32 → Int64 → Int32 →  Mm → Option (Int64 × Mm)
  | 0, _, _, _, _, _ => none
  | k + 1, v1, v3, v4, v6, m => (if v6 < (gI m 26 1) then (if (lg_cmp ((v1 >>> (v6.toInt64 &&& 63)) &&& (1 : Int64)) (0 : Int64)) = 0 then f_X5_afterTick_L6 k v1 v3 v4 (v6 + (1 : Int32)) m else gd (inb v6 40) (gd (inb v6 40) (bd2 (f_X5_canTake (((gI m 32 (ix v6)) &&& (((1 : Int32) <<< (v3 &&& 31)) ^^^ (-1 : Int32))) ||| ((1 : Int32) <<< ((gI m 30 (ix v6)) &&& 31))) m) (fun r2 m1 => (if r2 = 0 then f_X5_afterTick_L6 k v1 v3 v4 (v6 + (1 : Int32)) m1 else bd1 (f_X5_take (((gI m 32 (ix v6)) &&& (((1 : Int32) <<< (v3 &&& 31)) ^^^ (-1 : Int32))) ||| ((1 : Int32) <<< ((gI m 30 (ix v6)) &&& 31))) m1) (fun m3 => f_X5_afterTick_L6 k v1 v3 (v4 &&& (((1 : Int64) <<< (v6.toInt64 &&& 63)) ^^^ (-1 : Int64))) (v6 + (1 : Int32)) m3)))))) else some (v4, m))
theorem t_X5_afterTick_L6 {X : XX} {G : GG} {ρ : Nat → Nat} {n t u w v : Nat} {x : Option Nat} {d : Nat} (hX : Ok X G ρ cX5_afterTick 8 RX5 d) (hd0 : 1 ≤ d) (hn : 126 ≤ n) {rE : Int64} {mE : Mm} (hF : Fin' X G ρ n (some .long) (some (.long rE)) (RT t u w v x) mE) : ∀ (k : Nat) (v1 : Int64) (v3 : Int32) (v4 : Int64) (v6 : Int32) (m : Mm), f_X5_afterTick_L6 k v1 v3 v4 v6 m = some (rE, mE) → J X G ρ n 8 6 [(0, .ref 76), (1, .long v1), (3, .int v3), (4, .long v4), (6, .int v6)] [] (RT t u w v x) m := by
  intro k
  induction k with
  | zero => intro _ _ _ _ _ h; rw [f_X5_afterTick_L6] at h; cases h
  | succ k ih =>
    intro v1 v3 v4 v6 m h
    rw [f_X5_afterTick_L6] at h
    refine J_iload hX dX5_afterTick_6 4 rfl ?_
    refine J_aload_n hX dX5_afterTick_8 rfl 0 rfl ?_
    refine J_getR hX dX5_afterTick_9 fl_RX5_19 (ltn ltc_76 hn) lo_76 rfl (rt_76_1 _ _ _ _ _) ?_
    refine J_getI hX dX5_afterTick_12 fl_RX5_23 (ltn ltc_26 hn) lo_26 rfl ?_
    refine J_icmp_ge hX 94 dX5_afterTick_15 (by decide) h (fun c h => ?_) (fun c h => ?_)
    · refine J_lload_n hX dX5_afterTick_18 rfl 1 rfl ?_
      refine J_iload hX dX5_afterTick_19 4 rfl ?_
      refine J_lshr hX dX5_afterTick_21 ?_
      refine J_lconst hX (1 : Int64) dX5_afterTick_22 (by decide) ?_
      refine J_land hX dX5_afterTick_23 ?_
      refine J_lconst hX (0 : Int64) dX5_afterTick_24 (by decide) ?_
      refine J_lcmp hX dX5_afterTick_25 ?_
      refine J_if_eq hX 88 dX5_afterTick_26 (by decide) h (fun c h => ?_) (fun c h => ?_)
      · refine J_iinc hX (v6 + (1 : Int32)) [(6, .int (v6 + (1 : Int32))), (0, .ref 76), (1, .long v1), (3, .int v3), (4, .long v4)] dX5_afterTick_88 4 rfl (congrArg (fun z => v6 + z) ic_1) (by decide) rfl ?_
        refine J_goto hX 6 dX5_afterTick_91 (by decide) ?_
        refine J_sub [(0, .ref 76), (1, .long v1), (3, .int v3), (4, .long v4), (6, .int (v6 + (1 : Int32)))] [1, 2, 3, 4, 0] rfl ?_
        exact ih v1 v3 v4 (v6 + (1 : Int32)) m h
      · refine J_aload_n hX dX5_afterTick_29 rfl 0 rfl ?_
        refine J_getR hX dX5_afterTick_30 fl_RX5_19 (ltn ltc_76 hn) lo_76 rfl (rt_76_1 _ _ _ _ _) ?_
        refine J_getR hX dX5_afterTick_33 fl_RX5_56 (ltn ltc_26 hn) lo_26 rfl (rt_26_8 _ _ _ _ _) ?_
        refine J_iload hX dX5_afterTick_36 4 rfl ?_
        refine J_iaload hX dX5_afterTick_38 (ltn ltc_32 hn) lay_32 h (fun h => ?_)
        refine J_iconst hX (1 : Int32) dX5_afterTick_39 ic_1 ?_
        refine J_iload_n hX dX5_afterTick_40 rfl 2 rfl ?_
        refine J_ishl hX dX5_afterTick_41 ?_
        refine J_iconst hX (-1 : Int32) dX5_afterTick_42 ic_m1 ?_
        refine J_ixor hX dX5_afterTick_43 ?_
        refine J_iand hX dX5_afterTick_44 ?_
        refine J_iconst hX (1 : Int32) dX5_afterTick_45 ic_1 ?_
        refine J_aload_n hX dX5_afterTick_46 rfl 0 rfl ?_
        refine J_getR hX dX5_afterTick_47 fl_RX5_19 (ltn ltc_76 hn) lo_76 rfl (rt_76_1 _ _ _ _ _) ?_
        refine J_getR hX dX5_afterTick_50 fl_RX5_49 (ltn ltc_26 hn) lo_26 rfl (rt_26_6 _ _ _ _ _) ?_
        refine J_iload hX dX5_afterTick_53 4 rfl ?_
        refine J_iaload hX dX5_afterTick_55 (ltn ltc_30 hn) lay_30 h (fun h => ?_)
        refine J_ishl hX dX5_afterTick_56 ?_
        refine J_ior hX dX5_afterTick_57 ?_
        refine J_istore hX [(7, .int (((gI m 32 (ix v6)) &&& (((1 : Int32) <<< (v3 &&& 31)) ^^^ (-1 : Int32))) ||| ((1 : Int32) <<< ((gI m 30 (ix v6)) &&& 31)))), (0, .ref 76), (1, .long v1), (3, .int v3), (4, .long v4), (6, .int v6)] dX5_afterTick_58 (by decide) rfl ?_
        refine J_aload_n hX dX5_afterTick_60 rfl 1 rfl ?_
        refine J_iload hX dX5_afterTick_61 0 rfl ?_
        obtain ⟨r2, m1, h0, h⟩ := bd2_some h
        refine J_callVi (As := [.int (((gI m 32 (ix v6)) &&& (((1 : Int32) <<< (v3 &&& 31)) ^^^ (-1 : Int32))) ||| ((1 : Int32) <<< ((gI m 30 (ix v6)) &&& 31)))]) (st := []) hX dX5_afterTick_63 cw_RX5_59 (by omega) (c_X5_canTake hn  h0) (ltn ltc_76 hn) lo_76 (by decide) rfl rfl rfl (Nat.le_of_ble_eq_true rfl) ?_
        clear h0
        refine J_if_eq hX 88 dX5_afterTick_66 (by decide) h (fun c h => ?_) (fun c h => ?_)
        · refine J_iinc hX (v6 + (1 : Int32)) [(6, .int (v6 + (1 : Int32))), (7, .int (((gI m 32 (ix v6)) &&& (((1 : Int32) <<< (v3 &&& 31)) ^^^ (-1 : Int32))) ||| ((1 : Int32) <<< ((gI m 30 (ix v6)) &&& 31)))), (0, .ref 76), (1, .long v1), (3, .int v3), (4, .long v4)] dX5_afterTick_88 5 rfl (congrArg (fun z => v6 + z) ic_1) (by decide) rfl ?_
          refine J_goto hX 6 dX5_afterTick_91 (by decide) ?_
          refine J_sub [(0, .ref 76), (1, .long v1), (3, .int v3), (4, .long v4), (6, .int (v6 + (1 : Int32)))] [2, 3, 4, 5, 0] rfl ?_
          exact ih v1 v3 v4 (v6 + (1 : Int32)) m1 h
        · refine J_aload_n hX dX5_afterTick_69 rfl 1 rfl ?_
          refine J_iload hX dX5_afterTick_70 0 rfl ?_
          obtain ⟨m3, h0, h⟩ := bd1_some h
          refine J_callVv (As := [.int (((gI m 32 (ix v6)) &&& (((1 : Int32) <<< (v3 &&& 31)) ^^^ (-1 : Int32))) ||| ((1 : Int32) <<< ((gI m 30 (ix v6)) &&& 31)))]) (st := []) hX dX5_afterTick_72 cw_RX5_62 (by omega) (c_X5_take hn  h0) (ltn ltc_76 hn) lo_76 (by decide) rfl rfl rfl (Nat.le_of_ble_eq_true rfl) ?_
          clear h0
          refine J_lload hX dX5_afterTick_75 4 rfl ?_
          refine J_lconst hX (1 : Int64) dX5_afterTick_77 (by decide) ?_
          refine J_iload hX dX5_afterTick_78 5 rfl ?_
          refine J_lshl hX dX5_afterTick_80 ?_
          refine J_ldc2 hX (-1 : Int64) dX5_afterTick_81 k_RX5_66 ?_
          refine J_lxor hX dX5_afterTick_84 ?_
          refine J_land hX dX5_afterTick_85 ?_
          refine J_lstore hX [(4, .long (v4 &&& (((1 : Int64) <<< (v6.toInt64 &&& 63)) ^^^ (-1 : Int64)))), (7, .int (((gI m 32 (ix v6)) &&& (((1 : Int32) <<< (v3 &&& 31)) ^^^ (-1 : Int32))) ||| ((1 : Int32) <<< ((gI m 30 (ix v6)) &&& 31)))), (0, .ref 76), (1, .long v1), (3, .int v3), (6, .int v6)] dX5_afterTick_86 (by decide) rfl ?_
          refine J_iinc hX (v6 + (1 : Int32)) [(6, .int (v6 + (1 : Int32))), (4, .long (v4 &&& (((1 : Int64) <<< (v6.toInt64 &&& 63)) ^^^ (-1 : Int64)))), (7, .int (((gI m 32 (ix v6)) &&& (((1 : Int32) <<< (v3 &&& 31)) ^^^ (-1 : Int32))) ||| ((1 : Int32) <<< ((gI m 30 (ix v6)) &&& 31)))), (0, .ref 76), (1, .long v1), (3, .int v3)] dX5_afterTick_88 5 rfl (congrArg (fun z => v6 + z) ic_1) (by decide) rfl ?_
          refine J_goto hX 6 dX5_afterTick_91 (by decide) ?_
          refine J_sub [(0, .ref 76), (1, .long v1), (3, .int v3), (4, .long (v4 &&& (((1 : Int64) <<< (v6.toInt64 &&& 63)) ^^^ (-1 : Int64)))), (6, .int (v6 + (1 : Int32)))] [3, 4, 5, 1, 0] rfl ?_
          exact ih v1 v3 (v4 &&& (((1 : Int64) <<< (v6.toInt64 &&& 63)) ^^^ (-1 : Int64))) (v6 + (1 : Int32)) m3 h
    · refine J_lload hX dX5_afterTick_94 3 rfl ?_
      exact J_lreturn hX dX5_afterTick_96 h hF
def f_X5_afterTick (x1 : Int64) (x3 : Int32) (m : Mm) : Option (Int64 × Mm) := f_X5_afterTick_L6 FU x1 x3 x1 (0 : Int32)  m
theorem t_X5_afterTick {X : XX} {G : GG} {ρ : Nat → Nat} {n t u w v : Nat} {x : Option Nat} {d : Nat} (hX : Ok X G ρ cX5_afterTick 8 RX5 d) (hd0 : 1 ≤ d) (hn : 126 ≤ n) {rE : Int64} {mE : Mm} (hF : Fin' X G ρ n (some .long) (some (.long rE)) (RT t u w v x) mE) {x1 : Int64} {x3 : Int32} {m : Mm} (h : f_X5_afterTick x1 x3 m = some (rE, mE)) : J X G ρ n 8 0 [(0, .ref 76), (1, .long x1), (3, .int x3)] [] (RT t u w v x) m := by
  unfold f_X5_afterTick at h
  refine J_lload_n hX dX5_afterTick_0 rfl 1 rfl ?_
  refine J_lstore hX [(4, .long x1), (0, .ref 76), (1, .long x1), (3, .int x3)] dX5_afterTick_1 (by decide) rfl ?_
  refine J_iconst hX (0 : Int32) dX5_afterTick_3 ic_0 ?_
  refine J_istore hX [(6, .int (0 : Int32)), (4, .long x1), (0, .ref 76), (1, .long x1), (3, .int x3)] dX5_afterTick_4 (by decide) rfl ?_
  refine J_sub [(0, .ref 76), (1, .long x1), (3, .int x3), (4, .long x1), (6, .int (0 : Int32))] [2, 3, 4, 1, 0] rfl ?_
  exact t_X5_afterTick_L6 hX hd0 hn hF FU x1 x3 x1 (0 : Int32)  m h
theorem c_X5_afterTick {G : GG} {l : Launch} {ρ : Nat → Nat} {n t u w v : Nat} {x : Option Nat} (hn : 126 ≤ n) {x1 : Int64} {x3 : Int32} {m : Mm} {rE : Int64} {mE : Mm} (h : f_X5_afterTick x1 x3 m = some (rE, mE)) : CT G l yX5_afterTick cX5_afterTick 8 (some .long) 1 0 0 ρ n (RT t u w v x) [.ref 76, .long x1, .int x3] m (some (.long rE)) (RT t u w v x) mE := ct_of_J (by decide) rfl (Nat.le_of_ble_eq_true rfl) (fun X hX e1 e2 e3 e4 hQ hr hl => t_X5_afterTick hX (Nat.le_refl _) hn ⟨by rw [hQ, e3, e4], hr, hl⟩ h)
def f_X6_lostMany (a : Nat) (x1 : Int32) (m : Mm) : Option (Int32 × Mm) := bd2 (f_X6_lostBits a x1 m) (fun r2 m1 => bd2 (f_J6_bitCount_0f7a4 r2 m1) (fun r4 m3 => some (r4, m3)))
theorem t_X6_lostMany {X : XX} {G : GG} {ρ : Nat → Nat} {n t u w v : Nat} {x : Option Nat} {d : Nat} {a : Nat} (hX : Ok X G ρ cX6_lostMany 2 RX6 d) (hd0 : 1 ≤ d) (hn : 126 ≤ n) (ha : isSt a) {rE : Int32} {mE : Mm} (hF : Fin' X G ρ n (some .int) (some (.int rE)) (RT t u w v x) mE) {x1 : Int32} {m : Mm} (h : f_X6_lostMany a x1 m = some (rE, mE)) : J X G ρ n 2 0 [(0, .ref a), (1, .int x1)] [] (RT t u w v x) m := by
  unfold f_X6_lostMany at h
  refine J_aload_n hX dX6_lostMany_0 rfl 0 rfl ?_
  refine J_iload_n hX dX6_lostMany_1 rfl 1 rfl ?_
  obtain ⟨r2, m1, h0, h⟩ := bd2_some h
  refine J_callVi (As := [.int x1]) (st := []) hX dX6_lostMany_2 cw_RX6_64 (by omega) (c_X6_lostBits hn ha h0) (ltn (lt_isSt_0 ha) hn) (lo_isSt_0 ha) (by decide) rfl rfl rfl (Nat.le_of_ble_eq_true rfl) ?_
  clear h0
  obtain ⟨r4, m3, h0, h⟩ := bd2_some h
  refine J_callSi (As := [.int r2]) (st := []) hX dX6_lostMany_5 cw_RX6_68 (by omega) (c_J6_bitCount_0f7a4 hn  h0) rfl rfl (Nat.le_of_ble_eq_true rfl) ?_
  clear h0
  exact J_ireturn hX dX6_lostMany_8 h hF rfl
theorem c_X6_lostMany {G : GG} {l : Launch} {ρ : Nat → Nat} {n t u w v : Nat} {x : Option Nat} (hn : 126 ≤ n) {a : Nat} (ha : isSt a) {x1 : Int32} {m : Mm} {rE : Int32} {mE : Mm} (h : f_X6_lostMany a x1 m = some (rE, mE)) : CT G l yX6_lostMany cX6_lostMany 2 (some .int) 1 0 0 ρ n (RT t u w v x) [.ref a, .int x1] m (some (.int rE)) (RT t u w v x) mE := ct_of_J (by decide) rfl (Nat.le_of_ble_eq_true rfl) (fun X hX e1 e2 e3 e4 hQ hr hl => t_X6_lostMany hX (Nat.le_refl _) hn ha ⟨by rw [hQ, e3, e4], hr, hl⟩ h)
def f_X5_kills_L2 : Nat → Int32 → Int32 →  Mm → Option (Int32 × Mm)
  | 0, _, _, _ => none
  | k + 1, v1, v2, m => (if v2 < (gI m 26 1) then bd2 (f_X6_lostMany 54 v2 m) (fun r2 m1 => (if r2 < (2 : Int32) then bd2 (f_X6_disksNow 54 v2 m1) (fun r4 m3 => bd2 (f_J6_bitCount_0f7a4 (r4 &&& v1) m3) (fun r6 m5 => (if (r2 + r6) < (2 : Int32) then f_X5_kills_L2 k v1 (v2 + (1 : Int32)) m5 else some ((1 : Int32), m5)))) else f_X5_kills_L2 k v1 (v2 + (1 : Int32)) m1)) else some ((0 : Int32), m))
theorem t_X5_kills_L2 {X : XX} {G : GG} {ρ : Nat → Nat} {n t u w v : Nat} {x : Option Nat} {d : Nat} (hX : Ok X G ρ cX5_kills 4 RX5 d) (hd0 : 2 ≤ d) (hn : 126 ≤ n) {rE : Int32} {mE : Mm} (hF : Fin' X G ρ n (some .boolean) (some (.int rE)) (RT t u w v x) mE) : ∀ (k : Nat) (v1 : Int32) (v2 : Int32) (m : Mm), f_X5_kills_L2 k v1 v2 m = some (rE, mE) → J X G ρ n 4 2 [(0, .ref 76), (1, .int v1), (2, .int v2)] [] (RT t u w v x) m := by
  intro k
  induction k with
  | zero => intro _ _ _ h; rw [f_X5_kills_L2] at h; cases h
  | succ k ih =>
    intro v1 v2 m h
    rw [f_X5_kills_L2] at h
    refine J_iload_n hX dX5_kills_2 rfl 2 rfl ?_
    refine J_aload_n hX dX5_kills_3 rfl 0 rfl ?_
    refine J_getR hX dX5_kills_4 fl_RX5_19 (ltn ltc_76 hn) lo_76 rfl (rt_76_1 _ _ _ _ _) ?_
    refine J_getI hX dX5_kills_7 fl_RX5_23 (ltn ltc_26 hn) lo_26 rfl ?_
    refine J_icmp_ge hX 54 dX5_kills_10 (by decide) h (fun c h => ?_) (fun c h => ?_)
    · refine J_aload_n hX dX5_kills_13 rfl 0 rfl ?_
      refine J_getR hX dX5_kills_14 fl_RX5_15 (ltn ltc_76 hn) lo_76 rfl (rt_76_0 _ _ _ _ _) ?_
      refine J_iload_n hX dX5_kills_17 rfl 2 rfl ?_
      obtain ⟨r2, m1, h0, h⟩ := bd2_some h
      refine J_callVi (As := [.int v2]) (st := []) hX dX5_kills_18 cw_RX5_68 (by omega) (c_X6_lostMany hn p_isSt_54 h0) (ltn ltc_54 hn) lo_54 (by decide) rfl rfl rfl (Nat.le_of_ble_eq_true rfl) ?_
      clear h0
      refine J_istore_n hX [(3, .int r2), (0, .ref 76), (1, .int v1), (2, .int v2)] dX5_kills_21 rfl (by decide) rfl ?_
      refine J_iload_n hX dX5_kills_22 rfl 0 rfl ?_
      refine J_iconst hX (2 : Int32) dX5_kills_23 ic_2 ?_
      refine J_icmp_ge hX 48 dX5_kills_24 (by decide) h (fun c h => ?_) (fun c h => ?_)
      · refine J_iload_n hX dX5_kills_27 rfl 0 rfl ?_
        refine J_aload_n hX dX5_kills_28 rfl 1 rfl ?_
        refine J_getR hX dX5_kills_29 fl_RX5_15 (ltn ltc_76 hn) lo_76 rfl (rt_76_0 _ _ _ _ _) ?_
        refine J_iload_n hX dX5_kills_32 rfl 3 rfl ?_
        obtain ⟨r4, m3, h0, h⟩ := bd2_some h
        refine J_callVi (As := [.int v2]) (st := [.int r2]) hX dX5_kills_33 cw_RX5_35 (by omega) (c_X6_disksNow hn p_isSt_54 h0) (ltn ltc_54 hn) lo_54 (by decide) rfl rfl rfl (Nat.le_of_ble_eq_true rfl) ?_
        clear h0
        refine J_iload_n hX dX5_kills_36 rfl 2 rfl ?_
        refine J_iand hX dX5_kills_37 ?_
        obtain ⟨r6, m5, h0, h⟩ := bd2_some h
        refine J_callSi (As := [.int (r4 &&& v1)]) (st := [.int r2]) hX dX5_kills_38 cw_RX5_71 (by omega) (c_J6_bitCount_0f7a4 hn  h0) rfl rfl (Nat.le_of_ble_eq_true rfl) ?_
        clear h0
        refine J_iadd hX dX5_kills_41 ?_
        refine J_iconst hX (2 : Int32) dX5_kills_42 ic_2 ?_
        refine J_icmp_lt hX 48 dX5_kills_43 (by decide) h (fun c h => ?_) (fun c h => ?_)
        · refine J_iinc hX (v2 + (1 : Int32)) [(2, .int (v2 + (1 : Int32))), (3, .int r2), (0, .ref 76), (1, .int v1)] dX5_kills_48 3 rfl (congrArg (fun z => v2 + z) ic_1) (by decide) rfl ?_
          refine J_goto hX 2 dX5_kills_51 (by decide) ?_
          refine J_sub [(0, .ref 76), (1, .int v1), (2, .int (v2 + (1 : Int32)))] [2, 3, 0] rfl ?_
          exact ih v1 (v2 + (1 : Int32)) m5 h
        · refine J_iconst hX (1 : Int32) dX5_kills_46 ic_1 ?_
          exact J_ireturn hX dX5_kills_47 h hF narrow_b1
      · refine J_iinc hX (v2 + (1 : Int32)) [(2, .int (v2 + (1 : Int32))), (3, .int r2), (0, .ref 76), (1, .int v1)] dX5_kills_48 3 rfl (congrArg (fun z => v2 + z) ic_1) (by decide) rfl ?_
        refine J_goto hX 2 dX5_kills_51 (by decide) ?_
        refine J_sub [(0, .ref 76), (1, .int v1), (2, .int (v2 + (1 : Int32)))] [2, 3, 0] rfl ?_
        exact ih v1 (v2 + (1 : Int32)) m1 h
    · refine J_iconst hX (0 : Int32) dX5_kills_54 ic_0 ?_
      exact J_ireturn hX dX5_kills_55 h hF narrow_b0
def f_X5_kills (x1 : Int32) (m : Mm) : Option (Int32 × Mm) := f_X5_kills_L2 FU x1 (0 : Int32)  m
theorem t_X5_kills {X : XX} {G : GG} {ρ : Nat → Nat} {n t u w v : Nat} {x : Option Nat} {d : Nat} (hX : Ok X G ρ cX5_kills 4 RX5 d) (hd0 : 2 ≤ d) (hn : 126 ≤ n) {rE : Int32} {mE : Mm} (hF : Fin' X G ρ n (some .boolean) (some (.int rE)) (RT t u w v x) mE) {x1 : Int32} {m : Mm} (h : f_X5_kills x1 m = some (rE, mE)) : J X G ρ n 4 0 [(0, .ref 76), (1, .int x1)] [] (RT t u w v x) m := by
  unfold f_X5_kills at h
  refine J_iconst hX (0 : Int32) dX5_kills_0 ic_0 ?_
  refine J_istore_n hX [(2, .int (0 : Int32)), (0, .ref 76), (1, .int x1)] dX5_kills_1 rfl (by decide) rfl ?_
  refine J_sub [(0, .ref 76), (1, .int x1), (2, .int (0 : Int32))] [1, 2, 0] rfl ?_
  exact t_X5_kills_L2 hX hd0 hn hF FU x1 (0 : Int32)  m h
theorem c_X5_kills {G : GG} {l : Launch} {ρ : Nat → Nat} {n t u w v : Nat} {x : Option Nat} (hn : 126 ≤ n) {x1 : Int32} {m : Mm} {rE : Int32} {mE : Mm} (h : f_X5_kills x1 m = some (rE, mE)) : CT G l yX5_kills cX5_kills 4 (some .boolean) 2 0 0 ρ n (RT t u w v x) [.ref 76, .int x1] m (some (.int rE)) (RT t u w v x) mE := ct_of_J (by decide) rfl (Nat.le_of_ble_eq_true rfl) (fun X hX e1 e2 e3 e4 hQ hr hl => t_X5_kills hX (Nat.le_refl _) hn ⟨by rw [hQ, e3, e4], hr, hl⟩ h)
def f_X5_dearerWithout_J54 (v1 : Int32) (v4 : Int32) (v5 : Int32) (m : Mm) : Option (Int32 × Mm) := bd2 (f_X6_lostMany 54 v4 m) (fun r2 m1 => bd2 (f_X6_disksNow 54 v4 m1) (fun r4 m3 => (if (r2 + ((r4 >>> (v1 &&& 31)) &&& (1 : Int32))) < (2 : Int32) then (if v5 = 0 then gd (inb v4 40) ((if (1 : Int32) < ((gI m3 27 (ix v4)) - (1 : Int32)) then some ((1 : Int32), m3) else some ((0 : Int32), m3))) else some ((0 : Int32), m3)) else some ((1 : Int32), m3))))
theorem t_X5_dearerWithout_J54 {X : XX} {G : GG} {ρ : Nat → Nat} {n t u w v : Nat} {x : Option Nat} {d : Nat} (hX : Ok X G ρ cX5_dearerWithout 7 RX5 d) (hd0 : 2 ≤ d) (hn : 126 ≤ n) {rE : Int32} {mE : Mm} (hF : Fin' X G ρ n (some .boolean) (some (.int rE)) (RT t u w v x) mE) (v1 : Int32) (v4 : Int32) (v5 : Int32) (m : Mm) (h : f_X5_dearerWithout_J54 v1 v4 v5 m = some (rE, mE)) : J X G ρ n 7 54 [(0, .ref 76), (1, .int v1), (4, .int v4), (5, .int v5)] [] (RT t u w v x) m := by
  unfold f_X5_dearerWithout_J54 at h
  refine J_aload_n hX dX5_dearerWithout_54 rfl 0 rfl ?_
  refine J_getR hX dX5_dearerWithout_55 fl_RX5_15 (ltn ltc_76 hn) lo_76 rfl (rt_76_0 _ _ _ _ _) ?_
  refine J_iload hX dX5_dearerWithout_58 2 rfl ?_
  obtain ⟨r2, m1, h0, h⟩ := bd2_some h
  refine J_callVi (As := [.int v4]) (st := []) hX dX5_dearerWithout_60 cw_RX5_68 (by omega) (c_X6_lostMany hn p_isSt_54 h0) (ltn ltc_54 hn) lo_54 (by decide) rfl rfl rfl (Nat.le_of_ble_eq_true rfl) ?_
  clear h0
  refine J_aload_n hX dX5_dearerWithout_63 rfl 0 rfl ?_
  refine J_getR hX dX5_dearerWithout_64 fl_RX5_15 (ltn ltc_76 hn) lo_76 rfl (rt_76_0 _ _ _ _ _) ?_
  refine J_iload hX dX5_dearerWithout_67 2 rfl ?_
  obtain ⟨r4, m3, h0, h⟩ := bd2_some h
  refine J_callVi (As := [.int v4]) (st := [.int r2]) hX dX5_dearerWithout_69 cw_RX5_35 (by omega) (c_X6_disksNow hn p_isSt_54 h0) (ltn ltc_54 hn) lo_54 (by decide) rfl rfl rfl (Nat.le_of_ble_eq_true rfl) ?_
  clear h0
  refine J_iload_n hX dX5_dearerWithout_72 rfl 1 rfl ?_
  refine J_ishr hX dX5_dearerWithout_73 ?_
  refine J_iconst hX (1 : Int32) dX5_dearerWithout_74 ic_1 ?_
  refine J_iand hX dX5_dearerWithout_75 ?_
  refine J_iadd hX dX5_dearerWithout_76 ?_
  refine J_istore hX [(6, .int (r2 + ((r4 >>> (v1 &&& 31)) &&& (1 : Int32)))), (0, .ref 76), (1, .int v1), (4, .int v4), (5, .int v5)] dX5_dearerWithout_77 (by decide) rfl ?_
  refine J_iload hX dX5_dearerWithout_79 0 rfl ?_
  refine J_iconst hX (2 : Int32) dX5_dearerWithout_81 ic_2 ?_
  refine J_icmp_lt hX 87 dX5_dearerWithout_82 (by decide) h (fun c h => ?_) (fun c h => ?_)
  · refine J_iload hX dX5_dearerWithout_87 4 rfl ?_
    refine J_if_ne hX 112 dX5_dearerWithout_89 (by decide) h (fun c h => ?_) (fun c h => ?_)
    · refine J_aload_n hX dX5_dearerWithout_92 rfl 1 rfl ?_
      refine J_getR hX dX5_dearerWithout_93 fl_RX5_19 (ltn ltc_76 hn) lo_76 rfl (rt_76_1 _ _ _ _ _) ?_
      refine J_getR hX dX5_dearerWithout_96 fl_RX5_91 (ltn ltc_26 hn) lo_26 rfl (rt_26_3 _ _ _ _ _) ?_
      refine J_iload hX dX5_dearerWithout_99 3 rfl ?_
      refine J_iaload hX dX5_dearerWithout_101 (ltn ltc_27 hn) lay_27 h (fun h => ?_)
      refine J_iconst hX (1 : Int32) dX5_dearerWithout_102 ic_1 ?_
      refine J_isub hX dX5_dearerWithout_103 ?_
      refine J_iconst hX (1 : Int32) dX5_dearerWithout_104 ic_1 ?_
      refine J_icmp_le hX 112 dX5_dearerWithout_105 (by decide) h (fun c h => ?_) (fun c h => ?_)
      · refine J_iconst hX (1 : Int32) dX5_dearerWithout_108 ic_1 ?_
        refine J_goto hX 113 dX5_dearerWithout_109 (by decide) ?_
        exact J_ireturn hX dX5_dearerWithout_113 h hF narrow_b1
      · refine J_iconst hX (0 : Int32) dX5_dearerWithout_112 ic_0 ?_
        exact J_ireturn hX dX5_dearerWithout_113 h hF narrow_b0
    · refine J_iconst hX (0 : Int32) dX5_dearerWithout_112 ic_0 ?_
      exact J_ireturn hX dX5_dearerWithout_113 h hF narrow_b0
  · refine J_iconst hX (1 : Int32) dX5_dearerWithout_85 ic_1 ?_
    exact J_ireturn hX dX5_dearerWithout_86 h hF narrow_b1
def f_X5_dearerWithout_J33 (v1 : Int32) (v3 : Int32) (v4 : Int32) (s0 : Int32) (m : Mm) : Option (Int32 × Mm) := (if s0 = 0 then bd2 (f_X6_diskNow 54 v3 m) (fun r6 m5 => (if r6 = v1 then f_X5_dearerWithout_J54 v1 v4 s0  m5 else some ((0 : Int32), m5))) else f_X5_dearerWithout_J54 v1 v4 s0  m)
theorem t_X5_dearerWithout_J33 {X : XX} {G : GG} {ρ : Nat → Nat} {n t u w v : Nat} {x : Option Nat} {d : Nat} (hX : Ok X G ρ cX5_dearerWithout 7 RX5 d) (hd0 : 2 ≤ d) (hn : 126 ≤ n) {rE : Int32} {mE : Mm} (hF : Fin' X G ρ n (some .boolean) (some (.int rE)) (RT t u w v x) mE) (v1 : Int32) (v3 : Int32) (v4 : Int32) (s0 : Int32) (m : Mm) (h : f_X5_dearerWithout_J33 v1 v3 v4 s0 m = some (rE, mE)) : J X G ρ n 7 33 [(0, .ref 76), (1, .int v1), (3, .int v3), (4, .int v4)] [.int s0] (RT t u w v x) m := by
  unfold f_X5_dearerWithout_J33 at h
  refine J_istore hX [(5, .int s0), (0, .ref 76), (1, .int v1), (3, .int v3), (4, .int v4)] dX5_dearerWithout_33 (by decide) rfl ?_
  refine J_iload hX dX5_dearerWithout_35 0 rfl ?_
  refine J_if_ne hX 54 dX5_dearerWithout_37 (by decide) h (fun c h => ?_) (fun c h => ?_)
  · refine J_aload_n hX dX5_dearerWithout_40 rfl 1 rfl ?_
    refine J_getR hX dX5_dearerWithout_41 fl_RX5_15 (ltn ltc_76 hn) lo_76 rfl (rt_76_0 _ _ _ _ _) ?_
    refine J_iload_n hX dX5_dearerWithout_44 rfl 3 rfl ?_
    obtain ⟨r6, m5, h0, h⟩ := bd2_some h
    refine J_callVi (As := [.int v3]) (st := []) hX dX5_dearerWithout_45 cw_RX5_88 (by omega) (c_X6_diskNow hn p_isSt_54 h0) (ltn ltc_54 hn) lo_54 (by decide) rfl rfl rfl (Nat.le_of_ble_eq_true rfl) ?_
    clear h0
    refine J_iload_n hX dX5_dearerWithout_48 rfl 2 rfl ?_
    refine J_icmp_eq hX 54 dX5_dearerWithout_49 (by decide) h (fun c h => ?_) (fun c h => ?_)
    · refine J_sub [(0, .ref 76), (1, .int v1), (4, .int v4), (5, .int s0)] [1, 2, 4, 0] rfl ?_
      exact t_X5_dearerWithout_J54 hX hd0 hn hF v1 v4 s0  m5 h
    · refine J_iconst hX (0 : Int32) dX5_dearerWithout_52 ic_0 ?_
      exact J_ireturn hX dX5_dearerWithout_53 h hF narrow_b0
  · refine J_sub [(0, .ref 76), (1, .int v1), (4, .int v4), (5, .int s0)] [1, 2, 4, 0] rfl ?_
    exact t_X5_dearerWithout_J54 hX hd0 hn hF v1 v4 s0  m h
def f_X5_dearerWithout (x1 : Int32) (x2 : Int32) (m : Mm) : Option (Int32 × Mm) := gd (inb x2 160) (gd (inb (gI m 36 (ix x2)) 200) ((if (gI m 55 (ix (gI m 36 (ix x2)))) = (2 : Int32) then f_X5_dearerWithout_J33 x1 (gI m 36 (ix x2)) ((gI m 36 (ix x2)) / (5 : Int32)) (1 : Int32) m else f_X5_dearerWithout_J33 x1 (gI m 36 (ix x2)) ((gI m 36 (ix x2)) / (5 : Int32)) (0 : Int32) m)))
theorem t_X5_dearerWithout {X : XX} {G : GG} {ρ : Nat → Nat} {n t u w v : Nat} {x : Option Nat} {d : Nat} (hX : Ok X G ρ cX5_dearerWithout 7 RX5 d) (hd0 : 2 ≤ d) (hn : 126 ≤ n) {rE : Int32} {mE : Mm} (hF : Fin' X G ρ n (some .boolean) (some (.int rE)) (RT t u w v x) mE) {x1 : Int32} {x2 : Int32} {m : Mm} (h : f_X5_dearerWithout x1 x2 m = some (rE, mE)) : J X G ρ n 7 0 [(0, .ref 76), (1, .int x1), (2, .int x2)] [] (RT t u w v x) m := by
  unfold f_X5_dearerWithout at h
  refine J_aload_n hX dX5_dearerWithout_0 rfl 0 rfl ?_
  refine J_getR hX dX5_dearerWithout_1 fl_RX5_19 (ltn ltc_76 hn) lo_76 rfl (rt_76_1 _ _ _ _ _) ?_
  refine J_getR hX dX5_dearerWithout_4 fl_RX5_82 (ltn ltc_26 hn) lo_26 rfl (rt_26_12 _ _ _ _ _) ?_
  refine J_iload_n hX dX5_dearerWithout_7 rfl 2 rfl ?_
  refine J_iaload hX dX5_dearerWithout_8 (ltn ltc_36 hn) lay_36 h (fun h => ?_)
  refine J_istore_n hX [(3, .int (gI m 36 (ix x2))), (0, .ref 76), (1, .int x1), (2, .int x2)] dX5_dearerWithout_9 rfl (by decide) rfl ?_
  refine J_iload_n hX dX5_dearerWithout_10 rfl 0 rfl ?_
  refine J_iconst hX (5 : Int32) dX5_dearerWithout_11 ic_5 ?_
  refine J_idiv0 hX dX5_dearerWithout_12 (by decide) ?_
  refine J_istore hX [(4, .int ((gI m 36 (ix x2)) / (5 : Int32))), (3, .int (gI m 36 (ix x2))), (0, .ref 76), (1, .int x1), (2, .int x2)] dX5_dearerWithout_13 (by decide) rfl ?_
  refine J_aload_n hX dX5_dearerWithout_15 rfl 2 rfl ?_
  refine J_getR hX dX5_dearerWithout_16 fl_RX5_15 (ltn ltc_76 hn) lo_76 rfl (rt_76_0 _ _ _ _ _) ?_
  refine J_getR hX dX5_dearerWithout_19 fl_RX5_85 (ltn ltc_54 hn) lo_54 rfl (rt_54_2 _ _ _ _ _) ?_
  refine J_iload_n hX dX5_dearerWithout_22 rfl 1 rfl ?_
  refine J_iaload hX dX5_dearerWithout_23 (ltn ltc_55 hn) lay_55 h (fun h => ?_)
  refine J_iconst hX (2 : Int32) dX5_dearerWithout_24 ic_2 ?_
  refine J_icmp_ne hX 32 dX5_dearerWithout_25 (by decide) h (fun c h => ?_) (fun c h => ?_)
  · refine J_iconst hX (1 : Int32) dX5_dearerWithout_28 ic_1 ?_
    refine J_goto hX 33 dX5_dearerWithout_29 (by decide) ?_
    refine J_sub [(0, .ref 76), (1, .int x1), (3, .int (gI m 36 (ix x2))), (4, .int ((gI m 36 (ix x2)) / (5 : Int32)))] [2, 3, 1, 0] rfl ?_
    exact t_X5_dearerWithout_J33 hX hd0 hn hF x1 (gI m 36 (ix x2)) ((gI m 36 (ix x2)) / (5 : Int32)) (1 : Int32) m h
  · refine J_iconst hX (0 : Int32) dX5_dearerWithout_32 ic_0 ?_
    refine J_sub [(0, .ref 76), (1, .int x1), (3, .int (gI m 36 (ix x2))), (4, .int ((gI m 36 (ix x2)) / (5 : Int32)))] [2, 3, 1, 0] rfl ?_
    exact t_X5_dearerWithout_J33 hX hd0 hn hF x1 (gI m 36 (ix x2)) ((gI m 36 (ix x2)) / (5 : Int32)) (0 : Int32) m h
theorem c_X5_dearerWithout {G : GG} {l : Launch} {ρ : Nat → Nat} {n t u w v : Nat} {x : Option Nat} (hn : 126 ≤ n) {x1 : Int32} {x2 : Int32} {m : Mm} {rE : Int32} {mE : Mm} (h : f_X5_dearerWithout x1 x2 m = some (rE, mE)) : CT G l yX5_dearerWithout cX5_dearerWithout 7 (some .boolean) 2 0 0 ρ n (RT t u w v x) [.ref 76, .int x1, .int x2] m (some (.int rE)) (RT t u w v x) mE := ct_of_J (by decide) rfl (Nat.le_of_ble_eq_true rfl) (fun X hX e1 e2 e3 e4 hQ hr hl => t_X5_dearerWithout hX (Nat.le_refl _) hn ⟨by rw [hQ, e3, e4], hr, hl⟩ h)
def f_X5_fitsSeen_J32 (K2 : Int32 → Int32 → Mm → Option (Int32 × Mm)) (v1 : Int32) (v2 : Int32) (s0 : Int32) (m : Mm) : Option (Int32 × Mm) := gd (inb v2 8) (bd2 (f_X5_dearerWithout v1 (gI m 58 (ix v2)) m) (fun r2 m1 => (if r2 = s0 then K2 v1 (v2 + (1 : Int32)) m1 else some ((0 : Int32), m1))))
theorem t_X5_fitsSeen_J32 {X : XX} {G : GG} {ρ : Nat → Nat} {n t u w v : Nat} {x : Option Nat} {d : Nat} (hX : Ok X G ρ cX5_fitsSeen 4 RX5 d) (hd0 : 3 ≤ d) (hn : 126 ≤ n) {rE : Int32} {mE : Mm} (hF : Fin' X G ρ n (some .boolean) (some (.int rE)) (RT t u w v x) mE) {K2 : Int32 → Int32 → Mm → Option (Int32 × Mm)} (v1 : Int32) (v2 : Int32) (s0 : Int32) (hK2 : ∀ (w1 : Int32) (w2 : Int32) (m : Mm), K2 w1 w2 m = some (rE, mE) → J X G ρ n 4 2 [(0, .ref 76), (1, .int w1), (2, .int w2)] [] (RT t u w v x) m) (m : Mm) (h : f_X5_fitsSeen_J32 K2 v1 v2 s0 m = some (rE, mE)) : J X G ρ n 4 32 [(0, .ref 76), (1, .int v1), (2, .int v2)] [.int s0] (RT t u w v x) m := by
  unfold f_X5_fitsSeen_J32 at h
  refine J_istore_n hX [(3, .int s0), (0, .ref 76), (1, .int v1), (2, .int v2)] dX5_fitsSeen_32 rfl (by decide) rfl ?_
  refine J_aload_n hX dX5_fitsSeen_33 rfl 1 rfl ?_
  refine J_iload_n hX dX5_fitsSeen_34 rfl 2 rfl ?_
  refine J_aload_n hX dX5_fitsSeen_35 rfl 1 rfl ?_
  refine J_getR hX dX5_fitsSeen_36 fl_RX5_15 (ltn ltc_76 hn) lo_76 rfl (rt_76_0 _ _ _ _ _) ?_
  refine J_getR hX dX5_fitsSeen_39 fl_RX5_103 (ltn ltc_54 hn) lo_54 rfl (rt_54_6 _ _ _ _ _) ?_
  refine J_iload_n hX dX5_fitsSeen_42 rfl 3 rfl ?_
  refine J_iaload hX dX5_fitsSeen_43 (ltn ltc_58 hn) lay_58 h (fun h => ?_)
  obtain ⟨r2, m1, h0, h⟩ := bd2_some h
  refine J_callVi (As := [.int v1, .int (gI m 58 (ix v2))]) (st := []) hX dX5_fitsSeen_44 cw_RX5_106 (by omega) (c_X5_dearerWithout hn  h0) (ltn ltc_76 hn) lo_76 (by decide) rfl rfl rfl (Nat.le_of_ble_eq_true rfl) ?_
  clear h0
  refine J_iload_n hX dX5_fitsSeen_47 rfl 0 rfl ?_
  refine J_icmp_eq hX 53 dX5_fitsSeen_48 (by decide) h (fun c h => ?_) (fun c h => ?_)
  · refine J_iinc hX (v2 + (1 : Int32)) [(2, .int (v2 + (1 : Int32))), (3, .int s0), (0, .ref 76), (1, .int v1)] dX5_fitsSeen_53 3 rfl (congrArg (fun z => v2 + z) ic_1) (by decide) rfl ?_
    refine J_goto hX 2 dX5_fitsSeen_56 (by decide) ?_
    refine J_sub [(0, .ref 76), (1, .int v1), (2, .int (v2 + (1 : Int32)))] [2, 3, 0] rfl ?_
    exact hK2 v1 (v2 + (1 : Int32)) m1 h
  · refine J_iconst hX (0 : Int32) dX5_fitsSeen_51 ic_0 ?_
    exact J_ireturn hX dX5_fitsSeen_52 h hF narrow_b0
def f_X5_fitsSeen_L2 : Nat → Int32 → Int32 →  Mm → Option (Int32 × Mm)
  | 0, _, _, _ => none
  | k + 1, v1, v2, m => (if v2 < (gI m 54 5) then (if (((gI m 54 7) >>> (v2 &&& 31)) &&& (1 : Int32)) = 0 then f_X5_fitsSeen_J32 (fun w1 w2 m => f_X5_fitsSeen_L2 k w1 w2 m) v1 v2 (0 : Int32) m else f_X5_fitsSeen_J32 (fun w1 w2 m => f_X5_fitsSeen_L2 k w1 w2 m) v1 v2 (1 : Int32) m) else some ((1 : Int32), m))
theorem t_X5_fitsSeen_L2 {X : XX} {G : GG} {ρ : Nat → Nat} {n t u w v : Nat} {x : Option Nat} {d : Nat} (hX : Ok X G ρ cX5_fitsSeen 4 RX5 d) (hd0 : 3 ≤ d) (hn : 126 ≤ n) {rE : Int32} {mE : Mm} (hF : Fin' X G ρ n (some .boolean) (some (.int rE)) (RT t u w v x) mE) : ∀ (k : Nat) (v1 : Int32) (v2 : Int32) (m : Mm), f_X5_fitsSeen_L2 k v1 v2 m = some (rE, mE) → J X G ρ n 4 2 [(0, .ref 76), (1, .int v1), (2, .int v2)] [] (RT t u w v x) m := by
  intro k
  induction k with
  | zero => intro _ _ _ h; rw [f_X5_fitsSeen_L2] at h; cases h
  | succ k ih =>
    intro v1 v2 m h
    rw [f_X5_fitsSeen_L2] at h
    refine J_iload_n hX dX5_fitsSeen_2 rfl 2 rfl ?_
    refine J_aload_n hX dX5_fitsSeen_3 rfl 0 rfl ?_
    refine J_getR hX dX5_fitsSeen_4 fl_RX5_15 (ltn ltc_76 hn) lo_76 rfl (rt_76_0 _ _ _ _ _) ?_
    refine J_getI hX dX5_fitsSeen_7 fl_RX5_97 (ltn ltc_54 hn) lo_54 rfl ?_
    refine J_icmp_ge hX 59 dX5_fitsSeen_10 (by decide) h (fun c h => ?_) (fun c h => ?_)
    · refine J_aload_n hX dX5_fitsSeen_13 rfl 0 rfl ?_
      refine J_getR hX dX5_fitsSeen_14 fl_RX5_15 (ltn ltc_76 hn) lo_76 rfl (rt_76_0 _ _ _ _ _) ?_
      refine J_getI hX dX5_fitsSeen_17 fl_RX5_100 (ltn ltc_54 hn) lo_54 rfl ?_
      refine J_iload_n hX dX5_fitsSeen_20 rfl 2 rfl ?_
      refine J_ishr hX dX5_fitsSeen_21 ?_
      refine J_iconst hX (1 : Int32) dX5_fitsSeen_22 ic_1 ?_
      refine J_iand hX dX5_fitsSeen_23 ?_
      refine J_if_eq hX 31 dX5_fitsSeen_24 (by decide) h (fun c h => ?_) (fun c h => ?_)
      · refine J_iconst hX (0 : Int32) dX5_fitsSeen_31 ic_0 ?_
        exact t_X5_fitsSeen_J32 hX hd0 hn hF v1 v2 (0 : Int32) (fun w1 w2 m h => ih w1 w2 m h) m h
      · refine J_iconst hX (1 : Int32) dX5_fitsSeen_27 ic_1 ?_
        refine J_goto hX 32 dX5_fitsSeen_28 (by decide) ?_
        exact t_X5_fitsSeen_J32 hX hd0 hn hF v1 v2 (1 : Int32) (fun w1 w2 m h => ih w1 w2 m h) m h
    · refine J_iconst hX (1 : Int32) dX5_fitsSeen_59 ic_1 ?_
      exact J_ireturn hX dX5_fitsSeen_60 h hF narrow_b1
def f_X5_fitsSeen (x1 : Int32) (m : Mm) : Option (Int32 × Mm) := f_X5_fitsSeen_L2 FU x1 (0 : Int32)  m
theorem t_X5_fitsSeen {X : XX} {G : GG} {ρ : Nat → Nat} {n t u w v : Nat} {x : Option Nat} {d : Nat} (hX : Ok X G ρ cX5_fitsSeen 4 RX5 d) (hd0 : 3 ≤ d) (hn : 126 ≤ n) {rE : Int32} {mE : Mm} (hF : Fin' X G ρ n (some .boolean) (some (.int rE)) (RT t u w v x) mE) {x1 : Int32} {m : Mm} (h : f_X5_fitsSeen x1 m = some (rE, mE)) : J X G ρ n 4 0 [(0, .ref 76), (1, .int x1)] [] (RT t u w v x) m := by
  unfold f_X5_fitsSeen at h
  refine J_iconst hX (0 : Int32) dX5_fitsSeen_0 ic_0 ?_
  refine J_istore_n hX [(2, .int (0 : Int32)), (0, .ref 76), (1, .int x1)] dX5_fitsSeen_1 rfl (by decide) rfl ?_
  refine J_sub [(0, .ref 76), (1, .int x1), (2, .int (0 : Int32))] [1, 2, 0] rfl ?_
  exact t_X5_fitsSeen_L2 hX hd0 hn hF FU x1 (0 : Int32)  m h
theorem c_X5_fitsSeen {G : GG} {l : Launch} {ρ : Nat → Nat} {n t u w v : Nat} {x : Option Nat} (hn : 126 ≤ n) {x1 : Int32} {m : Mm} {rE : Int32} {mE : Mm} (h : f_X5_fitsSeen x1 m = some (rE, mE)) : CT G l yX5_fitsSeen cX5_fitsSeen 4 (some .boolean) 3 0 0 ρ n (RT t u w v x) [.ref 76, .int x1] m (some (.int rE)) (RT t u w v x) mE := ct_of_J (by decide) rfl (Nat.le_of_ble_eq_true rfl) (fun X hX e1 e2 e3 e4 hQ hr hl => t_X5_fitsSeen hX (Nat.le_refl _) hn ⟨by rw [hQ, e3, e4], hr, hl⟩ h)
def f_X5_suspects_L4 : Nat → Int32 → Int32 →  Mm → Option (Int32 × Mm)
  | 0, _, _, _ => none
  | k + 1, v1, v2, m => (if v2 < (gI m 26 0) then bd2 (f_X6_isUp 54 v2 m) (fun r2 m1 => (if r2 = 0 then f_X5_suspects_L4 k v1 (v2 + (1 : Int32)) m1 else bd2 (f_X5_fitsSeen v2 m1) (fun r4 m3 => (if r4 = 0 then f_X5_suspects_L4 k v1 (v2 + (1 : Int32)) m3 else f_X5_suspects_L4 k (v1 ||| ((1 : Int32) <<< (v2 &&& 31))) (v2 + (1 : Int32)) m3)))) else some (v1, m))
theorem t_X5_suspects_L4 {X : XX} {G : GG} {ρ : Nat → Nat} {n t u w v : Nat} {x : Option Nat} {d : Nat} (hX : Ok X G ρ cX5_suspects 3 RX5 d) (hd0 : 4 ≤ d) (hn : 126 ≤ n) {rE : Int32} {mE : Mm} (hF : Fin' X G ρ n (some .int) (some (.int rE)) (RT t u w v x) mE) : ∀ (k : Nat) (v1 : Int32) (v2 : Int32) (m : Mm), f_X5_suspects_L4 k v1 v2 m = some (rE, mE) → J X G ρ n 3 4 [(0, .ref 76), (1, .int v1), (2, .int v2)] [] (RT t u w v x) m := by
  intro k
  induction k with
  | zero => intro _ _ _ h; rw [f_X5_suspects_L4] at h; cases h
  | succ k ih =>
    intro v1 v2 m h
    rw [f_X5_suspects_L4] at h
    refine J_iload_n hX dX5_suspects_4 rfl 2 rfl ?_
    refine J_aload_n hX dX5_suspects_5 rfl 0 rfl ?_
    refine J_getR hX dX5_suspects_6 fl_RX5_19 (ltn ltc_76 hn) lo_76 rfl (rt_76_1 _ _ _ _ _) ?_
    refine J_getI hX dX5_suspects_9 fl_RX5_76 (ltn ltc_26 hn) lo_26 rfl ?_
    refine J_icmp_ge hX 46 dX5_suspects_12 (by decide) h (fun c h => ?_) (fun c h => ?_)
    · refine J_aload_n hX dX5_suspects_15 rfl 0 rfl ?_
      refine J_getR hX dX5_suspects_16 fl_RX5_15 (ltn ltc_76 hn) lo_76 rfl (rt_76_0 _ _ _ _ _) ?_
      refine J_iload_n hX dX5_suspects_19 rfl 2 rfl ?_
      obtain ⟨r2, m1, h0, h⟩ := bd2_some h
      refine J_callVi (As := [.int v2]) (st := []) hX dX5_suspects_20 cw_RX5_52 (by omega) (c_X6_isUp hn p_isSt_54 h0) (ltn ltc_54 hn) lo_54 (by decide) rfl rfl rfl (Nat.le_of_ble_eq_true rfl) ?_
      clear h0
      refine J_if_eq hX 40 dX5_suspects_23 (by decide) h (fun c h => ?_) (fun c h => ?_)
      · refine J_iinc hX (v2 + (1 : Int32)) [(2, .int (v2 + (1 : Int32))), (0, .ref 76), (1, .int v1)] dX5_suspects_40 2 rfl (congrArg (fun z => v2 + z) ic_1) (by decide) rfl ?_
        refine J_goto hX 4 dX5_suspects_43 (by decide) ?_
        refine J_sub [(0, .ref 76), (1, .int v1), (2, .int (v2 + (1 : Int32)))] [1, 2, 0] rfl ?_
        exact ih v1 (v2 + (1 : Int32)) m1 h
      · refine J_aload_n hX dX5_suspects_26 rfl 0 rfl ?_
        refine J_iload_n hX dX5_suspects_27 rfl 2 rfl ?_
        obtain ⟨r4, m3, h0, h⟩ := bd2_some h
        refine J_callVi (As := [.int v2]) (st := []) hX dX5_suspects_28 cw_RX5_94 (by omega) (c_X5_fitsSeen hn  h0) (ltn ltc_76 hn) lo_76 (by decide) rfl rfl rfl (Nat.le_of_ble_eq_true rfl) ?_
        clear h0
        refine J_if_eq hX 40 dX5_suspects_31 (by decide) h (fun c h => ?_) (fun c h => ?_)
        · refine J_iinc hX (v2 + (1 : Int32)) [(2, .int (v2 + (1 : Int32))), (0, .ref 76), (1, .int v1)] dX5_suspects_40 2 rfl (congrArg (fun z => v2 + z) ic_1) (by decide) rfl ?_
          refine J_goto hX 4 dX5_suspects_43 (by decide) ?_
          refine J_sub [(0, .ref 76), (1, .int v1), (2, .int (v2 + (1 : Int32)))] [1, 2, 0] rfl ?_
          exact ih v1 (v2 + (1 : Int32)) m3 h
        · refine J_iload_n hX dX5_suspects_34 rfl 1 rfl ?_
          refine J_iconst hX (1 : Int32) dX5_suspects_35 ic_1 ?_
          refine J_iload_n hX dX5_suspects_36 rfl 2 rfl ?_
          refine J_ishl hX dX5_suspects_37 ?_
          refine J_ior hX dX5_suspects_38 ?_
          refine J_istore_n hX [(1, .int (v1 ||| ((1 : Int32) <<< (v2 &&& 31)))), (0, .ref 76), (2, .int v2)] dX5_suspects_39 rfl (by decide) rfl ?_
          refine J_iinc hX (v2 + (1 : Int32)) [(2, .int (v2 + (1 : Int32))), (1, .int (v1 ||| ((1 : Int32) <<< (v2 &&& 31)))), (0, .ref 76)] dX5_suspects_40 2 rfl (congrArg (fun z => v2 + z) ic_1) (by decide) rfl ?_
          refine J_goto hX 4 dX5_suspects_43 (by decide) ?_
          refine J_sub [(0, .ref 76), (1, .int (v1 ||| ((1 : Int32) <<< (v2 &&& 31)))), (2, .int (v2 + (1 : Int32)))] [2, 1, 0] rfl ?_
          exact ih (v1 ||| ((1 : Int32) <<< (v2 &&& 31))) (v2 + (1 : Int32)) m3 h
    · refine J_iload_n hX dX5_suspects_46 rfl 1 rfl ?_
      exact J_ireturn hX dX5_suspects_47 h hF rfl
def f_X5_suspects (m : Mm) : Option (Int32 × Mm) := f_X5_suspects_L4 FU (0 : Int32) (0 : Int32)  m
theorem t_X5_suspects {X : XX} {G : GG} {ρ : Nat → Nat} {n t u w v : Nat} {x : Option Nat} {d : Nat} (hX : Ok X G ρ cX5_suspects 3 RX5 d) (hd0 : 4 ≤ d) (hn : 126 ≤ n) {rE : Int32} {mE : Mm} (hF : Fin' X G ρ n (some .int) (some (.int rE)) (RT t u w v x) mE) {m : Mm} (h : f_X5_suspects m = some (rE, mE)) : J X G ρ n 3 0 [(0, .ref 76)] [] (RT t u w v x) m := by
  unfold f_X5_suspects at h
  refine J_iconst hX (0 : Int32) dX5_suspects_0 ic_0 ?_
  refine J_istore_n hX [(1, .int (0 : Int32)), (0, .ref 76)] dX5_suspects_1 rfl (by decide) rfl ?_
  refine J_iconst hX (0 : Int32) dX5_suspects_2 ic_0 ?_
  refine J_istore_n hX [(2, .int (0 : Int32)), (1, .int (0 : Int32)), (0, .ref 76)] dX5_suspects_3 rfl (by decide) rfl ?_
  refine J_sub [(0, .ref 76), (1, .int (0 : Int32)), (2, .int (0 : Int32))] [2, 1, 0] rfl ?_
  exact t_X5_suspects_L4 hX hd0 hn hF FU (0 : Int32) (0 : Int32)  m h
theorem c_X5_suspects {G : GG} {l : Launch} {ρ : Nat → Nat} {n t u w v : Nat} {x : Option Nat} (hn : 126 ≤ n) {m : Mm} {rE : Int32} {mE : Mm} (h : f_X5_suspects m = some (rE, mE)) : CT G l yX5_suspects cX5_suspects 3 (some .int) 4 0 0 ρ n (RT t u w v x) [.ref 76] m (some (.int rE)) (RT t u w v x) mE := ct_of_J (by decide) rfl (Nat.le_of_ble_eq_true rfl) (fun X hX e1 e2 e3 e4 hQ hr hl => t_X5_suspects hX (Nat.le_refl _) hn ⟨by rw [hQ, e3, e4], hr, hl⟩ h)
def f_X5_leftBy_L5 : Nat → Int32 → Int32 → Int32 → Int32 →  Mm → Option (Int32 × Mm)
  | 0, _, _, _, _, _ => none
  | k + 1, v1, v2, v3, v4, m => (if v4 < (gI m 26 0) then (if ((v2 >>> (v4 &&& 31)) &&& (1 : Int32)) = 0 then f_X5_leftBy_L5 k v1 v2 v3 (v4 + (1 : Int32)) m else bd2 (f_X5_dearerWithout v4 v1 m) (fun r4 m3 => (if r4 = 0 then f_X5_leftBy_L5 k v1 v2 v3 (v4 + (1 : Int32)) m3 else f_X5_leftBy_L5 k v1 v2 (v3 + (1 : Int32)) (v4 + (1 : Int32)) m3))) else bd2 (f_J6_bitCount_0f7a4 v2 m) (fun r2 m1 => some ((imax v3 (r2 - v3)), m1)))
theorem t_X5_leftBy_L5 {X : XX} {G : GG} {ρ : Nat → Nat} {n t u w v : Nat} {x : Option Nat} {d : Nat} (hX : Ok X G ρ cX5_leftBy 5 RX5 d) (hd0 : 3 ≤ d) (hn : 126 ≤ n) {rE : Int32} {mE : Mm} (hF : Fin' X G ρ n (some .int) (some (.int rE)) (RT t u w v x) mE) : ∀ (k : Nat) (v1 : Int32) (v2 : Int32) (v3 : Int32) (v4 : Int32) (m : Mm), f_X5_leftBy_L5 k v1 v2 v3 v4 m = some (rE, mE) → J X G ρ n 5 5 [(0, .ref 76), (1, .int v1), (2, .int v2), (3, .int v3), (4, .int v4)] [] (RT t u w v x) m := by
  intro k
  induction k with
  | zero => intro _ _ _ _ _ h; rw [f_X5_leftBy_L5] at h; cases h
  | succ k ih =>
    intro v1 v2 v3 v4 m h
    rw [f_X5_leftBy_L5] at h
    refine J_iload hX dX5_leftBy_5 4 rfl ?_
    refine J_aload_n hX dX5_leftBy_7 rfl 0 rfl ?_
    refine J_getR hX dX5_leftBy_8 fl_RX5_19 (ltn ltc_76 hn) lo_76 rfl (rt_76_1 _ _ _ _ _) ?_
    refine J_getI hX dX5_leftBy_11 fl_RX5_76 (ltn ltc_26 hn) lo_26 rfl ?_
    refine J_icmp_ge hX 45 dX5_leftBy_14 (by decide) h (fun c h => ?_) (fun c h => ?_)
    · refine J_iload_n hX dX5_leftBy_17 rfl 2 rfl ?_
      refine J_iload hX dX5_leftBy_18 4 rfl ?_
      refine J_ishr hX dX5_leftBy_20 ?_
      refine J_iconst hX (1 : Int32) dX5_leftBy_21 ic_1 ?_
      refine J_iand hX dX5_leftBy_22 ?_
      refine J_if_eq hX 39 dX5_leftBy_23 (by decide) h (fun c h => ?_) (fun c h => ?_)
      · refine J_iinc hX (v4 + (1 : Int32)) [(4, .int (v4 + (1 : Int32))), (0, .ref 76), (1, .int v1), (2, .int v2), (3, .int v3)] dX5_leftBy_39 4 rfl (congrArg (fun z => v4 + z) ic_1) (by decide) rfl ?_
        refine J_goto hX 5 dX5_leftBy_42 (by decide) ?_
        refine J_sub [(0, .ref 76), (1, .int v1), (2, .int v2), (3, .int v3), (4, .int (v4 + (1 : Int32)))] [1, 2, 3, 4, 0] rfl ?_
        exact ih v1 v2 v3 (v4 + (1 : Int32)) m h
      · refine J_aload_n hX dX5_leftBy_26 rfl 0 rfl ?_
        refine J_iload hX dX5_leftBy_27 4 rfl ?_
        refine J_iload_n hX dX5_leftBy_29 rfl 1 rfl ?_
        obtain ⟨r4, m3, h0, h⟩ := bd2_some h
        refine J_callVi (As := [.int v4, .int v1]) (st := []) hX dX5_leftBy_30 cw_RX5_106 (by omega) (c_X5_dearerWithout hn  h0) (ltn ltc_76 hn) lo_76 (by decide) rfl rfl rfl (Nat.le_of_ble_eq_true rfl) ?_
        clear h0
        refine J_if_eq hX 39 dX5_leftBy_33 (by decide) h (fun c h => ?_) (fun c h => ?_)
        · refine J_iinc hX (v4 + (1 : Int32)) [(4, .int (v4 + (1 : Int32))), (0, .ref 76), (1, .int v1), (2, .int v2), (3, .int v3)] dX5_leftBy_39 4 rfl (congrArg (fun z => v4 + z) ic_1) (by decide) rfl ?_
          refine J_goto hX 5 dX5_leftBy_42 (by decide) ?_
          refine J_sub [(0, .ref 76), (1, .int v1), (2, .int v2), (3, .int v3), (4, .int (v4 + (1 : Int32)))] [1, 2, 3, 4, 0] rfl ?_
          exact ih v1 v2 v3 (v4 + (1 : Int32)) m3 h
        · refine J_iinc hX (v3 + (1 : Int32)) [(3, .int (v3 + (1 : Int32))), (0, .ref 76), (1, .int v1), (2, .int v2), (4, .int v4)] dX5_leftBy_36 3 rfl (congrArg (fun z => v3 + z) ic_1) (by decide) rfl ?_
          refine J_iinc hX (v4 + (1 : Int32)) [(4, .int (v4 + (1 : Int32))), (3, .int (v3 + (1 : Int32))), (0, .ref 76), (1, .int v1), (2, .int v2)] dX5_leftBy_39 4 rfl (congrArg (fun z => v4 + z) ic_1) (by decide) rfl ?_
          refine J_goto hX 5 dX5_leftBy_42 (by decide) ?_
          refine J_sub [(0, .ref 76), (1, .int v1), (2, .int v2), (3, .int (v3 + (1 : Int32))), (4, .int (v4 + (1 : Int32)))] [2, 3, 4, 1, 0] rfl ?_
          exact ih v1 v2 (v3 + (1 : Int32)) (v4 + (1 : Int32)) m3 h
    · refine J_iload_n hX dX5_leftBy_45 rfl 3 rfl ?_
      refine J_iload_n hX dX5_leftBy_46 rfl 2 rfl ?_
      obtain ⟨r2, m1, h0, h⟩ := bd2_some h
      refine J_callSi (As := [.int v2]) (st := [.int v3]) hX dX5_leftBy_47 cw_RX5_71 (by omega) (c_J6_bitCount_0f7a4 hn  h0) rfl rfl (Nat.le_of_ble_eq_true rfl) ?_
      clear h0
      refine J_iload_n hX dX5_leftBy_50 rfl 3 rfl ?_
      refine J_isub hX dX5_leftBy_51 ?_
      refine J_imax hX dX5_leftBy_52 (by omega) cm_RX5_121 (Nat.le_of_ble_eq_true rfl) ?_
      exact J_ireturn hX dX5_leftBy_55 h hF rfl
def f_X5_leftBy (x1 : Int32) (x2 : Int32) (m : Mm) : Option (Int32 × Mm) := f_X5_leftBy_L5 FU x1 x2 (0 : Int32) (0 : Int32)  m
theorem t_X5_leftBy {X : XX} {G : GG} {ρ : Nat → Nat} {n t u w v : Nat} {x : Option Nat} {d : Nat} (hX : Ok X G ρ cX5_leftBy 5 RX5 d) (hd0 : 3 ≤ d) (hn : 126 ≤ n) {rE : Int32} {mE : Mm} (hF : Fin' X G ρ n (some .int) (some (.int rE)) (RT t u w v x) mE) {x1 : Int32} {x2 : Int32} {m : Mm} (h : f_X5_leftBy x1 x2 m = some (rE, mE)) : J X G ρ n 5 0 [(0, .ref 76), (1, .int x1), (2, .int x2)] [] (RT t u w v x) m := by
  unfold f_X5_leftBy at h
  refine J_iconst hX (0 : Int32) dX5_leftBy_0 ic_0 ?_
  refine J_istore_n hX [(3, .int (0 : Int32)), (0, .ref 76), (1, .int x1), (2, .int x2)] dX5_leftBy_1 rfl (by decide) rfl ?_
  refine J_iconst hX (0 : Int32) dX5_leftBy_2 ic_0 ?_
  refine J_istore hX [(4, .int (0 : Int32)), (3, .int (0 : Int32)), (0, .ref 76), (1, .int x1), (2, .int x2)] dX5_leftBy_3 (by decide) rfl ?_
  refine J_sub [(0, .ref 76), (1, .int x1), (2, .int x2), (3, .int (0 : Int32)), (4, .int (0 : Int32))] [2, 3, 4, 1, 0] rfl ?_
  exact t_X5_leftBy_L5 hX hd0 hn hF FU x1 x2 (0 : Int32) (0 : Int32)  m h
theorem c_X5_leftBy {G : GG} {l : Launch} {ρ : Nat → Nat} {n t u w v : Nat} {x : Option Nat} (hn : 126 ≤ n) {x1 : Int32} {x2 : Int32} {m : Mm} {rE : Int32} {mE : Mm} (h : f_X5_leftBy x1 x2 m = some (rE, mE)) : CT G l yX5_leftBy cX5_leftBy 5 (some .int) 3 0 0 ρ n (RT t u w v x) [.ref 76, .int x1, .int x2] m (some (.int rE)) (RT t u w v x) mE := ct_of_J (by decide) rfl (Nat.le_of_ble_eq_true rfl) (fun X hX e1 e2 e3 e4 hQ hr hl => t_X5_leftBy hX (Nat.le_refl _) hn ⟨by rw [hQ, e3, e4], hr, hl⟩ h)
def f_X6_isDead (a : Nat) (x1 : Int32) (m : Mm) : Option (Int32 × Mm) := bd2 (f_X6_lostBits a x1 m) (fun r2 m1 => (if (r2 &&& (r2 - (1 : Int32))) = 0 then some ((0 : Int32), m1) else some ((1 : Int32), m1)))
theorem t_X6_isDead {X : XX} {G : GG} {ρ : Nat → Nat} {n t u w v : Nat} {x : Option Nat} {d : Nat} {a : Nat} (hX : Ok X G ρ cX6_isDead 3 RX6 d) (hd0 : 1 ≤ d) (hn : 126 ≤ n) (ha : isSt a) {rE : Int32} {mE : Mm} (hF : Fin' X G ρ n (some .boolean) (some (.int rE)) (RT t u w v x) mE) {x1 : Int32} {m : Mm} (h : f_X6_isDead a x1 m = some (rE, mE)) : J X G ρ n 3 0 [(0, .ref a), (1, .int x1)] [] (RT t u w v x) m := by
  unfold f_X6_isDead at h
  refine J_aload_n hX dX6_isDead_0 rfl 0 rfl ?_
  refine J_iload_n hX dX6_isDead_1 rfl 1 rfl ?_
  obtain ⟨r2, m1, h0, h⟩ := bd2_some h
  refine J_callVi (As := [.int x1]) (st := []) hX dX6_isDead_2 cw_RX6_64 (by omega) (c_X6_lostBits hn ha h0) (ltn (lt_isSt_0 ha) hn) (lo_isSt_0 ha) (by decide) rfl rfl rfl (Nat.le_of_ble_eq_true rfl) ?_
  clear h0
  refine J_istore_n hX [(2, .int r2), (0, .ref a), (1, .int x1)] dX6_isDead_5 rfl (by decide) rfl ?_
  refine J_iload_n hX dX6_isDead_6 rfl 0 rfl ?_
  refine J_iload_n hX dX6_isDead_7 rfl 0 rfl ?_
  refine J_iconst hX (1 : Int32) dX6_isDead_8 ic_1 ?_
  refine J_isub hX dX6_isDead_9 ?_
  refine J_iand hX dX6_isDead_10 ?_
  refine J_if_eq hX 18 dX6_isDead_11 (by decide) h (fun c h => ?_) (fun c h => ?_)
  · refine J_iconst hX (0 : Int32) dX6_isDead_18 ic_0 ?_
    exact J_ireturn hX dX6_isDead_19 h hF narrow_b0
  · refine J_iconst hX (1 : Int32) dX6_isDead_14 ic_1 ?_
    refine J_goto hX 19 dX6_isDead_15 (by decide) ?_
    exact J_ireturn hX dX6_isDead_19 h hF narrow_b1
theorem c_X6_isDead {G : GG} {l : Launch} {ρ : Nat → Nat} {n t u w v : Nat} {x : Option Nat} (hn : 126 ≤ n) {a : Nat} (ha : isSt a) {x1 : Int32} {m : Mm} {rE : Int32} {mE : Mm} (h : f_X6_isDead a x1 m = some (rE, mE)) : CT G l yX6_isDead cX6_isDead 3 (some .boolean) 1 0 0 ρ n (RT t u w v x) [.ref a, .int x1] m (some (.int rE)) (RT t u w v x) mE := ct_of_J (by decide) rfl (Nat.le_of_ble_eq_true rfl) (fun X hX e1 e2 e3 e4 hQ hr hl => t_X6_isDead hX (Nat.le_refl _) hn ha ⟨by rw [hQ, e3, e4], hr, hl⟩ h)
def f_X6_costOf (a : Nat) (x1 : Int32) (m : Mm) : Option (Int32 × Mm) := gd (inb x1 200) ((if (gI m (a + 1) (ix x1)) = (2 : Int32) then bd2 (f_X6_isDead a (x1 / (5 : Int32)) m) (fun r2 m1 => (if r2 = 0 then gd (inb (x1 / (5 : Int32)) 40) (some (((gI m1 27 (ix (x1 / (5 : Int32)))) - (1 : Int32)), m1)) else some ((-1 : Int32), m1))) else some ((1 : Int32), m)))
theorem t_X6_costOf {X : XX} {G : GG} {ρ : Nat → Nat} {n t u w v : Nat} {x : Option Nat} {d : Nat} {a : Nat} (hX : Ok X G ρ cX6_costOf 2 RX6 d) (hd0 : 2 ≤ d) (hn : 126 ≤ n) (ha : isSt a) {rE : Int32} {mE : Mm} (hF : Fin' X G ρ n (some .int) (some (.int rE)) (RT t u w v x) mE) {x1 : Int32} {m : Mm} (h : f_X6_costOf a x1 m = some (rE, mE)) : J X G ρ n 2 0 [(0, .ref a), (1, .int x1)] [] (RT t u w v x) m := by
  unfold f_X6_costOf at h
  refine J_aload_n hX dX6_costOf_0 rfl 0 rfl ?_
  refine J_getR hX dX6_costOf_1 fl_RX6_9 (ltn (lt_isSt_0 ha) hn) (lo_isSt_0 ha) rfl (rt_isSt_0_2 _ _ _ _ _ ha) ?_
  refine J_iload_n hX dX6_costOf_4 rfl 1 rfl ?_
  refine J_iaload hX dX6_costOf_5 (ltn (lt_isSt_1 ha) hn) (lay_isSt_1 ha) h (fun h => ?_)
  refine J_iconst hX (2 : Int32) dX6_costOf_6 ic_2 ?_
  refine J_icmp_eq hX 12 dX6_costOf_7 (by decide) h (fun c h => ?_) (fun c h => ?_)
  · refine J_aload_n hX dX6_costOf_12 rfl 0 rfl ?_
    refine J_iload_n hX dX6_costOf_13 rfl 1 rfl ?_
    refine J_iconst hX (5 : Int32) dX6_costOf_14 ic_5 ?_
    refine J_idiv0 hX dX6_costOf_15 (by decide) ?_
    obtain ⟨r2, m1, h0, h⟩ := bd2_some h
    refine J_callVi (As := [.int (x1 / (5 : Int32))]) (st := []) hX dX6_costOf_16 cw_RX6_85 (by omega) (c_X6_isDead hn ha h0) (ltn (lt_isSt_0 ha) hn) (lo_isSt_0 ha) (by decide) rfl rfl rfl (Nat.le_of_ble_eq_true rfl) ?_
    clear h0
    refine J_if_eq hX 26 dX6_costOf_19 (by decide) h (fun c h => ?_) (fun c h => ?_)
    · refine J_aload_n hX dX6_costOf_26 rfl 0 rfl ?_
      refine J_getR hX dX6_costOf_27 fl_RX6_24 (ltn (lt_isSt_0 ha) hn) (lo_isSt_0 ha) rfl (rt_isSt_0_0 _ _ _ _ _ ha) ?_
      refine J_getR hX dX6_costOf_30 fl_RX6_61 (ltn ltc_26 hn) lo_26 rfl (rt_26_3 _ _ _ _ _) ?_
      refine J_iload_n hX dX6_costOf_33 rfl 1 rfl ?_
      refine J_iconst hX (5 : Int32) dX6_costOf_34 ic_5 ?_
      refine J_idiv0 hX dX6_costOf_35 (by decide) ?_
      refine J_iaload hX dX6_costOf_36 (ltn ltc_27 hn) lay_27 h (fun h => ?_)
      refine J_iconst hX (1 : Int32) dX6_costOf_37 ic_1 ?_
      refine J_isub hX dX6_costOf_38 ?_
      exact J_ireturn hX dX6_costOf_39 h hF rfl
    · refine J_iconst hX (-1 : Int32) dX6_costOf_22 ic_m1 ?_
      refine J_goto hX 39 dX6_costOf_23 (by decide) ?_
      exact J_ireturn hX dX6_costOf_39 h hF rfl
  · refine J_iconst hX (1 : Int32) dX6_costOf_10 ic_1 ?_
    exact J_ireturn hX dX6_costOf_11 h hF rfl
theorem c_X6_costOf {G : GG} {l : Launch} {ρ : Nat → Nat} {n t u w v : Nat} {x : Option Nat} (hn : 126 ≤ n) {a : Nat} (ha : isSt a) {x1 : Int32} {m : Mm} {rE : Int32} {mE : Mm} (h : f_X6_costOf a x1 m = some (rE, mE)) : CT G l yX6_costOf cX6_costOf 2 (some .int) 2 0 0 ρ n (RT t u w v x) [.ref a, .int x1] m (some (.int rE)) (RT t u w v x) mE := ct_of_J (by decide) rfl (Nat.le_of_ble_eq_true rfl) (fun X hX e1 e2 e3 e4 hQ hr hl => t_X6_costOf hX (Nat.le_refl _) hn ha ⟨by rw [hQ, e3, e4], hr, hl⟩ h)
def f_X6_load (a : Nat) (x1 : Int32) (x2 : Int32) (m : Mm) : Option (Mm) := bd2 (f_X6_diskNow a x1 m) (fun r2 m1 => (if r2 = (-1 : Int32) then some m1 else gd (inb r2 13) (gd (inb r2 13) (stI m1 (a + 3) (ix r2) ((gI m1 (a + 3) (ix r2)) + x2) (fun m3 => some m3)))))
theorem t_X6_load {X : XX} {G : GG} {ρ : Nat → Nat} {n t u w v : Nat} {x : Option Nat} {d : Nat} {a : Nat} (hX : Ok X G ρ cX6_load 4 RX6 d) (hd0 : 1 ≤ d) (hn : 126 ≤ n) (ha : isSt a) {mE : Mm} (hF : Fin' X G ρ n none none (RT t u w v x) mE) {x1 : Int32} {x2 : Int32} {m : Mm} (h : f_X6_load a x1 x2 m = some mE) : J X G ρ n 4 0 [(0, .ref a), (1, .int x1), (2, .int x2)] [] (RT t u w v x) m := by
  unfold f_X6_load at h
  refine J_aload_n hX dX6_load_0 rfl 0 rfl ?_
  refine J_iload_n hX dX6_load_1 rfl 1 rfl ?_
  obtain ⟨r2, m1, h0, h⟩ := bd2_some h
  refine J_callVi (As := [.int x1]) (st := []) hX dX6_load_2 cw_RX6_73 (by omega) (c_X6_diskNow hn ha h0) (ltn (lt_isSt_0 ha) hn) (lo_isSt_0 ha) (by decide) rfl rfl rfl (Nat.le_of_ble_eq_true rfl) ?_
  clear h0
  refine J_istore_n hX [(3, .int r2), (0, .ref a), (1, .int x1), (2, .int x2)] dX6_load_5 rfl (by decide) rfl ?_
  refine J_iload_n hX dX6_load_6 rfl 0 rfl ?_
  refine J_iconst hX (-1 : Int32) dX6_load_7 ic_m1 ?_
  refine J_icmp_eq hX 21 dX6_load_8 (by decide) h (fun c h => ?_) (fun c h => ?_)
  · exact J_return hX dX6_load_21 h hF
  · refine J_aload_n hX dX6_load_11 rfl 1 rfl ?_
    refine J_getR hX dX6_load_12 fl_RX6_18 (ltn (lt_isSt_0 ha) hn) (lo_isSt_0 ha) rfl (rt_isSt_0_4 _ _ _ _ _ ha) ?_
    refine J_iload_n hX dX6_load_15 rfl 0 rfl ?_
    refine J_dup2 hX dX6_load_16 rfl rfl ?_
    refine J_iaload hX dX6_load_17 (ltn (lt_isSt_3 ha) hn) (lay_isSt_3 ha) h (fun h => ?_)
    refine J_iload_n hX dX6_load_18 rfl 3 rfl ?_
    refine J_iadd hX dX6_load_19 ?_
    refine J_iastore hX dX6_load_20 (ltn (lt_isSt_3 ha) hn) (lay_isSt_3 ha) h (fun m3 h => ?_)
    exact J_return hX dX6_load_21 h hF
theorem c_X6_load {G : GG} {l : Launch} {ρ : Nat → Nat} {n t u w v : Nat} {x : Option Nat} (hn : 126 ≤ n) {a : Nat} (ha : isSt a) {x1 : Int32} {x2 : Int32} {m : Mm} {mE : Mm} (h : f_X6_load a x1 x2 m = some mE) : CT G l yX6_load cX6_load 4 none 1 0 0 ρ n (RT t u w v x) [.ref a, .int x1, .int x2] m none (RT t u w v x) mE := ct_of_J (by decide) rfl (Nat.le_of_ble_eq_true rfl) (fun X hX e1 e2 e3 e4 hQ hr hl => t_X6_load hX (Nat.le_refl _) hn ha ⟨by rw [hQ, e3, e4], hr, hl⟩ h)
def f_X6_loadThere_L2 (a : Nat) : Nat → Int32 → Int32 →  Mm → Option (Mm)
  | 0, _, _, _ => none
  | k + 1, v1, v2, m => gd (inb v1 40) ((if v2 < (gI m 27 (ix v1)) then bd1 (f_X6_load a ((v1 * (5 : Int32)) + v2) (1 : Int32) m) (fun m1 => f_X6_loadThere_L2 a k v1 (v2 + (1 : Int32)) m1) else some m))
theorem t_X6_loadThere_L2 {X : XX} {G : GG} {ρ : Nat → Nat} {n t u w v : Nat} {x : Option Nat} {d : Nat} {a : Nat} (hX : Ok X G ρ cX6_loadThere 3 RX6 d) (hd0 : 2 ≤ d) (hn : 126 ≤ n) (ha : isSt a) {mE : Mm} (hF : Fin' X G ρ n none none (RT t u w v x) mE) : ∀ (k : Nat) (v1 : Int32) (v2 : Int32) (m : Mm), f_X6_loadThere_L2 a k v1 v2 m = some mE → J X G ρ n 3 2 [(0, .ref a), (1, .int v1), (2, .int v2)] [] (RT t u w v x) m := by
  intro k
  induction k with
  | zero => intro _ _ _ h; rw [f_X6_loadThere_L2] at h; cases h
  | succ k ih =>
    intro v1 v2 m h
    rw [f_X6_loadThere_L2] at h
    refine J_iload_n hX dX6_loadThere_2 rfl 2 rfl ?_
    refine J_aload_n hX dX6_loadThere_3 rfl 0 rfl ?_
    refine J_getR hX dX6_loadThere_4 fl_RX6_24 (ltn (lt_isSt_0 ha) hn) (lo_isSt_0 ha) rfl (rt_isSt_0_0 _ _ _ _ _ ha) ?_
    refine J_getR hX dX6_loadThere_7 fl_RX6_61 (ltn ltc_26 hn) lo_26 rfl (rt_26_3 _ _ _ _ _) ?_
    refine J_iload_n hX dX6_loadThere_10 rfl 1 rfl ?_
    refine J_iaload hX dX6_loadThere_11 (ltn ltc_27 hn) lay_27 h (fun h => ?_)
    refine J_icmp_ge hX 31 dX6_loadThere_12 (by decide) h (fun c h => ?_) (fun c h => ?_)
    · refine J_aload_n hX dX6_loadThere_15 rfl 0 rfl ?_
      refine J_iload_n hX dX6_loadThere_16 rfl 1 rfl ?_
      refine J_iconst hX (5 : Int32) dX6_loadThere_17 ic_5 ?_
      refine J_imul hX dX6_loadThere_18 ?_
      refine J_iload_n hX dX6_loadThere_19 rfl 2 rfl ?_
      refine J_iadd hX dX6_loadThere_20 ?_
      refine J_iconst hX (1 : Int32) dX6_loadThere_21 ic_1 ?_
      obtain ⟨m1, h0, h⟩ := bd1_some h
      refine J_callVv (As := [.int ((v1 * (5 : Int32)) + v2), .int (1 : Int32)]) (st := []) hX dX6_loadThere_22 cw_RX6_89 (by omega) (c_X6_load hn ha h0) (ltn (lt_isSt_0 ha) hn) (lo_isSt_0 ha) (by decide) rfl rfl rfl (Nat.le_of_ble_eq_true rfl) ?_
      clear h0
      refine J_iinc hX (v2 + (1 : Int32)) [(2, .int (v2 + (1 : Int32))), (0, .ref a), (1, .int v1)] dX6_loadThere_25 2 rfl (congrArg (fun z => v2 + z) ic_1) (by decide) rfl ?_
      refine J_goto hX 2 dX6_loadThere_28 (by decide) ?_
      refine J_sub [(0, .ref a), (1, .int v1), (2, .int (v2 + (1 : Int32)))] [1, 2, 0] rfl ?_
      exact ih v1 (v2 + (1 : Int32)) m1 h
    · exact J_return hX dX6_loadThere_31 h hF
def f_X6_loadThere (a : Nat) (x1 : Int32) (m : Mm) : Option (Mm) := f_X6_loadThere_L2 a FU x1 (0 : Int32)  m
theorem t_X6_loadThere {X : XX} {G : GG} {ρ : Nat → Nat} {n t u w v : Nat} {x : Option Nat} {d : Nat} {a : Nat} (hX : Ok X G ρ cX6_loadThere 3 RX6 d) (hd0 : 2 ≤ d) (hn : 126 ≤ n) (ha : isSt a) {mE : Mm} (hF : Fin' X G ρ n none none (RT t u w v x) mE) {x1 : Int32} {m : Mm} (h : f_X6_loadThere a x1 m = some mE) : J X G ρ n 3 0 [(0, .ref a), (1, .int x1)] [] (RT t u w v x) m := by
  unfold f_X6_loadThere at h
  refine J_iconst hX (0 : Int32) dX6_loadThere_0 ic_0 ?_
  refine J_istore_n hX [(2, .int (0 : Int32)), (0, .ref a), (1, .int x1)] dX6_loadThere_1 rfl (by decide) rfl ?_
  refine J_sub [(0, .ref a), (1, .int x1), (2, .int (0 : Int32))] [1, 2, 0] rfl ?_
  exact t_X6_loadThere_L2 hX hd0 hn ha hF FU x1 (0 : Int32)  m h
theorem c_X6_loadThere {G : GG} {l : Launch} {ρ : Nat → Nat} {n t u w v : Nat} {x : Option Nat} (hn : 126 ≤ n) {a : Nat} (ha : isSt a) {x1 : Int32} {m : Mm} {mE : Mm} (h : f_X6_loadThere a x1 m = some mE) : CT G l yX6_loadThere cX6_loadThere 3 none 2 0 0 ρ n (RT t u w v x) [.ref a, .int x1] m none (RT t u w v x) mE := ct_of_J (by decide) rfl (Nat.le_of_ble_eq_true rfl) (fun X hX e1 e2 e3 e4 hQ hr hl => t_X6_loadThere hX (Nat.le_refl _) hn ha ⟨by rw [hQ, e3, e4], hr, hl⟩ h)
def f_X6_priceOf (a : Nat) (x1 : Int32) (m : Mm) : Option (Int32 × Mm) := bd2 (f_X6_isDead a (x1 / (5 : Int32)) m) (fun r2 m1 => (if r2 = 0 then gd (inb x1 200) ((if (gI m1 (a + 1) (ix x1)) = (2 : Int32) then gd (inb (x1 / (5 : Int32)) 40) (some (((gI m1 27 (ix (x1 / (5 : Int32)))) - (1 : Int32)), m1)) else gd (inb (x1 / (5 : Int32)) 40) (gd (inb (((x1 / (5 : Int32)) * (5 : Int32)) + (gI m1 28 (ix (x1 / (5 : Int32))))) 200) ((if (gI m1 (a + 1) (ix (((x1 / (5 : Int32)) * (5 : Int32)) + (gI m1 28 (ix (x1 / (5 : Int32))))))) = (2 : Int32) then some ((1 : Int32), m1) else some ((4 : Int32), m1)))))) else some ((-1 : Int32), m1)))
theorem t_X6_priceOf {X : XX} {G : GG} {ρ : Nat → Nat} {n t u w v : Nat} {x : Option Nat} {d : Nat} {a : Nat} (hX : Ok X G ρ cX6_priceOf 3 RX6 d) (hd0 : 2 ≤ d) (hn : 126 ≤ n) (ha : isSt a) {rE : Int32} {mE : Mm} (hF : Fin' X G ρ n (some .int) (some (.int rE)) (RT t u w v x) mE) {x1 : Int32} {m : Mm} (h : f_X6_priceOf a x1 m = some (rE, mE)) : J X G ρ n 3 0 [(0, .ref a), (1, .int x1)] [] (RT t u w v x) m := by
  unfold f_X6_priceOf at h
  refine J_iload_n hX dX6_priceOf_0 rfl 1 rfl ?_
  refine J_iconst hX (5 : Int32) dX6_priceOf_1 ic_5 ?_
  refine J_idiv0 hX dX6_priceOf_2 (by decide) ?_
  refine J_istore_n hX [(2, .int (x1 / (5 : Int32))), (0, .ref a), (1, .int x1)] dX6_priceOf_3 rfl (by decide) rfl ?_
  refine J_aload_n hX dX6_priceOf_4 rfl 1 rfl ?_
  refine J_iload_n hX dX6_priceOf_5 rfl 0 rfl ?_
  obtain ⟨r2, m1, h0, h⟩ := bd2_some h
  refine J_callVi (As := [.int (x1 / (5 : Int32))]) (st := []) hX dX6_priceOf_6 cw_RX6_85 (by omega) (c_X6_isDead hn ha h0) (ltn (lt_isSt_0 ha) hn) (lo_isSt_0 ha) (by decide) rfl rfl rfl (Nat.le_of_ble_eq_true rfl) ?_
  clear h0
  refine J_if_eq hX 14 dX6_priceOf_9 (by decide) h (fun c h => ?_) (fun c h => ?_)
  · refine J_aload_n hX dX6_priceOf_14 rfl 1 rfl ?_
    refine J_getR hX dX6_priceOf_15 fl_RX6_9 (ltn (lt_isSt_0 ha) hn) (lo_isSt_0 ha) rfl (rt_isSt_0_2 _ _ _ _ _ ha) ?_
    refine J_iload_n hX dX6_priceOf_18 rfl 2 rfl ?_
    refine J_iaload hX dX6_priceOf_19 (ltn (lt_isSt_1 ha) hn) (lay_isSt_1 ha) h (fun h => ?_)
    refine J_iconst hX (2 : Int32) dX6_priceOf_20 ic_2 ?_
    refine J_icmp_ne hX 36 dX6_priceOf_21 (by decide) h (fun c h => ?_) (fun c h => ?_)
    · refine J_aload_n hX dX6_priceOf_24 rfl 1 rfl ?_
      refine J_getR hX dX6_priceOf_25 fl_RX6_24 (ltn (lt_isSt_0 ha) hn) (lo_isSt_0 ha) rfl (rt_isSt_0_0 _ _ _ _ _ ha) ?_
      refine J_getR hX dX6_priceOf_28 fl_RX6_61 (ltn ltc_26 hn) lo_26 rfl (rt_26_3 _ _ _ _ _) ?_
      refine J_iload_n hX dX6_priceOf_31 rfl 0 rfl ?_
      refine J_iaload hX dX6_priceOf_32 (ltn ltc_27 hn) lay_27 h (fun h => ?_)
      refine J_iconst hX (1 : Int32) dX6_priceOf_33 ic_1 ?_
      refine J_isub hX dX6_priceOf_34 ?_
      exact J_ireturn hX dX6_priceOf_35 h hF rfl
    · refine J_aload_n hX dX6_priceOf_36 rfl 1 rfl ?_
      refine J_getR hX dX6_priceOf_37 fl_RX6_9 (ltn (lt_isSt_0 ha) hn) (lo_isSt_0 ha) rfl (rt_isSt_0_2 _ _ _ _ _ ha) ?_
      refine J_iload_n hX dX6_priceOf_40 rfl 0 rfl ?_
      refine J_iconst hX (5 : Int32) dX6_priceOf_41 ic_5 ?_
      refine J_imul hX dX6_priceOf_42 ?_
      refine J_aload_n hX dX6_priceOf_43 rfl 1 rfl ?_
      refine J_getR hX dX6_priceOf_44 fl_RX6_24 (ltn (lt_isSt_0 ha) hn) (lo_isSt_0 ha) rfl (rt_isSt_0_0 _ _ _ _ _ ha) ?_
      refine J_getR hX dX6_priceOf_47 fl_RX6_82 (ltn ltc_26 hn) lo_26 rfl (rt_26_4 _ _ _ _ _) ?_
      refine J_iload_n hX dX6_priceOf_50 rfl 0 rfl ?_
      refine J_iaload hX dX6_priceOf_51 (ltn ltc_28 hn) lay_28 h (fun h => ?_)
      refine J_iadd hX dX6_priceOf_52 ?_
      refine J_iaload hX dX6_priceOf_53 (ltn (lt_isSt_1 ha) hn) (lay_isSt_1 ha) h (fun h => ?_)
      refine J_iconst hX (2 : Int32) dX6_priceOf_54 ic_2 ?_
      refine J_icmp_ne hX 62 dX6_priceOf_55 (by decide) h (fun c h => ?_) (fun c h => ?_)
      · refine J_iconst hX (1 : Int32) dX6_priceOf_58 ic_1 ?_
        refine J_goto hX 63 dX6_priceOf_59 (by decide) ?_
        exact J_ireturn hX dX6_priceOf_63 h hF rfl
      · refine J_iconst hX (4 : Int32) dX6_priceOf_62 ic_4 ?_
        exact J_ireturn hX dX6_priceOf_63 h hF rfl
  · refine J_iconst hX (-1 : Int32) dX6_priceOf_12 ic_m1 ?_
    exact J_ireturn hX dX6_priceOf_13 h hF rfl
theorem c_X6_priceOf {G : GG} {l : Launch} {ρ : Nat → Nat} {n t u w v : Nat} {x : Option Nat} (hn : 126 ≤ n) {a : Nat} (ha : isSt a) {x1 : Int32} {m : Mm} {rE : Int32} {mE : Mm} (h : f_X6_priceOf a x1 m = some (rE, mE)) : CT G l yX6_priceOf cX6_priceOf 3 (some .int) 2 0 0 ρ n (RT t u w v x) [.ref a, .int x1] m (some (.int rE)) (RT t u w v x) mE := ct_of_J (by decide) rfl (Nat.le_of_ble_eq_true rfl) (fun X hX e1 e2 e3 e4 hQ hr hl => t_X6_priceOf hX (Nat.le_refl _) hn ha ⟨by rw [hQ, e3, e4], hr, hl⟩ h)
def f_X6_onlyLost_L8 (a : Nat) : Nat → Int32 → Int32 → Int32 →  Mm → Option (Int32 × Mm)
  | 0, _, _, _, _ => none
  | k + 1, v1, v2, v3, m => (if v3 < (5 : Int32) then (if v2 = ((1 : Int32) <<< (v3 &&& 31)) then some (((v1 * (5 : Int32)) + v3), m) else f_X6_onlyLost_L8 a k v1 v2 (v3 + (1 : Int32)) m) else some ((-1 : Int32), m))
theorem t_X6_onlyLost_L8 {X : XX} {G : GG} {ρ : Nat → Nat} {n t u w v : Nat} {x : Option Nat} {d : Nat} {a : Nat} (hX : Ok X G ρ cX6_onlyLost 4 RX6 d) (hd0 : 1 ≤ d) (hn : 126 ≤ n) (ha : isSt a) {rE : Int32} {mE : Mm} (hF : Fin' X G ρ n (some .int) (some (.int rE)) (RT t u w v x) mE) : ∀ (k : Nat) (v1 : Int32) (v2 : Int32) (v3 : Int32) (m : Mm), f_X6_onlyLost_L8 a k v1 v2 v3 m = some (rE, mE) → J X G ρ n 4 8 [(1, .int v1), (2, .int v2), (3, .int v3)] [] (RT t u w v x) m := by
  intro k
  induction k with
  | zero => intro _ _ _ _ h; rw [f_X6_onlyLost_L8] at h; cases h
  | succ k ih =>
    intro v1 v2 v3 m h
    rw [f_X6_onlyLost_L8] at h
    refine J_iload_n hX dX6_onlyLost_8 rfl 2 rfl ?_
    refine J_iconst hX (5 : Int32) dX6_onlyLost_9 ic_5 ?_
    refine J_icmp_ge hX 32 dX6_onlyLost_10 (by decide) h (fun c h => ?_) (fun c h => ?_)
    · refine J_iload_n hX dX6_onlyLost_13 rfl 1 rfl ?_
      refine J_iconst hX (1 : Int32) dX6_onlyLost_14 ic_1 ?_
      refine J_iload_n hX dX6_onlyLost_15 rfl 2 rfl ?_
      refine J_ishl hX dX6_onlyLost_16 ?_
      refine J_icmp_ne hX 26 dX6_onlyLost_17 (by decide) h (fun c h => ?_) (fun c h => ?_)
      · refine J_iload_n hX dX6_onlyLost_20 rfl 0 rfl ?_
        refine J_iconst hX (5 : Int32) dX6_onlyLost_21 ic_5 ?_
        refine J_imul hX dX6_onlyLost_22 ?_
        refine J_iload_n hX dX6_onlyLost_23 rfl 2 rfl ?_
        refine J_iadd hX dX6_onlyLost_24 ?_
        exact J_ireturn hX dX6_onlyLost_25 h hF rfl
      · refine J_iinc hX (v3 + (1 : Int32)) [(3, .int (v3 + (1 : Int32))), (1, .int v1), (2, .int v2)] dX6_onlyLost_26 2 rfl (congrArg (fun z => v3 + z) ic_1) (by decide) rfl ?_
        refine J_goto hX 8 dX6_onlyLost_29 (by decide) ?_
        refine J_sub [(1, .int v1), (2, .int v2), (3, .int (v3 + (1 : Int32)))] [1, 2, 0] rfl ?_
        exact ih v1 v2 (v3 + (1 : Int32)) m h
    · refine J_iconst hX (-1 : Int32) dX6_onlyLost_32 ic_m1 ?_
      exact J_ireturn hX dX6_onlyLost_33 h hF rfl
def f_X6_onlyLost (a : Nat) (x1 : Int32) (m : Mm) : Option (Int32 × Mm) := bd2 (f_X6_lostBits a x1 m) (fun r2 m1 => f_X6_onlyLost_L8 a FU x1 r2 (0 : Int32)  m1)
theorem t_X6_onlyLost {X : XX} {G : GG} {ρ : Nat → Nat} {n t u w v : Nat} {x : Option Nat} {d : Nat} {a : Nat} (hX : Ok X G ρ cX6_onlyLost 4 RX6 d) (hd0 : 1 ≤ d) (hn : 126 ≤ n) (ha : isSt a) {rE : Int32} {mE : Mm} (hF : Fin' X G ρ n (some .int) (some (.int rE)) (RT t u w v x) mE) {x1 : Int32} {m : Mm} (h : f_X6_onlyLost a x1 m = some (rE, mE)) : J X G ρ n 4 0 [(0, .ref a), (1, .int x1)] [] (RT t u w v x) m := by
  unfold f_X6_onlyLost at h
  refine J_aload_n hX dX6_onlyLost_0 rfl 0 rfl ?_
  refine J_iload_n hX dX6_onlyLost_1 rfl 1 rfl ?_
  obtain ⟨r2, m1, h0, h⟩ := bd2_some h
  refine J_callVi (As := [.int x1]) (st := []) hX dX6_onlyLost_2 cw_RX6_64 (by omega) (c_X6_lostBits hn ha h0) (ltn (lt_isSt_0 ha) hn) (lo_isSt_0 ha) (by decide) rfl rfl rfl (Nat.le_of_ble_eq_true rfl) ?_
  clear h0
  refine J_istore_n hX [(2, .int r2), (0, .ref a), (1, .int x1)] dX6_onlyLost_5 rfl (by decide) rfl ?_
  refine J_iconst hX (0 : Int32) dX6_onlyLost_6 ic_0 ?_
  refine J_istore_n hX [(3, .int (0 : Int32)), (2, .int r2), (0, .ref a), (1, .int x1)] dX6_onlyLost_7 rfl (by decide) rfl ?_
  refine J_sub [(1, .int x1), (2, .int r2), (3, .int (0 : Int32))] [3, 1, 0] rfl ?_
  exact t_X6_onlyLost_L8 hX hd0 hn ha hF FU x1 r2 (0 : Int32)  m1 h
theorem c_X6_onlyLost {G : GG} {l : Launch} {ρ : Nat → Nat} {n t u w v : Nat} {x : Option Nat} (hn : 126 ≤ n) {a : Nat} (ha : isSt a) {x1 : Int32} {m : Mm} {rE : Int32} {mE : Mm} (h : f_X6_onlyLost a x1 m = some (rE, mE)) : CT G l yX6_onlyLost cX6_onlyLost 4 (some .int) 1 0 0 ρ n (RT t u w v x) [.ref a, .int x1] m (some (.int rE)) (RT t u w v x) mE := ct_of_J (by decide) rfl (Nat.le_of_ble_eq_true rfl) (fun X hX e1 e2 e3 e4 hQ hr hl => t_X6_onlyLost hX (Nat.le_refl _) hn ha ⟨by rw [hQ, e3, e4], hr, hl⟩ h)
def f_X6_rebuiltTo (a : Nat) (x1 : Int32) (m : Mm) : Option (Int32 × Mm) := gd (inb x1 200) (bd2 (f_X6_isUp a (gI m 33 (ix x1)) m) (fun r2 m1 => (if r2 = 0 then gd (inb (x1 / (5 : Int32)) 40) (bd2 (f_X6_isUp a (gI m1 30 (ix (x1 / (5 : Int32)))) m1) (fun r4 m3 => (if r4 = 0 then some ((2 : Int32), m3) else bd2 (f_X6_awayUnit a (x1 / (5 : Int32)) m3) (fun r6 m5 => (if r6 = (-1 : Int32) then some ((1 : Int32), m5) else some ((2 : Int32), m5)))))) else some ((0 : Int32), m1))))
theorem t_X6_rebuiltTo {X : XX} {G : GG} {ρ : Nat → Nat} {n t u w v : Nat} {x : Option Nat} {d : Nat} {a : Nat} (hX : Ok X G ρ cX6_rebuiltTo 3 RX6 d) (hd0 : 1 ≤ d) (hn : 126 ≤ n) (ha : isSt a) {rE : Int32} {mE : Mm} (hF : Fin' X G ρ n (some .int) (some (.int rE)) (RT t u w v x) mE) {x1 : Int32} {m : Mm} (h : f_X6_rebuiltTo a x1 m = some (rE, mE)) : J X G ρ n 3 0 [(0, .ref a), (1, .int x1)] [] (RT t u w v x) m := by
  unfold f_X6_rebuiltTo at h
  refine J_aload_n hX dX6_rebuiltTo_0 rfl 0 rfl ?_
  refine J_aload_n hX dX6_rebuiltTo_1 rfl 0 rfl ?_
  refine J_getR hX dX6_rebuiltTo_2 fl_RX6_24 (ltn (lt_isSt_0 ha) hn) (lo_isSt_0 ha) rfl (rt_isSt_0_0 _ _ _ _ _ ha) ?_
  refine J_getR hX dX6_rebuiltTo_5 fl_RX6_49 (ltn ltc_26 hn) lo_26 rfl (rt_26_9 _ _ _ _ _) ?_
  refine J_iload_n hX dX6_rebuiltTo_8 rfl 1 rfl ?_
  refine J_iaload hX dX6_rebuiltTo_9 (ltn ltc_33 hn) lay_33 h (fun h => ?_)
  obtain ⟨r2, m1, h0, h⟩ := bd2_some h
  refine J_callVi (As := [.int (gI m 33 (ix x1))]) (st := []) hX dX6_rebuiltTo_10 cw_RX6_106 (by omega) (c_X6_isUp hn ha h0) (ltn (lt_isSt_0 ha) hn) (lo_isSt_0 ha) (by decide) rfl rfl rfl (Nat.le_of_ble_eq_true rfl) ?_
  clear h0
  refine J_if_eq hX 18 dX6_rebuiltTo_13 (by decide) h (fun c h => ?_) (fun c h => ?_)
  · refine J_iload_n hX dX6_rebuiltTo_18 rfl 1 rfl ?_
    refine J_iconst hX (5 : Int32) dX6_rebuiltTo_19 ic_5 ?_
    refine J_idiv0 hX dX6_rebuiltTo_20 (by decide) ?_
    refine J_istore_n hX [(2, .int (x1 / (5 : Int32))), (0, .ref a), (1, .int x1)] dX6_rebuiltTo_21 rfl (by decide) rfl ?_
    refine J_aload_n hX dX6_rebuiltTo_22 rfl 1 rfl ?_
    refine J_aload_n hX dX6_rebuiltTo_23 rfl 1 rfl ?_
    refine J_getR hX dX6_rebuiltTo_24 fl_RX6_24 (ltn (lt_isSt_0 ha) hn) (lo_isSt_0 ha) rfl (rt_isSt_0_0 _ _ _ _ _ ha) ?_
    refine J_getR hX dX6_rebuiltTo_27 fl_RX6_52 (ltn ltc_26 hn) lo_26 rfl (rt_26_6 _ _ _ _ _) ?_
    refine J_iload_n hX dX6_rebuiltTo_30 rfl 0 rfl ?_
    refine J_iaload hX dX6_rebuiltTo_31 (ltn ltc_30 hn) lay_30 h (fun h => ?_)
    obtain ⟨r4, m3, h0, h⟩ := bd2_some h
    refine J_callVi (As := [.int (gI m1 30 (ix (x1 / (5 : Int32))))]) (st := []) hX dX6_rebuiltTo_32 cw_RX6_106 (by omega) (c_X6_isUp hn ha h0) (ltn (lt_isSt_0 ha) hn) (lo_isSt_0 ha) (by decide) rfl rfl rfl (Nat.le_of_ble_eq_true rfl) ?_
    clear h0
    refine J_if_eq hX 51 dX6_rebuiltTo_35 (by decide) h (fun c h => ?_) (fun c h => ?_)
    · refine J_iconst hX (2 : Int32) dX6_rebuiltTo_51 ic_2 ?_
      exact J_ireturn hX dX6_rebuiltTo_52 h hF rfl
    · refine J_aload_n hX dX6_rebuiltTo_38 rfl 1 rfl ?_
      refine J_iload_n hX dX6_rebuiltTo_39 rfl 0 rfl ?_
      obtain ⟨r6, m5, h0, h⟩ := bd2_some h
      refine J_callVi (As := [.int (x1 / (5 : Int32))]) (st := []) hX dX6_rebuiltTo_40 cw_RX6_115 (by omega) (c_X6_awayUnit hn ha h0) (ltn (lt_isSt_0 ha) hn) (lo_isSt_0 ha) (by decide) rfl rfl rfl (Nat.le_of_ble_eq_true rfl) ?_
      clear h0
      refine J_iconst hX (-1 : Int32) dX6_rebuiltTo_43 ic_m1 ?_
      refine J_icmp_ne hX 51 dX6_rebuiltTo_44 (by decide) h (fun c h => ?_) (fun c h => ?_)
      · refine J_iconst hX (1 : Int32) dX6_rebuiltTo_47 ic_1 ?_
        refine J_goto hX 52 dX6_rebuiltTo_48 (by decide) ?_
        exact J_ireturn hX dX6_rebuiltTo_52 h hF rfl
      · refine J_iconst hX (2 : Int32) dX6_rebuiltTo_51 ic_2 ?_
        exact J_ireturn hX dX6_rebuiltTo_52 h hF rfl
  · refine J_iconst hX (0 : Int32) dX6_rebuiltTo_16 ic_0 ?_
    exact J_ireturn hX dX6_rebuiltTo_17 h hF rfl
theorem c_X6_rebuiltTo {G : GG} {l : Launch} {ρ : Nat → Nat} {n t u w v : Nat} {x : Option Nat} (hn : 126 ≤ n) {a : Nat} (ha : isSt a) {x1 : Int32} {m : Mm} {rE : Int32} {mE : Mm} (h : f_X6_rebuiltTo a x1 m = some (rE, mE)) : CT G l yX6_rebuiltTo cX6_rebuiltTo 3 (some .int) 1 0 0 ρ n (RT t u w v x) [.ref a, .int x1] m (some (.int rE)) (RT t u w v x) mE := ct_of_J (by decide) rfl (Nat.le_of_ble_eq_true rfl) (fun X hX e1 e2 e3 e4 hQ hr hl => t_X6_rebuiltTo hX (Nat.le_refl _) hn ha ⟨by rw [hQ, e3, e4], hr, hl⟩ h)
