def f_X6_isUp (a : Nat) (x1 : Int32) (m : Mm) : Option (Int32 × Mm) := (if x1 < 0 then some ((0 : Int32), m) else (if (((gI m a 1) >>> (x1 &&& 31)) &&& (1 : Int32)) = 0 then some ((0 : Int32), m) else some ((1 : Int32), m)))
theorem t_X6_isUp {X : XX} {G : GG} {ρ : Nat → Nat} {n t u w v : Nat} {x : Option Nat} {d : Nat} {a : Nat} (hX : Ok X G ρ cX6_isUp 2 RX6 d) (hd0 : 0 ≤ d) (hn : 126 ≤ n) (ha : isSt a) {rE : Int32} {mE : Mm} (hF : Fin' X G ρ n (some .boolean) (some (.int rE)) (RT t u w v x) mE) {x1 : Int32} {m : Mm} (h : f_X6_isUp a x1 m = some (rE, mE)) : J X G ρ n 2 0 [(0, .ref a), (1, .int x1)] [] (RT t u w v x) m := by
  unfold f_X6_isUp at h
  refine J_iload_n hX dX6_isUp_0 rfl 1 rfl ?_
  refine J_if_lt hX 19 dX6_isUp_1 (by decide) h (fun c h => ?_) (fun c h => ?_)
  · refine J_iconst hX (0 : Int32) dX6_isUp_19 ic_0 ?_
    exact J_ireturn hX dX6_isUp_20 h hF narrow_b0
  · refine J_aload_n hX dX6_isUp_4 rfl 0 rfl ?_
    refine J_getI hX dX6_isUp_5 fl_RX6_34 (ltn (lt_isSt_0 ha) hn) (lo_isSt_0 ha) rfl ?_
    refine J_iload_n hX dX6_isUp_8 rfl 1 rfl ?_
    refine J_ishr hX dX6_isUp_9 ?_
    refine J_iconst hX (1 : Int32) dX6_isUp_10 ic_1 ?_
    refine J_iand hX dX6_isUp_11 ?_
    refine J_if_eq hX 19 dX6_isUp_12 (by decide) h (fun c h => ?_) (fun c h => ?_)
    · refine J_iconst hX (0 : Int32) dX6_isUp_19 ic_0 ?_
      exact J_ireturn hX dX6_isUp_20 h hF narrow_b0
    · refine J_iconst hX (1 : Int32) dX6_isUp_15 ic_1 ?_
      refine J_goto hX 20 dX6_isUp_16 (by decide) ?_
      exact J_ireturn hX dX6_isUp_20 h hF narrow_b1
theorem c_X6_isUp {G : GG} {l : Launch} {ρ : Nat → Nat} {n t u w v : Nat} {x : Option Nat} (hn : 126 ≤ n) {a : Nat} (ha : isSt a) {x1 : Int32} {m : Mm} {rE : Int32} {mE : Mm} (h : f_X6_isUp a x1 m = some (rE, mE)) : CT G l yX6_isUp cX6_isUp 2 (some .boolean) 0 0 0 ρ n (RT t u w v x) [.ref a, .int x1] m (some (.int rE)) (RT t u w v x) mE := ct_of_J (by decide) rfl (Nat.le_of_ble_eq_true rfl) (fun X hX e1 e2 e3 e4 hQ hr hl => t_X6_isUp hX (Nat.le_refl _) hn ha ⟨by rw [hQ, e3, e4], hr, hl⟩ h)
def f_X6_lostBits_L4 (a : Nat) : Nat → Int32 → Int32 → Int32 →  Mm → Option (Int32 × Mm)
  | 0, _, _, _, _ => none
  | k + 1, v1, v2, v3, m => gd (inb v1 40) ((if v3 < (gI m 27 (ix v1)) then gd (inb ((v1 * (5 : Int32)) + v3) 200) ((if (gI m (a + 1) (ix ((v1 * (5 : Int32)) + v3))) = (2 : Int32) then f_X6_lostBits_L4 a k v1 (v2 ||| ((1 : Int32) <<< (v3 &&& 31))) (v3 + (1 : Int32)) m else f_X6_lostBits_L4 a k v1 v2 (v3 + (1 : Int32)) m)) else some (v2, m)))
theorem t_X6_lostBits_L4 {X : XX} {G : GG} {ρ : Nat → Nat} {n t u w v : Nat} {x : Option Nat} {d : Nat} {a : Nat} (hX : Ok X G ρ cX6_lostBits 4 RX6 d) (hd0 : 0 ≤ d) (hn : 126 ≤ n) (ha : isSt a) {rE : Int32} {mE : Mm} (hF : Fin' X G ρ n (some .int) (some (.int rE)) (RT t u w v x) mE) : ∀ (k : Nat) (v1 : Int32) (v2 : Int32) (v3 : Int32) (m : Mm), f_X6_lostBits_L4 a k v1 v2 v3 m = some (rE, mE) → J X G ρ n 4 4 [(0, .ref a), (1, .int v1), (2, .int v2), (3, .int v3)] [] (RT t u w v x) m := by
  intro k
  induction k with
  | zero => intro _ _ _ _ h; rw [f_X6_lostBits_L4] at h; cases h
  | succ k ih =>
    intro v1 v2 v3 m h
    rw [f_X6_lostBits_L4] at h
    refine J_iload_n hX dX6_lostBits_4 rfl 3 rfl ?_
    refine J_aload_n hX dX6_lostBits_5 rfl 0 rfl ?_
    refine J_getR hX dX6_lostBits_6 fl_RX6_24 (ltn (lt_isSt_0 ha) hn) (lo_isSt_0 ha) rfl (rt_isSt_0_0 _ _ _ _ _ ha) ?_
    refine J_getR hX dX6_lostBits_9 fl_RX6_61 (ltn lt_26 hn) lo_26 rfl (rt_26_3 _ _ _ _ _) ?_
    refine J_iload_n hX dX6_lostBits_12 rfl 1 rfl ?_
    refine J_iaload hX dX6_lostBits_13 (ltn lt_27 hn) lay_27 h (fun h => ?_)
    refine J_icmp_ge hX 43 dX6_lostBits_14 (by decide) h (fun c h => ?_) (fun c h => ?_)
    · refine J_aload_n hX dX6_lostBits_17 rfl 0 rfl ?_
      refine J_getR hX dX6_lostBits_18 fl_RX6_9 (ltn (lt_isSt_0 ha) hn) (lo_isSt_0 ha) rfl (rt_isSt_0_2 _ _ _ _ _ ha) ?_
      refine J_iload_n hX dX6_lostBits_21 rfl 1 rfl ?_
      refine J_iconst hX (5 : Int32) dX6_lostBits_22 ic_5 ?_
      refine J_imul hX dX6_lostBits_23 ?_
      refine J_iload_n hX dX6_lostBits_24 rfl 3 rfl ?_
      refine J_iadd hX dX6_lostBits_25 ?_
      refine J_iaload hX dX6_lostBits_26 (ltn (lt_isSt_1 ha) hn) (lay_isSt_1 ha) h (fun h => ?_)
      refine J_iconst hX (2 : Int32) dX6_lostBits_27 ic_2 ?_
      refine J_icmp_ne hX 37 dX6_lostBits_28 (by decide) h (fun c h => ?_) (fun c h => ?_)
      · refine J_iload_n hX dX6_lostBits_31 rfl 2 rfl ?_
        refine J_iconst hX (1 : Int32) dX6_lostBits_32 ic_1 ?_
        refine J_iload_n hX dX6_lostBits_33 rfl 3 rfl ?_
        refine J_ishl hX dX6_lostBits_34 ?_
        refine J_ior hX dX6_lostBits_35 ?_
        refine J_istore_n hX [(2, .int (v2 ||| ((1 : Int32) <<< (v3 &&& 31)))), (0, .ref a), (1, .int v1), (3, .int v3)] dX6_lostBits_36 rfl (by decide) rfl ?_
        refine J_iinc hX (v3 + (1 : Int32)) [(3, .int (v3 + (1 : Int32))), (2, .int (v2 ||| ((1 : Int32) <<< (v3 &&& 31)))), (0, .ref a), (1, .int v1)] dX6_lostBits_37 3 rfl (congrArg (fun z => v3 + z) ic_1) (by decide) rfl ?_
        refine J_goto hX 4 dX6_lostBits_40 (by decide) ?_
        refine J_sub [(0, .ref a), (1, .int v1), (2, .int (v2 ||| ((1 : Int32) <<< (v3 &&& 31)))), (3, .int (v3 + (1 : Int32)))] [2, 3, 1, 0] rfl ?_
        exact ih v1 (v2 ||| ((1 : Int32) <<< (v3 &&& 31))) (v3 + (1 : Int32)) m h
      · refine J_iinc hX (v3 + (1 : Int32)) [(3, .int (v3 + (1 : Int32))), (0, .ref a), (1, .int v1), (2, .int v2)] dX6_lostBits_37 3 rfl (congrArg (fun z => v3 + z) ic_1) (by decide) rfl ?_
        refine J_goto hX 4 dX6_lostBits_40 (by decide) ?_
        refine J_sub [(0, .ref a), (1, .int v1), (2, .int v2), (3, .int (v3 + (1 : Int32)))] [1, 2, 3, 0] rfl ?_
        exact ih v1 v2 (v3 + (1 : Int32)) m h
    · refine J_iload_n hX dX6_lostBits_43 rfl 2 rfl ?_
      exact J_ireturn hX dX6_lostBits_44 h hF rfl
def f_X6_lostBits (a : Nat) (x1 : Int32) (m : Mm) : Option (Int32 × Mm) := f_X6_lostBits_L4 a FU x1 (0 : Int32) (0 : Int32)  m
theorem t_X6_lostBits {X : XX} {G : GG} {ρ : Nat → Nat} {n t u w v : Nat} {x : Option Nat} {d : Nat} {a : Nat} (hX : Ok X G ρ cX6_lostBits 4 RX6 d) (hd0 : 0 ≤ d) (hn : 126 ≤ n) (ha : isSt a) {rE : Int32} {mE : Mm} (hF : Fin' X G ρ n (some .int) (some (.int rE)) (RT t u w v x) mE) {x1 : Int32} {m : Mm} (h : f_X6_lostBits a x1 m = some (rE, mE)) : J X G ρ n 4 0 [(0, .ref a), (1, .int x1)] [] (RT t u w v x) m := by
  unfold f_X6_lostBits at h
  refine J_iconst hX (0 : Int32) dX6_lostBits_0 ic_0 ?_
  refine J_istore_n hX [(2, .int (0 : Int32)), (0, .ref a), (1, .int x1)] dX6_lostBits_1 rfl (by decide) rfl ?_
  refine J_iconst hX (0 : Int32) dX6_lostBits_2 ic_0 ?_
  refine J_istore_n hX [(3, .int (0 : Int32)), (2, .int (0 : Int32)), (0, .ref a), (1, .int x1)] dX6_lostBits_3 rfl (by decide) rfl ?_
  refine J_sub [(0, .ref a), (1, .int x1), (2, .int (0 : Int32)), (3, .int (0 : Int32))] [2, 3, 1, 0] rfl ?_
  exact t_X6_lostBits_L4 hX hd0 hn ha hF FU x1 (0 : Int32) (0 : Int32)  m h
theorem c_X6_lostBits {G : GG} {l : Launch} {ρ : Nat → Nat} {n t u w v : Nat} {x : Option Nat} (hn : 126 ≤ n) {a : Nat} (ha : isSt a) {x1 : Int32} {m : Mm} {rE : Int32} {mE : Mm} (h : f_X6_lostBits a x1 m = some (rE, mE)) : CT G l yX6_lostBits cX6_lostBits 4 (some .int) 0 0 0 ρ n (RT t u w v x) [.ref a, .int x1] m (some (.int rE)) (RT t u w v x) mE := ct_of_J (by decide) rfl (Nat.le_of_ble_eq_true rfl) (fun X hX e1 e2 e3 e4 hQ hr hl => t_X6_lostBits hX (Nat.le_refl _) hn ha ⟨by rw [hQ, e3, e4], hr, hl⟩ h)
def f_X6_isDead (a : Nat) (x1 : Int32) (m : Mm) : Option (Int32 × Mm) := bd2 (f_X6_lostBits a x1 m) (fun r2 m1 => (if (r2 &&& (r2 - (1 : Int32))) = 0 then some ((0 : Int32), m1) else some ((1 : Int32), m1)))
theorem t_X6_isDead {X : XX} {G : GG} {ρ : Nat → Nat} {n t u w v : Nat} {x : Option Nat} {d : Nat} {a : Nat} (hX : Ok X G ρ cX6_isDead 3 RX6 d) (hd0 : 1 ≤ d) (hn : 126 ≤ n) (ha : isSt a) {rE : Int32} {mE : Mm} (hF : Fin' X G ρ n (some .boolean) (some (.int rE)) (RT t u w v x) mE) {x1 : Int32} {m : Mm} (h : f_X6_isDead a x1 m = some (rE, mE)) : J X G ρ n 3 0 [(0, .ref a), (1, .int x1)] [] (RT t u w v x) m := by
  unfold f_X6_isDead at h
  refine J_aload_n hX dX6_isDead_0 rfl 0 rfl ?_
  refine J_iload_n hX dX6_isDead_1 rfl 1 rfl ?_
  obtain ⟨r2, m1, h0, h⟩ := bd2_some h
  refine J_callVi (As := [.int x1]) (st := []) hX dX6_isDead_2 cw_RX6_64 (by omega) (c_X6_lostBits hn ha h0) (ltn (lt_isSt_0 ha) hn) (lo_isSt_0 ha) (by decide) rfl rfl rfl (Nat.le_of_ble_eq_true rfl) ?_
  clear h0
  refine J_istore_n hX [(2, .int r2), (0, .ref a), (1, .int x1)] dX6_isDead_5 rfl (by decide) rfl ?_
  refine J_iload_n hX dX6_isDead_6 rfl 0 rfl ?_
  refine J_iload_n hX dX6_isDead_7 rfl 0 rfl ?_
  refine J_iconst hX (1 : Int32) dX6_isDead_8 ic_1 ?_
  refine J_isub hX dX6_isDead_9 ?_
  refine J_iand hX dX6_isDead_10 ?_
  refine J_if_eq hX 18 dX6_isDead_11 (by decide) h (fun c h => ?_) (fun c h => ?_)
  · refine J_iconst hX (0 : Int32) dX6_isDead_18 ic_0 ?_
    exact J_ireturn hX dX6_isDead_19 h hF narrow_b0
  · refine J_iconst hX (1 : Int32) dX6_isDead_14 ic_1 ?_
    refine J_goto hX 19 dX6_isDead_15 (by decide) ?_
    exact J_ireturn hX dX6_isDead_19 h hF narrow_b1
theorem c_X6_isDead {G : GG} {l : Launch} {ρ : Nat → Nat} {n t u w v : Nat} {x : Option Nat} (hn : 126 ≤ n) {a : Nat} (ha : isSt a) {x1 : Int32} {m : Mm} {rE : Int32} {mE : Mm} (h : f_X6_isDead a x1 m = some (rE, mE)) : CT G l yX6_isDead cX6_isDead 3 (some .boolean) 1 0 0 ρ n (RT t u w v x) [.ref a, .int x1] m (some (.int rE)) (RT t u w v x) mE := ct_of_J (by decide) rfl (Nat.le_of_ble_eq_true rfl) (fun X hX e1 e2 e3 e4 hQ hr hl => t_X6_isDead hX (Nat.le_refl _) hn ha ⟨by rw [hQ, e3, e4], hr, hl⟩ h)
def f_X6_costOf (a : Nat) (x1 : Int32) (m : Mm) : Option (Int32 × Mm) := gd (inb x1 200) ((if (gI m (a + 1) (ix x1)) = (2 : Int32) then bd2 (f_X6_isDead a (x1 / (5 : Int32)) m) (fun r2 m1 => (if r2 = 0 then gd (inb (x1 / (5 : Int32)) 40) (some (((gI m1 27 (ix (x1 / (5 : Int32)))) - (1 : Int32)), m1)) else some ((-1 : Int32), m1))) else some ((1 : Int32), m)))
theorem t_X6_costOf {X : XX} {G : GG} {ρ : Nat → Nat} {n t u w v : Nat} {x : Option Nat} {d : Nat} {a : Nat} (hX : Ok X G ρ cX6_costOf 2 RX6 d) (hd0 : 2 ≤ d) (hn : 126 ≤ n) (ha : isSt a) {rE : Int32} {mE : Mm} (hF : Fin' X G ρ n (some .int) (some (.int rE)) (RT t u w v x) mE) {x1 : Int32} {m : Mm} (h : f_X6_costOf a x1 m = some (rE, mE)) : J X G ρ n 2 0 [(0, .ref a), (1, .int x1)] [] (RT t u w v x) m := by
  unfold f_X6_costOf at h
  refine J_aload_n hX dX6_costOf_0 rfl 0 rfl ?_
  refine J_getR hX dX6_costOf_1 fl_RX6_9 (ltn (lt_isSt_0 ha) hn) (lo_isSt_0 ha) rfl (rt_isSt_0_2 _ _ _ _ _ ha) ?_
  refine J_iload_n hX dX6_costOf_4 rfl 1 rfl ?_
  refine J_iaload hX dX6_costOf_5 (ltn (lt_isSt_1 ha) hn) (lay_isSt_1 ha) h (fun h => ?_)
  refine J_iconst hX (2 : Int32) dX6_costOf_6 ic_2 ?_
  refine J_icmp_eq hX 12 dX6_costOf_7 (by decide) h (fun c h => ?_) (fun c h => ?_)
  · refine J_aload_n hX dX6_costOf_12 rfl 0 rfl ?_
    refine J_iload_n hX dX6_costOf_13 rfl 1 rfl ?_
    refine J_iconst hX (5 : Int32) dX6_costOf_14 ic_5 ?_
    refine J_idiv0 hX dX6_costOf_15 (by decide) ?_
    obtain ⟨r2, m1, h0, h⟩ := bd2_some h
    refine J_callVi (As := [.int (x1 / (5 : Int32))]) (st := []) hX dX6_costOf_16 cw_RX6_85 (by omega) (c_X6_isDead hn ha h0) (ltn (lt_isSt_0 ha) hn) (lo_isSt_0 ha) (by decide) rfl rfl rfl (Nat.le_of_ble_eq_true rfl) ?_
    clear h0
    refine J_if_eq hX 26 dX6_costOf_19 (by decide) h (fun c h => ?_) (fun c h => ?_)
    · refine J_aload_n hX dX6_costOf_26 rfl 0 rfl ?_
      refine J_getR hX dX6_costOf_27 fl_RX6_24 (ltn (lt_isSt_0 ha) hn) (lo_isSt_0 ha) rfl (rt_isSt_0_0 _ _ _ _ _ ha) ?_
      refine J_getR hX dX6_costOf_30 fl_RX6_61 (ltn lt_26 hn) lo_26 rfl (rt_26_3 _ _ _ _ _) ?_
      refine J_iload_n hX dX6_costOf_33 rfl 1 rfl ?_
      refine J_iconst hX (5 : Int32) dX6_costOf_34 ic_5 ?_
      refine J_idiv0 hX dX6_costOf_35 (by decide) ?_
      refine J_iaload hX dX6_costOf_36 (ltn lt_27 hn) lay_27 h (fun h => ?_)
      refine J_iconst hX (1 : Int32) dX6_costOf_37 ic_1 ?_
      refine J_isub hX dX6_costOf_38 ?_
      exact J_ireturn hX dX6_costOf_39 h hF rfl
    · refine J_iconst hX (-1 : Int32) dX6_costOf_22 ic_m1 ?_
      refine J_goto hX 39 dX6_costOf_23 (by decide) ?_
      exact J_ireturn hX dX6_costOf_39 h hF rfl
  · refine J_iconst hX (1 : Int32) dX6_costOf_10 ic_1 ?_
    exact J_ireturn hX dX6_costOf_11 h hF rfl
theorem c_X6_costOf {G : GG} {l : Launch} {ρ : Nat → Nat} {n t u w v : Nat} {x : Option Nat} (hn : 126 ≤ n) {a : Nat} (ha : isSt a) {x1 : Int32} {m : Mm} {rE : Int32} {mE : Mm} (h : f_X6_costOf a x1 m = some (rE, mE)) : CT G l yX6_costOf cX6_costOf 2 (some .int) 2 0 0 ρ n (RT t u w v x) [.ref a, .int x1] m (some (.int rE)) (RT t u w v x) mE := ct_of_J (by decide) rfl (Nat.le_of_ble_eq_true rfl) (fun X hX e1 e2 e3 e4 hQ hr hl => t_X6_costOf hX (Nat.le_refl _) hn ha ⟨by rw [hQ, e3, e4], hr, hl⟩ h)
def f_X6_unitsThat_L18 (a : Nat) (v1 : Int32) (v3 : Int32) (K : Int32 → Mm → Option (Int32 × Mm)) : Nat → Int32 → Int32 → Mm → Option (Int32 × Mm)
  | 0, _, _, _ => none
  | k + 1, v2, v4, m => gd (inb v3 40) ((if v4 < (gI m 27 (ix v3)) then gd (inb ((v3 * (5 : Int32)) + v4) 200) ((if (gI m (a + 1) (ix ((v3 * (5 : Int32)) + v4))) = v1 then f_X6_unitsThat_L18 a v1 v3 K k (v2 + (1 : Int32)) (v4 + (1 : Int32)) m else f_X6_unitsThat_L18 a v1 v3 K k v2 (v4 + (1 : Int32)) m)) else K v2 m))
theorem t_X6_unitsThat_L18 {X : XX} {G : GG} {ρ : Nat → Nat} {n t u w v : Nat} {x : Option Nat} {d : Nat} {a : Nat} (hX : Ok X G ρ cX6_unitsThat 5 RX6 d) (hd0 : 0 ≤ d) (hn : 126 ≤ n) (ha : isSt a) {rE : Int32} {mE : Mm} (hF : Fin' X G ρ n (some .int) (some (.int rE)) (RT t u w v x) mE) {v1 : Int32} {v3 : Int32} {K : Int32 → Mm → Option (Int32 × Mm)} (hK : ∀ (w2 : Int32) (m : Mm), K w2 m = some (rE, mE) → J X G ρ n 5 56 [(0, .ref a), (1, .int v1), (2, .int w2), (3, .int v3)] [] (RT t u w v x) m) : ∀ (k : Nat) (v2 : Int32) (v4 : Int32) (m : Mm), f_X6_unitsThat_L18 a v1 v3 K k v2 v4 m = some (rE, mE) → J X G ρ n 5 18 [(0, .ref a), (1, .int v1), (2, .int v2), (3, .int v3), (4, .int v4)] [] (RT t u w v x) m := by
  intro k
  induction k with
  | zero => intro _ _ _ h; rw [f_X6_unitsThat_L18] at h; cases h
  | succ k ih =>
    intro v2 v4 m h
    rw [f_X6_unitsThat_L18] at h
    refine J_iload hX dX6_unitsThat_18 4 rfl ?_
    refine J_aload_n hX dX6_unitsThat_20 rfl 0 rfl ?_
    refine J_getR hX dX6_unitsThat_21 fl_RX6_24 (ltn (lt_isSt_0 ha) hn) (lo_isSt_0 ha) rfl (rt_isSt_0_0 _ _ _ _ _ ha) ?_
    refine J_getR hX dX6_unitsThat_24 fl_RX6_61 (ltn lt_26 hn) lo_26 rfl (rt_26_3 _ _ _ _ _) ?_
    refine J_iload_n hX dX6_unitsThat_27 rfl 3 rfl ?_
    refine J_iaload hX dX6_unitsThat_28 (ltn lt_27 hn) lay_27 h (fun h => ?_)
    refine J_icmp_ge hX 56 dX6_unitsThat_29 (by decide) h (fun c h => ?_) (fun c h => ?_)
    · refine J_aload_n hX dX6_unitsThat_32 rfl 0 rfl ?_
      refine J_getR hX dX6_unitsThat_33 fl_RX6_9 (ltn (lt_isSt_0 ha) hn) (lo_isSt_0 ha) rfl (rt_isSt_0_2 _ _ _ _ _ ha) ?_
      refine J_iload_n hX dX6_unitsThat_36 rfl 3 rfl ?_
      refine J_iconst hX (5 : Int32) dX6_unitsThat_37 ic_5 ?_
      refine J_imul hX dX6_unitsThat_38 ?_
      refine J_iload hX dX6_unitsThat_39 4 rfl ?_
      refine J_iadd hX dX6_unitsThat_41 ?_
      refine J_iaload hX dX6_unitsThat_42 (ltn (lt_isSt_1 ha) hn) (lay_isSt_1 ha) h (fun h => ?_)
      refine J_iload_n hX dX6_unitsThat_43 rfl 1 rfl ?_
      refine J_icmp_ne hX 50 dX6_unitsThat_44 (by decide) h (fun c h => ?_) (fun c h => ?_)
      · refine J_iinc hX (v2 + (1 : Int32)) [(2, .int (v2 + (1 : Int32))), (0, .ref a), (1, .int v1), (3, .int v3), (4, .int v4)] dX6_unitsThat_47 2 rfl (congrArg (fun z => v2 + z) ic_1) (by decide) rfl ?_
        refine J_iinc hX (v4 + (1 : Int32)) [(4, .int (v4 + (1 : Int32))), (2, .int (v2 + (1 : Int32))), (0, .ref a), (1, .int v1), (3, .int v3)] dX6_unitsThat_50 4 rfl (congrArg (fun z => v4 + z) ic_1) (by decide) rfl ?_
        refine J_goto hX 18 dX6_unitsThat_53 (by decide) ?_
        refine J_sub [(0, .ref a), (1, .int v1), (2, .int (v2 + (1 : Int32))), (3, .int v3), (4, .int (v4 + (1 : Int32)))] [2, 3, 1, 4, 0] rfl ?_
        exact ih (v2 + (1 : Int32)) (v4 + (1 : Int32)) m h
      · refine J_iinc hX (v4 + (1 : Int32)) [(4, .int (v4 + (1 : Int32))), (0, .ref a), (1, .int v1), (2, .int v2), (3, .int v3)] dX6_unitsThat_50 4 rfl (congrArg (fun z => v4 + z) ic_1) (by decide) rfl ?_
        refine J_goto hX 18 dX6_unitsThat_53 (by decide) ?_
        refine J_sub [(0, .ref a), (1, .int v1), (2, .int v2), (3, .int v3), (4, .int (v4 + (1 : Int32)))] [1, 2, 3, 4, 0] rfl ?_
        exact ih v2 (v4 + (1 : Int32)) m h
    · refine J_sub [(0, .ref a), (1, .int v1), (2, .int v2), (3, .int v3)] [0, 1, 2, 3] rfl ?_
      exact hK v2 m h
def f_X6_unitsThat_L4 (a : Nat) : Nat → Int32 → Int32 → Int32 →  Mm → Option (Int32 × Mm)
  | 0, _, _, _, _ => none
  | k + 1, v1, v2, v3, m => (if v3 < (gI m 26 1) then f_X6_unitsThat_L18 a v1 v3 (fun w1 m2 => f_X6_unitsThat_L4 a k v1 w1 (v3 + (1 : Int32)) m2) FU v2 (0 : Int32) m else some (v2, m))
theorem t_X6_unitsThat_L4 {X : XX} {G : GG} {ρ : Nat → Nat} {n t u w v : Nat} {x : Option Nat} {d : Nat} {a : Nat} (hX : Ok X G ρ cX6_unitsThat 5 RX6 d) (hd0 : 0 ≤ d) (hn : 126 ≤ n) (ha : isSt a) {rE : Int32} {mE : Mm} (hF : Fin' X G ρ n (some .int) (some (.int rE)) (RT t u w v x) mE) : ∀ (k : Nat) (v1 : Int32) (v2 : Int32) (v3 : Int32) (m : Mm), f_X6_unitsThat_L4 a k v1 v2 v3 m = some (rE, mE) → J X G ρ n 5 4 [(0, .ref a), (1, .int v1), (2, .int v2), (3, .int v3)] [] (RT t u w v x) m := by
  intro k
  induction k with
  | zero => intro _ _ _ _ h; rw [f_X6_unitsThat_L4] at h; cases h
  | succ k ih =>
    intro v1 v2 v3 m h
    rw [f_X6_unitsThat_L4] at h
    refine J_iload_n hX dX6_unitsThat_4 rfl 3 rfl ?_
    refine J_aload_n hX dX6_unitsThat_5 rfl 0 rfl ?_
    refine J_getR hX dX6_unitsThat_6 fl_RX6_24 (ltn (lt_isSt_0 ha) hn) (lo_isSt_0 ha) rfl (rt_isSt_0_0 _ _ _ _ _ ha) ?_
    refine J_getI hX dX6_unitsThat_9 fl_RX6_76 (ltn lt_26 hn) lo_26 rfl ?_
    refine J_icmp_ge hX 62 dX6_unitsThat_12 (by decide) h (fun c h => ?_) (fun c h => ?_)
    · refine J_iconst hX (0 : Int32) dX6_unitsThat_15 ic_0 ?_
      refine J_istore hX [(4, .int (0 : Int32)), (0, .ref a), (1, .int v1), (2, .int v2), (3, .int v3)] dX6_unitsThat_16 (by decide) rfl ?_
      refine J_sub [(0, .ref a), (1, .int v1), (2, .int v2), (3, .int v3), (4, .int (0 : Int32))] [1, 2, 3, 4, 0] rfl ?_
      refine t_X6_unitsThat_L18 hX hd0 hn ha hF (fun w1 m2 h => ?_) FU v2 (0 : Int32) m h
      refine J_iinc hX (v3 + (1 : Int32)) [(3, .int (v3 + (1 : Int32))), (0, .ref a), (1, .int v1), (2, .int w1)] dX6_unitsThat_56 3 rfl (congrArg (fun z => v3 + z) ic_1) (by decide) rfl ?_
      refine J_goto hX 4 dX6_unitsThat_59 (by decide) ?_
      refine J_sub [(0, .ref a), (1, .int v1), (2, .int w1), (3, .int (v3 + (1 : Int32)))] [1, 2, 3, 0] rfl ?_
      exact ih v1 w1 (v3 + (1 : Int32)) m2 h
    · refine J_iload_n hX dX6_unitsThat_62 rfl 2 rfl ?_
      exact J_ireturn hX dX6_unitsThat_63 h hF rfl
def f_X6_unitsThat (a : Nat) (x1 : Int32) (m : Mm) : Option (Int32 × Mm) := f_X6_unitsThat_L4 a FU x1 (0 : Int32) (0 : Int32)  m
theorem t_X6_unitsThat {X : XX} {G : GG} {ρ : Nat → Nat} {n t u w v : Nat} {x : Option Nat} {d : Nat} {a : Nat} (hX : Ok X G ρ cX6_unitsThat 5 RX6 d) (hd0 : 0 ≤ d) (hn : 126 ≤ n) (ha : isSt a) {rE : Int32} {mE : Mm} (hF : Fin' X G ρ n (some .int) (some (.int rE)) (RT t u w v x) mE) {x1 : Int32} {m : Mm} (h : f_X6_unitsThat a x1 m = some (rE, mE)) : J X G ρ n 5 0 [(0, .ref a), (1, .int x1)] [] (RT t u w v x) m := by
  unfold f_X6_unitsThat at h
  refine J_iconst hX (0 : Int32) dX6_unitsThat_0 ic_0 ?_
  refine J_istore_n hX [(2, .int (0 : Int32)), (0, .ref a), (1, .int x1)] dX6_unitsThat_1 rfl (by decide) rfl ?_
  refine J_iconst hX (0 : Int32) dX6_unitsThat_2 ic_0 ?_
  refine J_istore_n hX [(3, .int (0 : Int32)), (2, .int (0 : Int32)), (0, .ref a), (1, .int x1)] dX6_unitsThat_3 rfl (by decide) rfl ?_
  refine J_sub [(0, .ref a), (1, .int x1), (2, .int (0 : Int32)), (3, .int (0 : Int32))] [2, 3, 1, 0] rfl ?_
  exact t_X6_unitsThat_L4 hX hd0 hn ha hF FU x1 (0 : Int32) (0 : Int32)  m h
theorem c_X6_unitsThat {G : GG} {l : Launch} {ρ : Nat → Nat} {n t u w v : Nat} {x : Option Nat} (hn : 126 ≤ n) {a : Nat} (ha : isSt a) {x1 : Int32} {m : Mm} {rE : Int32} {mE : Mm} (h : f_X6_unitsThat a x1 m = some (rE, mE)) : CT G l yX6_unitsThat cX6_unitsThat 5 (some .int) 0 0 0 ρ n (RT t u w v x) [.ref a, .int x1] m (some (.int rE)) (RT t u w v x) mE := ct_of_J (by decide) rfl (Nat.le_of_ble_eq_true rfl) (fun X hX e1 e2 e3 e4 hQ hr hl => t_X6_unitsThat hX (Nat.le_refl _) hn ha ⟨by rw [hQ, e3, e4], hr, hl⟩ h)
def f_X6_begin_L56 (a : Nat) : Nat → Int32 →  Mm → Option (Mm)
  | 0, _, _ => none
  | k + 1, v1, m => (if v1 < (13 : Int32) then gd (inb v1 13) (stI m (a + 3) (ix v1) (0 : Int32) (fun m4 => f_X6_begin_L56 a k (v1 + (1 : Int32)) m4)) else some m)
theorem t_X6_begin_L56 {X : XX} {G : GG} {ρ : Nat → Nat} {n t u w v : Nat} {x : Option Nat} {d : Nat} {a : Nat} (hX : Ok X G ρ cX6_begin 2 RX6 d) (hd0 : 0 ≤ d) (hn : 126 ≤ n) (ha : isSt a) {mE : Mm} (hF : Fin' X G ρ n none none (RT t u w v x) mE) : ∀ (k : Nat) (v1 : Int32) (m : Mm), f_X6_begin_L56 a k v1 m = some mE → J X G ρ n 2 56 [(0, .ref a), (1, .int v1)] [] (RT t u w v x) m := by
  intro k
  induction k with
  | zero => intro _ _ h; rw [f_X6_begin_L56] at h; cases h
  | succ k ih =>
    intro v1 m h
    rw [f_X6_begin_L56] at h
    refine J_iload_n hX dX6_begin_56 rfl 1 rfl ?_
    refine J_bipush hX (13 : Int32) dX6_begin_57 (by decide) ?_
    refine J_icmp_ge hX 75 dX6_begin_59 (by decide) h (fun c h => ?_) (fun c h => ?_)
    · refine J_aload_n hX dX6_begin_62 rfl 0 rfl ?_
      refine J_getR hX dX6_begin_63 fl_RX6_18 (ltn (lt_isSt_0 ha) hn) (lo_isSt_0 ha) rfl (rt_isSt_0_4 _ _ _ _ _ ha) ?_
      refine J_iload_n hX dX6_begin_66 rfl 1 rfl ?_
      refine J_iconst hX (0 : Int32) dX6_begin_67 ic_0 ?_
      refine J_iastore hX dX6_begin_68 (ltn (lt_isSt_3 ha) hn) (lay_isSt_3 ha) h (fun m4 h => ?_)
      refine J_iinc hX (v1 + (1 : Int32)) [(1, .int (v1 + (1 : Int32))), (0, .ref a)] dX6_begin_69 1 rfl (congrArg (fun z => v1 + z) ic_1) (by decide) rfl ?_
      refine J_goto hX 56 dX6_begin_72 (by decide) ?_
      refine J_sub [(0, .ref a), (1, .int (v1 + (1 : Int32)))] [1, 0] rfl ?_
      exact ih (v1 + (1 : Int32)) m4 h
    · exact J_return hX dX6_begin_75 h hF
def f_X6_begin_L27 (a : Nat) : Nat → Int32 →  Mm → Option (Mm)
  | 0, _, _ => none
  | k + 1, v1, m => (if v1 < (200 : Int32) then gd (inb v1 200) (stI m (a + 1) (ix v1) (0 : Int32) (fun m5 => gd (inb v1 200) (stI m5 (a + 2) (ix v1) (0 : Int32) (fun m6 => f_X6_begin_L27 a k (v1 + (1 : Int32)) m6)))) else f_X6_begin_L56 a FU (0 : Int32)  m)
theorem t_X6_begin_L27 {X : XX} {G : GG} {ρ : Nat → Nat} {n t u w v : Nat} {x : Option Nat} {d : Nat} {a : Nat} (hX : Ok X G ρ cX6_begin 2 RX6 d) (hd0 : 0 ≤ d) (hn : 126 ≤ n) (ha : isSt a) {mE : Mm} (hF : Fin' X G ρ n none none (RT t u w v x) mE) : ∀ (k : Nat) (v1 : Int32) (m : Mm), f_X6_begin_L27 a k v1 m = some mE → J X G ρ n 2 27 [(0, .ref a), (1, .int v1)] [] (RT t u w v x) m := by
  intro k
  induction k with
  | zero => intro _ _ h; rw [f_X6_begin_L27] at h; cases h
  | succ k ih =>
    intro v1 m h
    rw [f_X6_begin_L27] at h
    refine J_iload_n hX dX6_begin_27 rfl 1 rfl ?_
    refine J_sipush hX (200 : Int32) dX6_begin_28 (by decide) ?_
    refine J_icmp_ge hX 54 dX6_begin_31 (by decide) h (fun c h => ?_) (fun c h => ?_)
    · refine J_aload_n hX dX6_begin_34 rfl 0 rfl ?_
      refine J_getR hX dX6_begin_35 fl_RX6_9 (ltn (lt_isSt_0 ha) hn) (lo_isSt_0 ha) rfl (rt_isSt_0_2 _ _ _ _ _ ha) ?_
      refine J_iload_n hX dX6_begin_38 rfl 1 rfl ?_
      refine J_iconst hX (0 : Int32) dX6_begin_39 ic_0 ?_
      refine J_iastore hX dX6_begin_40 (ltn (lt_isSt_1 ha) hn) (lay_isSt_1 ha) h (fun m5 h => ?_)
      refine J_aload_n hX dX6_begin_41 rfl 0 rfl ?_
      refine J_getR hX dX6_begin_42 fl_RX6_15 (ltn (lt_isSt_0 ha) hn) (lo_isSt_0 ha) rfl (rt_isSt_0_3 _ _ _ _ _ ha) ?_
      refine J_iload_n hX dX6_begin_45 rfl 1 rfl ?_
      refine J_iconst hX (0 : Int32) dX6_begin_46 ic_0 ?_
      refine J_iastore hX dX6_begin_47 (ltn (lt_isSt_2 ha) hn) (lay_isSt_2 ha) h (fun m6 h => ?_)
      refine J_iinc hX (v1 + (1 : Int32)) [(1, .int (v1 + (1 : Int32))), (0, .ref a)] dX6_begin_48 1 rfl (congrArg (fun z => v1 + z) ic_1) (by decide) rfl ?_
      refine J_goto hX 27 dX6_begin_51 (by decide) ?_
      refine J_sub [(0, .ref a), (1, .int (v1 + (1 : Int32)))] [1, 0] rfl ?_
      exact ih (v1 + (1 : Int32)) m6 h
    · refine J_iconst hX (0 : Int32) dX6_begin_54 ic_0 ?_
      refine J_istore_n hX [(1, .int (0 : Int32)), (0, .ref a)] dX6_begin_55 rfl (by decide) rfl ?_
      refine J_sub [(0, .ref a), (1, .int (0 : Int32))] [1, 0] rfl ?_
      exact t_X6_begin_L56 hX hd0 hn ha hF FU (0 : Int32)  m h
def f_X6_begin (a : Nat) (m : Mm) : Option (Mm) := stI m a 1 (((1 : Int32) <<< ((gI m 26 0) &&& 31)) - (1 : Int32)) (fun m1 => stI m1 a 5 (0 : Int32) (fun m2 => stI m2 a 7 (0 : Int32) (fun m3 => f_X6_begin_L27 a FU (0 : Int32)  m3)))
theorem t_X6_begin {X : XX} {G : GG} {ρ : Nat → Nat} {n t u w v : Nat} {x : Option Nat} {d : Nat} {a : Nat} (hX : Ok X G ρ cX6_begin 2 RX6 d) (hd0 : 0 ≤ d) (hn : 126 ≤ n) (ha : isSt a) {mE : Mm} (hF : Fin' X G ρ n none none (RT t u w v x) mE) {m : Mm} (h : f_X6_begin a m = some mE) : J X G ρ n 2 0 [(0, .ref a)] [] (RT t u w v x) m := by
  unfold f_X6_begin at h
  refine J_aload_n hX dX6_begin_0 rfl 0 rfl ?_
  refine J_iconst hX (1 : Int32) dX6_begin_1 ic_1 ?_
  refine J_aload_n hX dX6_begin_2 rfl 0 rfl ?_
  refine J_getR hX dX6_begin_3 fl_RX6_24 (ltn (lt_isSt_0 ha) hn) (lo_isSt_0 ha) rfl (rt_isSt_0_0 _ _ _ _ _ ha) ?_
  refine J_getI hX dX6_begin_6 fl_RX6_28 (ltn lt_26 hn) lo_26 rfl ?_
  refine J_ishl hX dX6_begin_9 ?_
  refine J_iconst hX (1 : Int32) dX6_begin_10 ic_1 ?_
  refine J_isub hX dX6_begin_11 ?_
  refine J_putI hX dX6_begin_12 pl_RX6_34 (ltn (lt_isSt_0 ha) hn) (lo_isSt_0 ha) rfl rfl rfl h (fun m1 h => ?_)
  refine J_aload_n hX dX6_begin_15 rfl 0 rfl ?_
  refine J_iconst hX (0 : Int32) dX6_begin_16 ic_0 ?_
  refine J_putI hX dX6_begin_17 pl_RX6_37 (ltn (lt_isSt_0 ha) hn) (lo_isSt_0 ha) rfl rfl rfl h (fun m2 h => ?_)
  refine J_aload_n hX dX6_begin_20 rfl 0 rfl ?_
  refine J_iconst hX (0 : Int32) dX6_begin_21 ic_0 ?_
  refine J_putI hX dX6_begin_22 pl_RX6_40 (ltn (lt_isSt_0 ha) hn) (lo_isSt_0 ha) rfl rfl rfl h (fun m3 h => ?_)
  refine J_iconst hX (0 : Int32) dX6_begin_25 ic_0 ?_
  refine J_istore_n hX [(1, .int (0 : Int32)), (0, .ref a)] dX6_begin_26 rfl (by decide) rfl ?_
  refine J_sub [(0, .ref a), (1, .int (0 : Int32))] [1, 0] rfl ?_
  exact t_X6_begin_L27 hX hd0 hn ha hF FU (0 : Int32)  m3 h
theorem c_X6_begin {G : GG} {l : Launch} {ρ : Nat → Nat} {n t u w v : Nat} {x : Option Nat} (hn : 126 ≤ n) {a : Nat} (ha : isSt a) {m : Mm} {mE : Mm} (h : f_X6_begin a m = some mE) : CT G l yX6_begin cX6_begin 2 none 0 0 0 ρ n (RT t u w v x) [.ref a] m none (RT t u w v x) mE := ct_of_J (by decide) rfl (Nat.le_of_ble_eq_true rfl) (fun X hX e1 e2 e3 e4 hQ hr hl => t_X6_begin hX (Nat.le_refl _) hn ha ⟨by rw [hQ, e3, e4], hr, hl⟩ h)
