theorem t_X10_isStripe {X : XX} {G : GG} {ρ : Nat → Nat} {n : Nat} {x : Option Nat} {d : Nat} {t : Nat} {u : Nat} {w : Nat} {v : Nat} (hX : Ok X G ρ cX10_isStripe 2 RX10 d) (hd0 : 0 ≤ d) (hn : 126 ≤ n) (ht : isTo t) (hu : isTo u) (hw : isWk w) (hv : isWk v) {rE : Int32} {mE : Mm} (hF : Fin' X G ρ n (some .boolean) (some (.int rE)) (RT t u w v x) mE) {x1 : Int32} {m : Mm} (h : f_X10_isStripe t u w v x1 m = some (rE, mE)) : J X G ρ n 2 0 [(0, .ref 0), (1, .int x1)] [] (RT t u w v x) m := by
  unfold f_X10_isStripe at h
  refine J_iload_n hX dX10_isStripe_0 rfl 1 rfl ?_
  refine J_if_lt hX 19 dX10_isStripe_1 (by decide) h (fun c h => ?_) (fun c h => ?_)
  · refine J_iconst hX (0 : Int32) dX10_isStripe_19 ic_0 ?_
    exact J_ireturn hX dX10_isStripe_20 h hF narrow_b0
  · refine J_iload_n hX dX10_isStripe_4 rfl 1 rfl ?_
    refine J_aload_n hX dX10_isStripe_5 rfl 0 rfl ?_
    refine J_getR hX dX10_isStripe_6 fl_RX10_50 (ltn ltc_0 hn) lo_0 rfl (rt_0_6 _ _ _ _ _) ?_
    refine J_getI hX dX10_isStripe_9 fl_RX10_327 (ltn ltc_26 hn) lo_26 rfl ?_
    refine J_icmp_ge hX 19 dX10_isStripe_12 (by decide) h (fun c h => ?_) (fun c h => ?_)
    · refine J_iconst hX (1 : Int32) dX10_isStripe_15 ic_1 ?_
      refine J_goto hX 20 dX10_isStripe_16 (by decide) ?_
      exact J_ireturn hX dX10_isStripe_20 h hF narrow_b1
    · refine J_iconst hX (0 : Int32) dX10_isStripe_19 ic_0 ?_
      exact J_ireturn hX dX10_isStripe_20 h hF narrow_b0
theorem c_X10_isStripe {G : GG} {l : Launch} {ρ : Nat → Nat} {n : Nat} {x : Option Nat} (hn : 126 ≤ n) {t : Nat} {u : Nat} {w : Nat} {v : Nat} (ht : isTo t) (hu : isTo u) (hw : isWk w) (hv : isWk v) {x1 : Int32} {m : Mm} {rE : Int32} {mE : Mm} (h : f_X10_isStripe t u w v x1 m = some (rE, mE)) : CT G l yX10_isStripe cX10_isStripe 2 (some .boolean) 0 0 0 ρ n (RT t u w v x) [.ref 0, .int x1] m (some (.int rE)) (RT t u w v x) mE := ct_of_J (by decide) rfl (Nat.le_of_ble_eq_true rfl) (fun X hX e1 e2 e3 e4 hQ hr hl => t_X10_isStripe hX (Nat.le_refl _) hn ht hu hw hv ⟨by rw [hQ, e3, e4], hr, hl⟩ h)
theorem t_X6_byteOf_L31 {X : XX} {G : GG} {ρ : Nat → Nat} {n t u w v : Nat} {x : Option Nat} {d : Nat} {a : Nat} (hX : Ok X G ρ cX6_byteOf 5 RX6 d) (hd0 : 0 ≤ d) (hn : 126 ≤ n) (ha : isSt a) {rE : Int32} {mE : Mm} (hF : Fin' X G ρ n (some .int) (some (.int rE)) (RT t u w v x) mE) : ∀ (k : Nat) (v2 : Int32) (v3 : Int32) (v4 : Int32) (m : Mm), f_X6_byteOf_L31 a k v2 v3 v4 m = some (rE, mE) → J X G ρ n 5 31 [(0, .ref a), (2, .int v2), (3, .int v3), (4, .int v4)] [] (RT t u w v x) m := by
  intro k
  induction k with
  | zero => intro _ _ _ _ h; rw [f_X6_byteOf_L31] at h; cases h
  | succ k ih =>
    intro v2 v3 v4 m h
    rw [f_X6_byteOf_L31] at h
    refine J_iload hX dX6_byteOf_31 3 rfl ?_
    refine J_aload_n hX dX6_byteOf_33 rfl 0 rfl ?_
    refine J_getR hX dX6_byteOf_34 fl_RX6_24 (ltn (lt_isSt_0 ha) hn) (lo_isSt_0 ha) rfl (rt_isSt_0_0 _ _ _ _ _ ha) ?_
    refine J_getR hX dX6_byteOf_37 fl_RX6_61 (ltn ltc_26 hn) lo_26 rfl (rt_26_3 _ _ _ _ _) ?_
    refine J_iload_n hX dX6_byteOf_40 rfl 1 rfl ?_
    refine J_iaload hX dX6_byteOf_41 (ltn ltc_27 hn) lay_27 h (fun h => ?_)
    refine J_icmp_ge hX 79 dX6_byteOf_42 (by decide) h (fun c h => ?_) (fun c h => ?_)
    · refine J_iload hX dX6_byteOf_45 3 rfl ?_
      refine J_aload_n hX dX6_byteOf_47 rfl 0 rfl ?_
      refine J_getR hX dX6_byteOf_48 fl_RX6_24 (ltn (lt_isSt_0 ha) hn) (lo_isSt_0 ha) rfl (rt_isSt_0_0 _ _ _ _ _ ha) ?_
      refine J_getR hX dX6_byteOf_51 fl_RX6_82 (ltn ltc_26 hn) lo_26 rfl (rt_26_4 _ _ _ _ _) ?_
      refine J_iload_n hX dX6_byteOf_54 rfl 1 rfl ?_
      refine J_iaload hX dX6_byteOf_55 (ltn ltc_28 hn) lay_28 h (fun h => ?_)
      refine J_icmp_eq hX 73 dX6_byteOf_56 (by decide) h (fun c h => ?_) (fun c h => ?_)
      · refine J_iinc hX (v4 + (1 : Int32)) [(4, .int (v4 + (1 : Int32))), (0, .ref a), (2, .int v2), (3, .int v3)] dX6_byteOf_73 3 rfl (congrArg (fun z => v4 + z) ic_1) (by decide) rfl ?_
        refine J_goto hX 31 dX6_byteOf_76 (by decide) ?_
        refine J_sub [(0, .ref a), (2, .int v2), (3, .int v3), (4, .int (v4 + (1 : Int32)))] [1, 2, 3, 0] rfl ?_
        exact ih v2 v3 (v4 + (1 : Int32)) m h
      · refine J_iload_n hX dX6_byteOf_59 rfl 2 rfl ?_
        refine J_aload_n hX dX6_byteOf_60 rfl 0 rfl ?_
        refine J_getR hX dX6_byteOf_61 fl_RX6_15 (ltn (lt_isSt_0 ha) hn) (lo_isSt_0 ha) rfl (rt_isSt_0_3 _ _ _ _ _ ha) ?_
        refine J_iload_n hX dX6_byteOf_64 rfl 1 rfl ?_
        refine J_iconst hX (5 : Int32) dX6_byteOf_65 ic_5 ?_
        refine J_imul hX dX6_byteOf_66 ?_
        refine J_iload hX dX6_byteOf_67 3 rfl ?_
        refine J_iadd hX dX6_byteOf_69 ?_
        refine J_iaload hX dX6_byteOf_70 (ltn (lt_isSt_2 ha) hn) (lay_isSt_2 ha) h (fun h => ?_)
        refine J_ixor hX dX6_byteOf_71 ?_
        refine J_istore_n hX [(3, .int (v3 ^^^ (gI m (a + 2) (ix ((v2 * (5 : Int32)) + v4))))), (0, .ref a), (2, .int v2), (4, .int v4)] dX6_byteOf_72 rfl (by decide) rfl ?_
        refine J_iinc hX (v4 + (1 : Int32)) [(4, .int (v4 + (1 : Int32))), (3, .int (v3 ^^^ (gI m (a + 2) (ix ((v2 * (5 : Int32)) + v4))))), (0, .ref a), (2, .int v2)] dX6_byteOf_73 3 rfl (congrArg (fun z => v4 + z) ic_1) (by decide) rfl ?_
        refine J_goto hX 31 dX6_byteOf_76 (by decide) ?_
        refine J_sub [(0, .ref a), (2, .int v2), (3, .int (v3 ^^^ (gI m (a + 2) (ix ((v2 * (5 : Int32)) + v4))))), (4, .int (v4 + (1 : Int32)))] [2, 3, 1, 0] rfl ?_
        exact ih v2 (v3 ^^^ (gI m (a + 2) (ix ((v2 * (5 : Int32)) + v4)))) (v4 + (1 : Int32)) m h
    · refine J_iload_n hX dX6_byteOf_79 rfl 2 rfl ?_
      exact J_ireturn hX dX6_byteOf_80 h hF rfl
theorem t_X6_byteOf {X : XX} {G : GG} {ρ : Nat → Nat} {n t u w v : Nat} {x : Option Nat} {d : Nat} {a : Nat} (hX : Ok X G ρ cX6_byteOf 5 RX6 d) (hd0 : 0 ≤ d) (hn : 126 ≤ n) (ha : isSt a) {rE : Int32} {mE : Mm} (hF : Fin' X G ρ n (some .int) (some (.int rE)) (RT t u w v x) mE) {x1 : Int32} {m : Mm} (h : f_X6_byteOf a x1 m = some (rE, mE)) : J X G ρ n 5 0 [(0, .ref a), (1, .int x1)] [] (RT t u w v x) m := by
  unfold f_X6_byteOf at h
  refine J_iload_n hX dX6_byteOf_0 rfl 1 rfl ?_
  refine J_iconst hX (5 : Int32) dX6_byteOf_1 ic_5 ?_
  refine J_idiv0 hX dX6_byteOf_2 (by decide) ?_
  refine J_istore_n hX [(2, .int (x1 / (5 : Int32))), (0, .ref a), (1, .int x1)] dX6_byteOf_3 rfl (by decide) rfl ?_
  refine J_iload_n hX dX6_byteOf_4 rfl 2 rfl ?_
  refine J_iconst hX (5 : Int32) dX6_byteOf_5 ic_5 ?_
  refine J_irem0 hX dX6_byteOf_6 (by decide) ?_
  refine J_aload_n hX dX6_byteOf_7 rfl 1 rfl ?_
  refine J_getR hX dX6_byteOf_8 fl_RX6_24 (ltn (lt_isSt_0 ha) hn) (lo_isSt_0 ha) rfl (rt_isSt_0_0 _ _ _ _ _ ha) ?_
  refine J_getR hX dX6_byteOf_11 fl_RX6_82 (ltn ltc_26 hn) lo_26 rfl (rt_26_4 _ _ _ _ _) ?_
  refine J_iload_n hX dX6_byteOf_14 rfl 0 rfl ?_
  refine J_iaload hX dX6_byteOf_15 (ltn ltc_28 hn) lay_28 h (fun h => ?_)
  refine J_icmp_eq hX 26 dX6_byteOf_16 (by decide) h (fun c h => ?_) (fun c h => ?_)
  · refine J_iconst hX (0 : Int32) dX6_byteOf_26 ic_0 ?_
    refine J_istore_n hX [(3, .int (0 : Int32)), (2, .int (x1 / (5 : Int32))), (0, .ref a), (1, .int x1)] dX6_byteOf_27 rfl (by decide) rfl ?_
    refine J_iconst hX (0 : Int32) dX6_byteOf_28 ic_0 ?_
    refine J_istore hX [(4, .int (0 : Int32)), (3, .int (0 : Int32)), (2, .int (x1 / (5 : Int32))), (0, .ref a), (1, .int x1)] dX6_byteOf_29 (by decide) rfl ?_
    refine J_sub [(0, .ref a), (2, .int (x1 / (5 : Int32))), (3, .int (0 : Int32)), (4, .int (0 : Int32))] [3, 2, 1, 0] rfl ?_
    exact t_X6_byteOf_L31 hX hd0 hn ha hF FU (x1 / (5 : Int32)) (0 : Int32) (0 : Int32)  m h
  · refine J_aload_n hX dX6_byteOf_19 rfl 1 rfl ?_
    refine J_getR hX dX6_byteOf_20 fl_RX6_15 (ltn (lt_isSt_0 ha) hn) (lo_isSt_0 ha) rfl (rt_isSt_0_3 _ _ _ _ _ ha) ?_
    refine J_iload_n hX dX6_byteOf_23 rfl 2 rfl ?_
    refine J_iaload hX dX6_byteOf_24 (ltn (lt_isSt_2 ha) hn) (lay_isSt_2 ha) h (fun h => ?_)
    exact J_ireturn hX dX6_byteOf_25 h hF rfl
theorem c_X6_byteOf {G : GG} {l : Launch} {ρ : Nat → Nat} {n t u w v : Nat} {x : Option Nat} (hn : 126 ≤ n) {a : Nat} (ha : isSt a) {x1 : Int32} {m : Mm} {rE : Int32} {mE : Mm} (h : f_X6_byteOf a x1 m = some (rE, mE)) : CT G l yX6_byteOf cX6_byteOf 5 (some .int) 0 0 0 ρ n (RT t u w v x) [.ref a, .int x1] m (some (.int rE)) (RT t u w v x) mE := ct_of_J (by decide) rfl (Nat.le_of_ble_eq_true rfl) (fun X hX e1 e2 e3 e4 hQ hr hl => t_X6_byteOf hX (Nat.le_refl _) hn ha ⟨by rw [hQ, e3, e4], hr, hl⟩ h)
theorem t_X10_isDisk {X : XX} {G : GG} {ρ : Nat → Nat} {n : Nat} {x : Option Nat} {d : Nat} {t : Nat} {u : Nat} {w : Nat} {v : Nat} (hX : Ok X G ρ cX10_isDisk 2 RX10 d) (hd0 : 0 ≤ d) (hn : 126 ≤ n) (ht : isTo t) (hu : isTo u) (hw : isWk w) (hv : isWk v) {rE : Int32} {mE : Mm} (hF : Fin' X G ρ n (some .boolean) (some (.int rE)) (RT t u w v x) mE) {x1 : Int32} {m : Mm} (h : f_X10_isDisk t u w v x1 m = some (rE, mE)) : J X G ρ n 2 0 [(0, .ref 0), (1, .int x1)] [] (RT t u w v x) m := by
  unfold f_X10_isDisk at h
  refine J_iload_n hX dX10_isDisk_0 rfl 1 rfl ?_
  refine J_if_lt hX 19 dX10_isDisk_1 (by decide) h (fun c h => ?_) (fun c h => ?_)
  · refine J_iconst hX (0 : Int32) dX10_isDisk_19 ic_0 ?_
    exact J_ireturn hX dX10_isDisk_20 h hF narrow_b0
  · refine J_iload_n hX dX10_isDisk_4 rfl 1 rfl ?_
    refine J_aload_n hX dX10_isDisk_5 rfl 0 rfl ?_
    refine J_getR hX dX10_isDisk_6 fl_RX10_50 (ltn ltc_0 hn) lo_0 rfl (rt_0_6 _ _ _ _ _) ?_
    refine J_getI hX dX10_isDisk_9 fl_RX10_112 (ltn ltc_26 hn) lo_26 rfl ?_
    refine J_icmp_ge hX 19 dX10_isDisk_12 (by decide) h (fun c h => ?_) (fun c h => ?_)
    · refine J_iconst hX (1 : Int32) dX10_isDisk_15 ic_1 ?_
      refine J_goto hX 20 dX10_isDisk_16 (by decide) ?_
      exact J_ireturn hX dX10_isDisk_20 h hF narrow_b1
    · refine J_iconst hX (0 : Int32) dX10_isDisk_19 ic_0 ?_
      exact J_ireturn hX dX10_isDisk_20 h hF narrow_b0
theorem c_X10_isDisk {G : GG} {l : Launch} {ρ : Nat → Nat} {n : Nat} {x : Option Nat} (hn : 126 ≤ n) {t : Nat} {u : Nat} {w : Nat} {v : Nat} (ht : isTo t) (hu : isTo u) (hw : isWk w) (hv : isWk v) {x1 : Int32} {m : Mm} {rE : Int32} {mE : Mm} (h : f_X10_isDisk t u w v x1 m = some (rE, mE)) : CT G l yX10_isDisk cX10_isDisk 2 (some .boolean) 0 0 0 ρ n (RT t u w v x) [.ref 0, .int x1] m (some (.int rE)) (RT t u w v x) mE := ct_of_J (by decide) rfl (Nat.le_of_ble_eq_true rfl) (fun X hX e1 e2 e3 e4 hQ hr hl => t_X10_isDisk hX (Nat.le_refl _) hn ht hu hw hv ⟨by rw [hQ, e3, e4], hr, hl⟩ h)
theorem t_X6_unitsNow_L4 {X : XX} {G : GG} {ρ : Nat → Nat} {n t u w v : Nat} {x : Option Nat} {d : Nat} {a : Nat} (hX : Ok X G ρ cX6_unitsNow 4 RX6 d) (hd0 : 2 ≤ d) (hn : 126 ≤ n) (ha : isSt a) {rE : Int32} {mE : Mm} (hF : Fin' X G ρ n (some .int) (some (.int rE)) (RT t u w v x) mE) : ∀ (k : Nat) (v1 : Int32) (v2 : Int32) (v3 : Int32) (m : Mm), f_X6_unitsNow_L4 a k v1 v2 v3 m = some (rE, mE) → J X G ρ n 4 4 [(0, .ref a), (1, .int v1), (2, .int v2), (3, .int v3)] [] (RT t u w v x) m := by
  intro k
  induction k with
  | zero => intro _ _ _ _ h; rw [f_X6_unitsNow_L4] at h; cases h
  | succ k ih =>
    intro v1 v2 v3 m h
    rw [f_X6_unitsNow_L4] at h
    refine J_iload_n hX dX6_unitsNow_4 rfl 3 rfl ?_
    refine J_aload_n hX dX6_unitsNow_5 rfl 0 rfl ?_
    refine J_getR hX dX6_unitsNow_6 fl_RX6_24 (ltn (lt_isSt_0 ha) hn) (lo_isSt_0 ha) rfl (rt_isSt_0_0 _ _ _ _ _ ha) ?_
    refine J_getI hX dX6_unitsNow_9 fl_RX6_76 (ltn ltc_26 hn) lo_26 rfl ?_
    refine J_icmp_ge hX 33 dX6_unitsNow_12 (by decide) h (fun c h => ?_) (fun c h => ?_)
    · refine J_iload_n hX dX6_unitsNow_15 rfl 2 rfl ?_
      refine J_aload_n hX dX6_unitsNow_16 rfl 0 rfl ?_
      refine J_iload_n hX dX6_unitsNow_17 rfl 3 rfl ?_
      obtain ⟨r2, m1, h0, h⟩ := bd2_some h
      refine J_callVi (As := [.int v3]) (st := [.int v2]) hX dX6_unitsNow_18 cw_RX6_79 (by omega) (c_X6_disksNow hn ha h0) (ltn (lt_isSt_0 ha) hn) (lo_isSt_0 ha) (by decide) rfl rfl rfl (Nat.le_of_ble_eq_true rfl) ?_
      clear h0
      refine J_iload_n hX dX6_unitsNow_21 rfl 1 rfl ?_
      refine J_ishr hX dX6_unitsNow_22 ?_
      refine J_iconst hX (1 : Int32) dX6_unitsNow_23 ic_1 ?_
      refine J_iand hX dX6_unitsNow_24 ?_
      refine J_iadd hX dX6_unitsNow_25 ?_
      refine J_istore_n hX [(2, .int (v2 + ((r2 >>> (v1 &&& 31)) &&& (1 : Int32)))), (0, .ref a), (1, .int v1), (3, .int v3)] dX6_unitsNow_26 rfl (by decide) rfl ?_
      refine J_iinc hX (v3 + (1 : Int32)) [(3, .int (v3 + (1 : Int32))), (2, .int (v2 + ((r2 >>> (v1 &&& 31)) &&& (1 : Int32)))), (0, .ref a), (1, .int v1)] dX6_unitsNow_27 3 rfl (congrArg (fun z => v3 + z) ic_1) (by decide) rfl ?_
      refine J_goto hX 4 dX6_unitsNow_30 (by decide) ?_
      refine J_sub [(0, .ref a), (1, .int v1), (2, .int (v2 + ((r2 >>> (v1 &&& 31)) &&& (1 : Int32)))), (3, .int (v3 + (1 : Int32)))] [2, 3, 1, 0] rfl ?_
      exact ih v1 (v2 + ((r2 >>> (v1 &&& 31)) &&& (1 : Int32))) (v3 + (1 : Int32)) m1 h
    · refine J_iload_n hX dX6_unitsNow_33 rfl 2 rfl ?_
      exact J_ireturn hX dX6_unitsNow_34 h hF rfl
theorem t_X6_unitsNow {X : XX} {G : GG} {ρ : Nat → Nat} {n t u w v : Nat} {x : Option Nat} {d : Nat} {a : Nat} (hX : Ok X G ρ cX6_unitsNow 4 RX6 d) (hd0 : 2 ≤ d) (hn : 126 ≤ n) (ha : isSt a) {rE : Int32} {mE : Mm} (hF : Fin' X G ρ n (some .int) (some (.int rE)) (RT t u w v x) mE) {x1 : Int32} {m : Mm} (h : f_X6_unitsNow a x1 m = some (rE, mE)) : J X G ρ n 4 0 [(0, .ref a), (1, .int x1)] [] (RT t u w v x) m := by
  unfold f_X6_unitsNow at h
  refine J_iconst hX (0 : Int32) dX6_unitsNow_0 ic_0 ?_
  refine J_istore_n hX [(2, .int (0 : Int32)), (0, .ref a), (1, .int x1)] dX6_unitsNow_1 rfl (by decide) rfl ?_
  refine J_iconst hX (0 : Int32) dX6_unitsNow_2 ic_0 ?_
  refine J_istore_n hX [(3, .int (0 : Int32)), (2, .int (0 : Int32)), (0, .ref a), (1, .int x1)] dX6_unitsNow_3 rfl (by decide) rfl ?_
  refine J_sub [(0, .ref a), (1, .int x1), (2, .int (0 : Int32)), (3, .int (0 : Int32))] [2, 3, 1, 0] rfl ?_
  exact t_X6_unitsNow_L4 hX hd0 hn ha hF FU x1 (0 : Int32) (0 : Int32)  m h
theorem c_X6_unitsNow {G : GG} {l : Launch} {ρ : Nat → Nat} {n t u w v : Nat} {x : Option Nat} (hn : 126 ≤ n) {a : Nat} (ha : isSt a) {x1 : Int32} {m : Mm} {rE : Int32} {mE : Mm} (h : f_X6_unitsNow a x1 m = some (rE, mE)) : CT G l yX6_unitsNow cX6_unitsNow 4 (some .int) 2 0 0 ρ n (RT t u w v x) [.ref a, .int x1] m (some (.int rE)) (RT t u w v x) mE := ct_of_J (by decide) rfl (Nat.le_of_ble_eq_true rfl) (fun X hX e1 e2 e3 e4 hQ hr hl => t_X6_unitsNow hX (Nat.le_refl _) hn ha ⟨by rw [hQ, e3, e4], hr, hl⟩ h)
theorem t_X10_isDatum {X : XX} {G : GG} {ρ : Nat → Nat} {n : Nat} {x : Option Nat} {d : Nat} {t : Nat} {u : Nat} {w : Nat} {v : Nat} (hX : Ok X G ρ cX10_isDatum 2 RX10 d) (hd0 : 0 ≤ d) (hn : 126 ≤ n) (ht : isTo t) (hu : isTo u) (hw : isWk w) (hv : isWk v) {rE : Int32} {mE : Mm} (hF : Fin' X G ρ n (some .boolean) (some (.int rE)) (RT t u w v x) mE) {x1 : Int32} {m : Mm} (h : f_X10_isDatum t u w v x1 m = some (rE, mE)) : J X G ρ n 2 0 [(0, .ref 0), (1, .int x1)] [] (RT t u w v x) m := by
  unfold f_X10_isDatum at h
  refine J_iload_n hX dX10_isDatum_0 rfl 1 rfl ?_
  refine J_if_lt hX 19 dX10_isDatum_1 (by decide) h (fun c h => ?_) (fun c h => ?_)
  · refine J_iconst hX (0 : Int32) dX10_isDatum_19 ic_0 ?_
    exact J_ireturn hX dX10_isDatum_20 h hF narrow_b0
  · refine J_iload_n hX dX10_isDatum_4 rfl 1 rfl ?_
    refine J_aload_n hX dX10_isDatum_5 rfl 0 rfl ?_
    refine J_getR hX dX10_isDatum_6 fl_RX10_50 (ltn ltc_0 hn) lo_0 rfl (rt_0_6 _ _ _ _ _) ?_
    refine J_getI hX dX10_isDatum_9 fl_RX10_109 (ltn ltc_26 hn) lo_26 rfl ?_
    refine J_icmp_ge hX 19 dX10_isDatum_12 (by decide) h (fun c h => ?_) (fun c h => ?_)
    · refine J_iconst hX (1 : Int32) dX10_isDatum_15 ic_1 ?_
      refine J_goto hX 20 dX10_isDatum_16 (by decide) ?_
      exact J_ireturn hX dX10_isDatum_20 h hF narrow_b1
    · refine J_iconst hX (0 : Int32) dX10_isDatum_19 ic_0 ?_
      exact J_ireturn hX dX10_isDatum_20 h hF narrow_b0
theorem c_X10_isDatum {G : GG} {l : Launch} {ρ : Nat → Nat} {n : Nat} {x : Option Nat} (hn : 126 ≤ n) {t : Nat} {u : Nat} {w : Nat} {v : Nat} (ht : isTo t) (hu : isTo u) (hw : isWk w) (hv : isWk v) {x1 : Int32} {m : Mm} {rE : Int32} {mE : Mm} (h : f_X10_isDatum t u w v x1 m = some (rE, mE)) : CT G l yX10_isDatum cX10_isDatum 2 (some .boolean) 0 0 0 ρ n (RT t u w v x) [.ref 0, .int x1] m (some (.int rE)) (RT t u w v x) mE := ct_of_J (by decide) rfl (Nat.le_of_ble_eq_true rfl) (fun X hX e1 e2 e3 e4 hQ hr hl => t_X10_isDatum hX (Nat.le_refl _) hn ht hu hw hv ⟨by rw [hQ, e3, e4], hr, hl⟩ h)
theorem t_X6_perform {X : XX} {G : GG} {ρ : Nat → Nat} {n t u w v : Nat} {x : Option Nat} {d : Nat} {a : Nat} (hX : Ok X G ρ cX6_perform 4 RX6 d) (hd0 : 4 ≤ d) (hn : 126 ≤ n) (ha : isSt a) {rE : Int32} {mE : Mm} (hF : Fin' X G ρ n (some .boolean) (some (.int rE)) (RT t u w v x) mE) {x1 : Int32} {x2 : Int32} {x3 : Int32} {m : Mm} (h : f_X6_perform a x1 x2 x3 m = some (rE, mE)) : J X G ρ n 4 0 [(0, .ref a), (1, .int x1), (2, .int x2), (3, .int x3)] [] (RT t u w v x) m := by
  unfold f_X6_perform at h
  refine J_iload_n hX dX6_perform_0 rfl 1 rfl ?_
  refine J_split h (fun c0 h => ?_) (fun c0 h => ?_)
  · refine J_tabIn hX 36 (0 : Int32) dX6_perform_1 c0 (by decide) (by decide) (by decide) (by decide) ?_
    refine J_aload_n hX dX6_perform_36 rfl 0 rfl ?_
    refine J_iload_n hX dX6_perform_37 rfl 2 rfl ?_
    obtain ⟨r2, m1, h0, h⟩ := bd2_some h
    refine J_callVi (As := [.int x2]) (st := []) hX dX6_perform_38 cw_RX6_118 (by omega) (c_X6_readDatum hn ha h0) (ltn (lt_isSt_0 ha) hn) (lo_isSt_0 ha) (by decide) rfl rfl rfl (Nat.le_of_ble_eq_true rfl) ?_
    clear h0
    obtain ⟨gB, h⟩ := gd_some h
    exact J_ireturn hX dX6_perform_41 h hF (isB_nar gB)
  · refine J_split h (fun c1 h => ?_) (fun c1 h => ?_)
    · refine J_tabIn hX 42 (1 : Int32) dX6_perform_1 c1 (by decide) (by decide) (by decide) (by decide) ?_
      refine J_aload_n hX dX6_perform_42 rfl 0 rfl ?_
      refine J_iload_n hX dX6_perform_43 rfl 2 rfl ?_
      refine J_iload_n hX dX6_perform_44 rfl 3 rfl ?_
      obtain ⟨r4, m3, h0, h⟩ := bd2_some h
      refine J_callVi (As := [.int x2, .int x3]) (st := []) hX dX6_perform_45 cw_RX6_121 (by omega) (c_X6_writeDatum hn ha h0) (ltn (lt_isSt_0 ha) hn) (lo_isSt_0 ha) (by decide) rfl rfl rfl (Nat.le_of_ble_eq_true rfl) ?_
      clear h0
      refine J_iconst hX (-1 : Int32) dX6_perform_48 ic_m1 ?_
      refine J_icmp_eq hX 56 dX6_perform_49 (by decide) h (fun c h => ?_) (fun c h => ?_)
      · refine J_iconst hX (0 : Int32) dX6_perform_56 ic_0 ?_
        exact J_ireturn hX dX6_perform_57 h hF narrow_b0
      · refine J_iconst hX (1 : Int32) dX6_perform_52 ic_1 ?_
        refine J_goto hX 57 dX6_perform_53 (by decide) ?_
        exact J_ireturn hX dX6_perform_57 h hF narrow_b1
    · refine J_split h (fun c2 h => ?_) (fun c2 h => ?_)
      · refine J_tabIn hX 58 (2 : Int32) dX6_perform_1 c2 (by decide) (by decide) (by decide) (by decide) ?_
        refine J_aload_n hX dX6_perform_58 rfl 0 rfl ?_
        refine J_iload_n hX dX6_perform_59 rfl 2 rfl ?_
        obtain ⟨r6, m5, h0, h⟩ := bd2_some h
        refine J_callVi (As := [.int x2]) (st := []) hX dX6_perform_60 cw_RX6_125 (by omega) (c_X6_loseDisk hn ha h0) (ltn (lt_isSt_0 ha) hn) (lo_isSt_0 ha) (by decide) rfl rfl rfl (Nat.le_of_ble_eq_true rfl) ?_
        clear h0
        refine J_iconst hX (-1 : Int32) dX6_perform_63 ic_m1 ?_
        refine J_icmp_eq hX 71 dX6_perform_64 (by decide) h (fun c h => ?_) (fun c h => ?_)
        · refine J_iconst hX (0 : Int32) dX6_perform_71 ic_0 ?_
          exact J_ireturn hX dX6_perform_72 h hF narrow_b0
        · refine J_iconst hX (1 : Int32) dX6_perform_67 ic_1 ?_
          refine J_goto hX 72 dX6_perform_68 (by decide) ?_
          exact J_ireturn hX dX6_perform_72 h hF narrow_b1
      · refine J_split h (fun c3 h => ?_) (fun c3 h => ?_)
        · refine J_tabIn hX 73 (3 : Int32) dX6_perform_1 c3 (by decide) (by decide) (by decide) (by decide) ?_
          refine J_aload_n hX dX6_perform_73 rfl 0 rfl ?_
          refine J_iload_n hX dX6_perform_74 rfl 2 rfl ?_
          obtain ⟨r8, m7, h0, h⟩ := bd2_some h
          refine J_callVi (As := [.int x2]) (st := []) hX dX6_perform_75 cw_RX6_128 (by omega) (c_X6_replaceDisk hn ha h0) (ltn (lt_isSt_0 ha) hn) (lo_isSt_0 ha) (by decide) rfl rfl rfl (Nat.le_of_ble_eq_true rfl) ?_
          clear h0
          obtain ⟨gB, h⟩ := gd_some h
          exact J_ireturn hX dX6_perform_78 h hF (isB_nar gB)
        · refine J_split h (fun c4 h => ?_) (fun c4 h => ?_)
          · refine J_tabIn hX 79 (4 : Int32) dX6_perform_1 c4 (by decide) (by decide) (by decide) (by decide) ?_
            refine J_aload_n hX dX6_perform_79 rfl 0 rfl ?_
            refine J_iload_n hX dX6_perform_80 rfl 2 rfl ?_
            obtain ⟨r10, m9, h0, h⟩ := bd2_some h
            refine J_callVi (As := [.int x2]) (st := []) hX dX6_perform_81 cw_RX6_131 (by omega) (c_X6_rebuildUnits hn ha h0) (ltn (lt_isSt_0 ha) hn) (lo_isSt_0 ha) (by decide) rfl rfl rfl (Nat.le_of_ble_eq_true rfl) ?_
            clear h0
            refine J_pop hX dX6_perform_84 rfl ?_
            refine J_iconst hX (1 : Int32) dX6_perform_85 ic_1 ?_
            exact J_ireturn hX dX6_perform_86 h hF narrow_b1
          · refine J_tabOut hX 87 [(0 : Int32), (1 : Int32), (2 : Int32), (3 : Int32), (4 : Int32)] dX6_perform_1 (by decide) (by simp only [List.mem_cons, List.not_mem_nil, or_false, not_or]; exact ⟨c0, c1, c2, c3, c4⟩) (by decide) ?_
            refine J_aload_n hX dX6_perform_87 rfl 0 rfl ?_
            refine J_iload_n hX dX6_perform_88 rfl 2 rfl ?_
            obtain ⟨r12, m11, h0, h⟩ := bd2_some h
            refine J_callVi (As := [.int x2]) (st := []) hX dX6_perform_89 cw_RX6_134 (by omega) (c_X6_bringHome hn ha h0) (ltn (lt_isSt_0 ha) hn) (lo_isSt_0 ha) (by decide) rfl rfl rfl (Nat.le_of_ble_eq_true rfl) ?_
            clear h0
            refine J_pop hX dX6_perform_92 rfl ?_
            refine J_iconst hX (1 : Int32) dX6_perform_93 ic_1 ?_
            exact J_ireturn hX dX6_perform_94 h hF narrow_b1
theorem c_X6_perform {G : GG} {l : Launch} {ρ : Nat → Nat} {n t u w v : Nat} {x : Option Nat} (hn : 126 ≤ n) {a : Nat} (ha : isSt a) {x1 : Int32} {x2 : Int32} {x3 : Int32} {m : Mm} {rE : Int32} {mE : Mm} (h : f_X6_perform a x1 x2 x3 m = some (rE, mE)) : CT G l yX6_perform cX6_perform 4 (some .boolean) 4 0 0 ρ n (RT t u w v x) [.ref a, .int x1, .int x2, .int x3] m (some (.int rE)) (RT t u w v x) mE := ct_of_J (by decide) rfl (Nat.le_of_ble_eq_true rfl) (fun X hX e1 e2 e3 e4 hQ hr hl => t_X6_perform hX (Nat.le_refl _) hn ha ⟨by rw [hQ, e3, e4], hr, hl⟩ h)
theorem t_X6_allLoads_L4 {X : XX} {G : GG} {ρ : Nat → Nat} {n t u w v : Nat} {x : Option Nat} {d : Nat} {a : Nat} (hX : Ok X G ρ cX6_allLoads 3 RX6 d) (hd0 : 0 ≤ d) (hn : 126 ≤ n) (ha : isSt a) {rE : Int32} {mE : Mm} (hF : Fin' X G ρ n (some .int) (some (.int rE)) (RT t u w v x) mE) : ∀ (k : Nat) (v1 : Int32) (v2 : Int32) (m : Mm), f_X6_allLoads_L4 a k v1 v2 m = some (rE, mE) → J X G ρ n 3 4 [(0, .ref a), (1, .int v1), (2, .int v2)] [] (RT t u w v x) m := by
  intro k
  induction k with
  | zero => intro _ _ _ h; rw [f_X6_allLoads_L4] at h; cases h
  | succ k ih =>
    intro v1 v2 m h
    rw [f_X6_allLoads_L4] at h
    refine J_iload_n hX dX6_allLoads_4 rfl 2 rfl ?_
    refine J_aload_n hX dX6_allLoads_5 rfl 0 rfl ?_
    refine J_getR hX dX6_allLoads_6 fl_RX6_24 (ltn (lt_isSt_0 ha) hn) (lo_isSt_0 ha) rfl (rt_isSt_0_0 _ _ _ _ _ ha) ?_
    refine J_getI hX dX6_allLoads_9 fl_RX6_28 (ltn ltc_26 hn) lo_26 rfl ?_
    refine J_icmp_ge hX 30 dX6_allLoads_12 (by decide) h (fun c h => ?_) (fun c h => ?_)
    · refine J_iload_n hX dX6_allLoads_15 rfl 1 rfl ?_
      refine J_aload_n hX dX6_allLoads_16 rfl 0 rfl ?_
      refine J_getR hX dX6_allLoads_17 fl_RX6_18 (ltn (lt_isSt_0 ha) hn) (lo_isSt_0 ha) rfl (rt_isSt_0_4 _ _ _ _ _ ha) ?_
      refine J_iload_n hX dX6_allLoads_20 rfl 2 rfl ?_
      refine J_iaload hX dX6_allLoads_21 (ltn (lt_isSt_3 ha) hn) (lay_isSt_3 ha) h (fun h => ?_)
      refine J_iadd hX dX6_allLoads_22 ?_
      refine J_istore_n hX [(1, .int (v1 + (gI m (a + 3) (ix v2)))), (0, .ref a), (2, .int v2)] dX6_allLoads_23 rfl (by decide) rfl ?_
      refine J_iinc hX (v2 + (1 : Int32)) [(2, .int (v2 + (1 : Int32))), (1, .int (v1 + (gI m (a + 3) (ix v2)))), (0, .ref a)] dX6_allLoads_24 2 rfl (congrArg (fun z => v2 + z) ic_1) (by decide) rfl ?_
      refine J_goto hX 4 dX6_allLoads_27 (by decide) ?_
      refine J_sub [(0, .ref a), (1, .int (v1 + (gI m (a + 3) (ix v2)))), (2, .int (v2 + (1 : Int32)))] [2, 1, 0] rfl ?_
      exact ih (v1 + (gI m (a + 3) (ix v2))) (v2 + (1 : Int32)) m h
    · refine J_iload_n hX dX6_allLoads_30 rfl 1 rfl ?_
      exact J_ireturn hX dX6_allLoads_31 h hF rfl
theorem t_X6_allLoads {X : XX} {G : GG} {ρ : Nat → Nat} {n t u w v : Nat} {x : Option Nat} {d : Nat} {a : Nat} (hX : Ok X G ρ cX6_allLoads 3 RX6 d) (hd0 : 0 ≤ d) (hn : 126 ≤ n) (ha : isSt a) {rE : Int32} {mE : Mm} (hF : Fin' X G ρ n (some .int) (some (.int rE)) (RT t u w v x) mE) {m : Mm} (h : f_X6_allLoads a m = some (rE, mE)) : J X G ρ n 3 0 [(0, .ref a)] [] (RT t u w v x) m := by
  unfold f_X6_allLoads at h
  refine J_iconst hX (0 : Int32) dX6_allLoads_0 ic_0 ?_
  refine J_istore_n hX [(1, .int (0 : Int32)), (0, .ref a)] dX6_allLoads_1 rfl (by decide) rfl ?_
  refine J_iconst hX (0 : Int32) dX6_allLoads_2 ic_0 ?_
  refine J_istore_n hX [(2, .int (0 : Int32)), (1, .int (0 : Int32)), (0, .ref a)] dX6_allLoads_3 rfl (by decide) rfl ?_
  refine J_sub [(0, .ref a), (1, .int (0 : Int32)), (2, .int (0 : Int32))] [2, 1, 0] rfl ?_
  exact t_X6_allLoads_L4 hX hd0 hn ha hF FU (0 : Int32) (0 : Int32)  m h
theorem c_X6_allLoads {G : GG} {l : Launch} {ρ : Nat → Nat} {n t u w v : Nat} {x : Option Nat} (hn : 126 ≤ n) {a : Nat} (ha : isSt a) {m : Mm} {rE : Int32} {mE : Mm} (h : f_X6_allLoads a m = some (rE, mE)) : CT G l yX6_allLoads cX6_allLoads 3 (some .int) 0 0 0 ρ n (RT t u w v x) [.ref a] m (some (.int rE)) (RT t u w v x) mE := ct_of_J (by decide) rfl (Nat.le_of_ble_eq_true rfl) (fun X hX e1 e2 e3 e4 hQ hr hl => t_X6_allLoads hX (Nat.le_refl _) hn ha ⟨by rw [hQ, e3, e4], hr, hl⟩ h)
theorem t_X6_deadStripes_L4 {X : XX} {G : GG} {ρ : Nat → Nat} {n t u w v : Nat} {x : Option Nat} {d : Nat} {a : Nat} (hX : Ok X G ρ cX6_deadStripes 3 RX6 d) (hd0 : 2 ≤ d) (hn : 126 ≤ n) (ha : isSt a) {rE : Int32} {mE : Mm} (hF : Fin' X G ρ n (some .int) (some (.int rE)) (RT t u w v x) mE) : ∀ (k : Nat) (v1 : Int32) (v2 : Int32) (m : Mm), f_X6_deadStripes_L4 a k v1 v2 m = some (rE, mE) → J X G ρ n 3 4 [(0, .ref a), (1, .int v1), (2, .int v2)] [] (RT t u w v x) m := by
  intro k
  induction k with
  | zero => intro _ _ _ h; rw [f_X6_deadStripes_L4] at h; cases h
  | succ k ih =>
    intro v1 v2 m h
    rw [f_X6_deadStripes_L4] at h
    refine J_iload_n hX dX6_deadStripes_4 rfl 2 rfl ?_
    refine J_aload_n hX dX6_deadStripes_5 rfl 0 rfl ?_
    refine J_getR hX dX6_deadStripes_6 fl_RX6_24 (ltn (lt_isSt_0 ha) hn) (lo_isSt_0 ha) rfl (rt_isSt_0_0 _ _ _ _ _ ha) ?_
    refine J_getI hX dX6_deadStripes_9 fl_RX6_76 (ltn ltc_26 hn) lo_26 rfl ?_
    refine J_icmp_ge hX 32 dX6_deadStripes_12 (by decide) h (fun c h => ?_) (fun c h => ?_)
    · refine J_aload_n hX dX6_deadStripes_15 rfl 0 rfl ?_
      refine J_iload_n hX dX6_deadStripes_16 rfl 2 rfl ?_
      obtain ⟨r2, m1, h0, h⟩ := bd2_some h
      refine J_callVi (As := [.int v2]) (st := []) hX dX6_deadStripes_17 cw_RX6_85 (by omega) (c_X6_isDead hn ha h0) (ltn (lt_isSt_0 ha) hn) (lo_isSt_0 ha) (by decide) rfl rfl rfl (Nat.le_of_ble_eq_true rfl) ?_
      clear h0
      refine J_if_eq hX 26 dX6_deadStripes_20 (by decide) h (fun c h => ?_) (fun c h => ?_)
      · refine J_iinc hX (v2 + (1 : Int32)) [(2, .int (v2 + (1 : Int32))), (0, .ref a), (1, .int v1)] dX6_deadStripes_26 2 rfl (congrArg (fun z => v2 + z) ic_1) (by decide) rfl ?_
        refine J_goto hX 4 dX6_deadStripes_29 (by decide) ?_
        refine J_sub [(0, .ref a), (1, .int v1), (2, .int (v2 + (1 : Int32)))] [1, 2, 0] rfl ?_
        exact ih v1 (v2 + (1 : Int32)) m1 h
      · refine J_iinc hX (v1 + (1 : Int32)) [(1, .int (v1 + (1 : Int32))), (0, .ref a), (2, .int v2)] dX6_deadStripes_23 1 rfl (congrArg (fun z => v1 + z) ic_1) (by decide) rfl ?_
        refine J_iinc hX (v2 + (1 : Int32)) [(2, .int (v2 + (1 : Int32))), (1, .int (v1 + (1 : Int32))), (0, .ref a)] dX6_deadStripes_26 2 rfl (congrArg (fun z => v2 + z) ic_1) (by decide) rfl ?_
        refine J_goto hX 4 dX6_deadStripes_29 (by decide) ?_
        refine J_sub [(0, .ref a), (1, .int (v1 + (1 : Int32))), (2, .int (v2 + (1 : Int32)))] [2, 1, 0] rfl ?_
        exact ih (v1 + (1 : Int32)) (v2 + (1 : Int32)) m1 h
    · refine J_iload_n hX dX6_deadStripes_32 rfl 1 rfl ?_
      exact J_ireturn hX dX6_deadStripes_33 h hF rfl
theorem t_X6_deadStripes {X : XX} {G : GG} {ρ : Nat → Nat} {n t u w v : Nat} {x : Option Nat} {d : Nat} {a : Nat} (hX : Ok X G ρ cX6_deadStripes 3 RX6 d) (hd0 : 2 ≤ d) (hn : 126 ≤ n) (ha : isSt a) {rE : Int32} {mE : Mm} (hF : Fin' X G ρ n (some .int) (some (.int rE)) (RT t u w v x) mE) {m : Mm} (h : f_X6_deadStripes a m = some (rE, mE)) : J X G ρ n 3 0 [(0, .ref a)] [] (RT t u w v x) m := by
  unfold f_X6_deadStripes at h
  refine J_iconst hX (0 : Int32) dX6_deadStripes_0 ic_0 ?_
  refine J_istore_n hX [(1, .int (0 : Int32)), (0, .ref a)] dX6_deadStripes_1 rfl (by decide) rfl ?_
  refine J_iconst hX (0 : Int32) dX6_deadStripes_2 ic_0 ?_
  refine J_istore_n hX [(2, .int (0 : Int32)), (1, .int (0 : Int32)), (0, .ref a)] dX6_deadStripes_3 rfl (by decide) rfl ?_
  refine J_sub [(0, .ref a), (1, .int (0 : Int32)), (2, .int (0 : Int32))] [2, 1, 0] rfl ?_
  exact t_X6_deadStripes_L4 hX hd0 hn ha hF FU (0 : Int32) (0 : Int32)  m h
theorem c_X6_deadStripes {G : GG} {l : Launch} {ρ : Nat → Nat} {n t u w v : Nat} {x : Option Nat} (hn : 126 ≤ n) {a : Nat} (ha : isSt a) {m : Mm} {rE : Int32} {mE : Mm} (h : f_X6_deadStripes a m = some (rE, mE)) : CT G l yX6_deadStripes cX6_deadStripes 3 (some .int) 2 0 0 ρ n (RT t u w v x) [.ref a] m (some (.int rE)) (RT t u w v x) mE := ct_of_J (by decide) rfl (Nat.le_of_ble_eq_true rfl) (fun X hX e1 e2 e3 e4 hQ hr hl => t_X6_deadStripes hX (Nat.le_refl _) hn ha ⟨by rw [hQ, e3, e4], hr, hl⟩ h)
theorem t_X1_ofFamily_L4 {X : XX} {G : GG} {ρ : Nat → Nat} {n t u w v : Nat} {x : Option Nat} {d : Nat} {p0 : Nat} (hX : Ok X G ρ cX1_ofFamily 4 RX1 d) (hd0 : 3 ≤ d) (hn : 126 ≤ n) (hp0 : isTo p0) {rE : Int32} {mE : Mm} (hF : Fin' X G ρ n (some .int) (some (.int rE)) (RT t u w v x) mE) : ∀ (k : Nat) (v1 : Int32) (v2 : Int32) (m : Mm), f_X1_ofFamily_L4 p0 k v1 v2 m = some (rE, mE) → J X G ρ n 4 4 [(0, .ref p0), (1, .int v1), (2, .int v2)] [] (RT t u w v x) m := by
  intro k
  induction k with
  | zero => intro _ _ _ h; rw [f_X1_ofFamily_L4] at h; cases h
  | succ k ih =>
    intro v1 v2 m h
    rw [f_X1_ofFamily_L4] at h
    refine J_iload_n hX dX1_ofFamily_4 rfl 2 rfl ?_
    refine J_aload_n hX dX1_ofFamily_5 rfl 0 rfl ?_
    refine J_getI hX dX1_ofFamily_6 fl_RX1_15 (ltn (lt_isTo_0 hp0) hn) (lo_isTo_0 hp0) rfl ?_
    refine J_icmp_ge hX 43 dX1_ofFamily_9 (by decide) h (fun c h => ?_) (fun c h => ?_)
    · refine J_aload_n hX dX1_ofFamily_12 rfl 0 rfl ?_
      refine J_iload_n hX dX1_ofFamily_13 rfl 2 rfl ?_
      obtain ⟨r2, m1, h0, h⟩ := bd2_some h
      refine J_callSi (As := [.ref p0, .int v2]) (st := []) hX dX1_ofFamily_14 cw_RX1_21 (by omega) (c_X1_ofCycles hn hp0 h0) rfl rfl (Nat.le_of_ble_eq_true rfl) ?_
      clear h0
      refine J_istore_n hX [(3, .int r2), (0, .ref p0), (1, .int v1), (2, .int v2)] dX1_ofFamily_17 rfl (by decide) rfl ?_
      refine J_iload_n hX dX1_ofFamily_18 rfl 0 rfl ?_
      refine J_iconst hX (-1 : Int32) dX1_ofFamily_19 ic_m1 ?_
      refine J_icmp_eq hX 33 dX1_ofFamily_20 (by decide) h (fun c h => ?_) (fun c h => ?_)
      · refine J_iconst hX (-1 : Int32) dX1_ofFamily_33 ic_m1 ?_
        exact J_ireturn hX dX1_ofFamily_34 h hF rfl
      · refine J_iload_n hX dX1_ofFamily_23 rfl 3 rfl ?_
        refine J_iconst hX (1 : Int32) dX1_ofFamily_24 ic_1 ?_
        refine J_icmp_le hX 35 dX1_ofFamily_25 (by decide) h (fun c h => ?_) (fun c h => ?_)
        · refine J_iload_n hX dX1_ofFamily_28 rfl 0 rfl ?_
          refine J_iload_n hX dX1_ofFamily_29 rfl 2 rfl ?_
          refine J_icmp_eq hX 35 dX1_ofFamily_30 (by decide) h (fun c h => ?_) (fun c h => ?_)
          · refine J_iload_n hX dX1_ofFamily_35 rfl 0 rfl ?_
            refine J_istore_n hX [(1, .int r2), (3, .int r2), (0, .ref p0), (2, .int v2)] dX1_ofFamily_36 rfl (by decide) rfl ?_
            refine J_iinc hX (v2 + (1 : Int32)) [(2, .int (v2 + (1 : Int32))), (1, .int r2), (3, .int r2), (0, .ref p0)] dX1_ofFamily_37 3 rfl (congrArg (fun z => v2 + z) ic_1) (by decide) rfl ?_
            refine J_goto hX 4 dX1_ofFamily_40 (by decide) ?_
            refine J_sub [(0, .ref p0), (1, .int r2), (2, .int (v2 + (1 : Int32)))] [3, 1, 0] rfl ?_
            exact ih r2 (v2 + (1 : Int32)) m1 h
          · refine J_iconst hX (-1 : Int32) dX1_ofFamily_33 ic_m1 ?_
            exact J_ireturn hX dX1_ofFamily_34 h hF rfl
        · refine J_iload_n hX dX1_ofFamily_35 rfl 0 rfl ?_
          refine J_istore_n hX [(1, .int r2), (3, .int r2), (0, .ref p0), (2, .int v2)] dX1_ofFamily_36 rfl (by decide) rfl ?_
          refine J_iinc hX (v2 + (1 : Int32)) [(2, .int (v2 + (1 : Int32))), (1, .int r2), (3, .int r2), (0, .ref p0)] dX1_ofFamily_37 3 rfl (congrArg (fun z => v2 + z) ic_1) (by decide) rfl ?_
          refine J_goto hX 4 dX1_ofFamily_40 (by decide) ?_
          refine J_sub [(0, .ref p0), (1, .int r2), (2, .int (v2 + (1 : Int32)))] [3, 1, 0] rfl ?_
          exact ih r2 (v2 + (1 : Int32)) m1 h
    · refine J_iload_n hX dX1_ofFamily_43 rfl 1 rfl ?_
      exact J_ireturn hX dX1_ofFamily_44 h hF rfl
theorem t_X1_ofFamily {X : XX} {G : GG} {ρ : Nat → Nat} {n t u w v : Nat} {x : Option Nat} {d : Nat} {p0 : Nat} (hX : Ok X G ρ cX1_ofFamily 4 RX1 d) (hd0 : 3 ≤ d) (hn : 126 ≤ n) (hp0 : isTo p0) {rE : Int32} {mE : Mm} (hF : Fin' X G ρ n (some .int) (some (.int rE)) (RT t u w v x) mE) {m : Mm} (h : f_X1_ofFamily p0 m = some (rE, mE)) : J X G ρ n 4 0 [(0, .ref p0)] [] (RT t u w v x) m := by
  unfold f_X1_ofFamily at h
  refine J_iconst hX (-1 : Int32) dX1_ofFamily_0 ic_m1 ?_
  refine J_istore_n hX [(1, .int (-1 : Int32)), (0, .ref p0)] dX1_ofFamily_1 rfl (by decide) rfl ?_
  refine J_iconst hX (1 : Int32) dX1_ofFamily_2 ic_1 ?_
  refine J_istore_n hX [(2, .int (1 : Int32)), (1, .int (-1 : Int32)), (0, .ref p0)] dX1_ofFamily_3 rfl (by decide) rfl ?_
  refine J_sub [(0, .ref p0), (1, .int (-1 : Int32)), (2, .int (1 : Int32))] [2, 1, 0] rfl ?_
  exact t_X1_ofFamily_L4 hX hd0 hn hp0 hF FU (-1 : Int32) (1 : Int32)  m h
theorem c_X1_ofFamily {G : GG} {l : Launch} {ρ : Nat → Nat} {n t u w v : Nat} {x : Option Nat} (hn : 126 ≤ n) {p0 : Nat} (hp0 : isTo p0) {m : Mm} {rE : Int32} {mE : Mm} (h : f_X1_ofFamily p0 m = some (rE, mE)) : CT G l yX1_ofFamily cX1_ofFamily 4 (some .int) 3 0 0 ρ n (RT t u w v x) [.ref p0] m (some (.int rE)) (RT t u w v x) mE := ct_of_J (by decide) rfl (Nat.le_of_ble_eq_true rfl) (fun X hX e1 e2 e3 e4 hQ hr hl => t_X1_ofFamily hX (Nat.le_refl _) hn hp0 ⟨by rw [hQ, e3, e4], hr, hl⟩ h)
theorem t_X10_isUpDisk {X : XX} {G : GG} {ρ : Nat → Nat} {n : Nat} {x : Option Nat} {d : Nat} {t : Nat} {u : Nat} {w : Nat} {v : Nat} (hX : Ok X G ρ cX10_isUpDisk 2 RX10 d) (hd0 : 1 ≤ d) (hn : 126 ≤ n) (ht : isTo t) (hu : isTo u) (hw : isWk w) (hv : isWk v) {rE : Int32} {mE : Mm} (hF : Fin' X G ρ n (some .boolean) (some (.int rE)) (RT t u w v x) mE) {x1 : Int32} {m : Mm} (h : f_X10_isUpDisk t u w v x1 m = some (rE, mE)) : J X G ρ n 2 0 [(0, .ref 0), (1, .int x1)] [] (RT t u w v x) m := by
  unfold f_X10_isUpDisk at h
  refine J_aload_n hX dX10_isUpDisk_0 rfl 0 rfl ?_
  refine J_iload_n hX dX10_isUpDisk_1 rfl 1 rfl ?_
  obtain ⟨r2, m1, h0, h⟩ := bd2_some h
  refine J_callVi (As := [.int x1]) (st := []) hX dX10_isUpDisk_2 cw_RX10_170 (by omega) (c_X10_isDisk hn ht hu hw hv h0) (ltn ltc_0 hn) lo_0 (by decide) rfl rfl rfl (Nat.le_of_ble_eq_true rfl) ?_
  clear h0
  refine J_if_eq hX 23 dX10_isUpDisk_5 (by decide) h (fun c h => ?_) (fun c h => ?_)
  · refine J_iconst hX (0 : Int32) dX10_isUpDisk_23 ic_0 ?_
    exact J_ireturn hX dX10_isUpDisk_24 h hF narrow_b0
  · refine J_aload_n hX dX10_isUpDisk_8 rfl 0 rfl ?_
    refine J_getR hX dX10_isUpDisk_9 fl_RX10_62 (ltn ltc_0 hn) lo_0 rfl (rt_0_8 _ _ _ _ _) ?_
    refine J_iload_n hX dX10_isUpDisk_12 rfl 1 rfl ?_
    obtain ⟨r4, m3, h0, h⟩ := bd2_some h
    refine J_callVi (As := [.int x1]) (st := []) hX dX10_isUpDisk_13 cw_RX10_176 (by omega) (c_X6_isUp hn p_isSt_54 h0) (ltn ltc_54 hn) lo_54 (by decide) rfl rfl rfl (Nat.le_of_ble_eq_true rfl) ?_
    clear h0
    refine J_if_eq hX 23 dX10_isUpDisk_16 (by decide) h (fun c h => ?_) (fun c h => ?_)
    · refine J_iconst hX (0 : Int32) dX10_isUpDisk_23 ic_0 ?_
      exact J_ireturn hX dX10_isUpDisk_24 h hF narrow_b0
    · refine J_iconst hX (1 : Int32) dX10_isUpDisk_19 ic_1 ?_
      refine J_goto hX 24 dX10_isUpDisk_20 (by decide) ?_
      exact J_ireturn hX dX10_isUpDisk_24 h hF narrow_b1
theorem c_X10_isUpDisk {G : GG} {l : Launch} {ρ : Nat → Nat} {n : Nat} {x : Option Nat} (hn : 126 ≤ n) {t : Nat} {u : Nat} {w : Nat} {v : Nat} (ht : isTo t) (hu : isTo u) (hw : isWk w) (hv : isWk v) {x1 : Int32} {m : Mm} {rE : Int32} {mE : Mm} (h : f_X10_isUpDisk t u w v x1 m = some (rE, mE)) : CT G l yX10_isUpDisk cX10_isUpDisk 2 (some .boolean) 1 0 0 ρ n (RT t u w v x) [.ref 0, .int x1] m (some (.int rE)) (RT t u w v x) mE := ct_of_J (by decide) rfl (Nat.le_of_ble_eq_true rfl) (fun X hX e1 e2 e3 e4 hQ hr hl => t_X10_isUpDisk hX (Nat.le_refl _) hn ht hu hw hv ⟨by rw [hQ, e3, e4], hr, hl⟩ h)
theorem t_X5_readsFrom_L14 {X : XX} {G : GG} {ρ : Nat → Nat} {n t u w v : Nat} {x : Option Nat} {d : Nat} (hX : Ok X G ρ cX5_readsFrom 6 RX5 d) (hd0 : 2 ≤ d) (hn : 126 ≤ n) {rE : Int32} {mE : Mm} (hF : Fin' X G ρ n (some .int) (some (.int rE)) (RT t u w v x) mE) : ∀ (k : Nat) (v3 : Int32) (v4 : Int32) (v5 : Int32) (m : Mm), f_X5_readsFrom_L14 k v3 v4 v5 m = some (rE, mE) → J X G ρ n 6 14 [(0, .ref 76), (3, .int v3), (4, .int v4), (5, .int v5)] [] (RT t u w v x) m := by
  intro k
  induction k with
  | zero => intro _ _ _ _ h; rw [f_X5_readsFrom_L14] at h; cases h
  | succ k ih =>
    intro v3 v4 v5 m h
    rw [f_X5_readsFrom_L14] at h
    refine J_iload hX dX5_readsFrom_14 3 rfl ?_
    refine J_aload_n hX dX5_readsFrom_16 rfl 0 rfl ?_
    refine J_getR hX dX5_readsFrom_17 fl_RX5_19 (ltn ltc_76 hn) lo_76 rfl (rt_76_1 _ _ _ _ _) ?_
    refine J_getI hX dX5_readsFrom_20 fl_RX5_23 (ltn ltc_26 hn) lo_26 rfl ?_
    refine J_icmp_ge hX 62 dX5_readsFrom_23 (by decide) h (fun c h => ?_) (fun c h => ?_)
    · refine J_aload_n hX dX5_readsFrom_26 rfl 0 rfl ?_
      refine J_getR hX dX5_readsFrom_27 fl_RX5_15 (ltn ltc_76 hn) lo_76 rfl (rt_76_0 _ _ _ _ _) ?_
      refine J_iload hX dX5_readsFrom_30 3 rfl ?_
      obtain ⟨r2, m1, h0, h⟩ := bd2_some h
      refine J_callVi (As := [.int v5]) (st := []) hX dX5_readsFrom_32 cw_RX5_29 (by omega) (c_X6_lostBits hn p_isSt_54 h0) (ltn ltc_54 hn) lo_54 (by decide) rfl rfl rfl (Nat.le_of_ble_eq_true rfl) ?_
      clear h0
      refine J_if_ne hX 56 dX5_readsFrom_35 (by decide) h (fun c h => ?_) (fun c h => ?_)
      · refine J_aload_n hX dX5_readsFrom_38 rfl 0 rfl ?_
        refine J_getR hX dX5_readsFrom_39 fl_RX5_15 (ltn ltc_76 hn) lo_76 rfl (rt_76_0 _ _ _ _ _) ?_
        refine J_iload hX dX5_readsFrom_42 3 rfl ?_
        obtain ⟨r4, m3, h0, h⟩ := bd2_some h
        refine J_callVi (As := [.int v5]) (st := []) hX dX5_readsFrom_44 cw_RX5_35 (by omega) (c_X6_disksNow hn p_isSt_54 h0) (ltn ltc_54 hn) lo_54 (by decide) rfl rfl rfl (Nat.le_of_ble_eq_true rfl) ?_
        clear h0
        refine J_iload_n hX dX5_readsFrom_47 rfl 1 rfl ?_
        refine J_iand hX dX5_readsFrom_48 ?_
        refine J_iload_n hX dX5_readsFrom_49 rfl 1 rfl ?_
        refine J_icmp_ne hX 56 dX5_readsFrom_50 (by decide) h (fun c h => ?_) (fun c h => ?_)
        · refine J_iinc hX (v4 + (1 : Int32)) [(4, .int (v4 + (1 : Int32))), (0, .ref 76), (3, .int v3), (5, .int v5)] dX5_readsFrom_53 2 rfl (congrArg (fun z => v4 + z) ic_1) (by decide) rfl ?_
          refine J_iinc hX (v5 + (1 : Int32)) [(5, .int (v5 + (1 : Int32))), (4, .int (v4 + (1 : Int32))), (0, .ref 76), (3, .int v3)] dX5_readsFrom_56 3 rfl (congrArg (fun z => v5 + z) ic_1) (by decide) rfl ?_
          refine J_goto hX 14 dX5_readsFrom_59 (by decide) ?_
          refine J_sub [(0, .ref 76), (3, .int v3), (4, .int (v4 + (1 : Int32))), (5, .int (v5 + (1 : Int32)))] [2, 3, 1, 0] rfl ?_
          exact ih v3 (v4 + (1 : Int32)) (v5 + (1 : Int32)) m3 h
        · refine J_iinc hX (v5 + (1 : Int32)) [(5, .int (v5 + (1 : Int32))), (0, .ref 76), (3, .int v3), (4, .int v4)] dX5_readsFrom_56 3 rfl (congrArg (fun z => v5 + z) ic_1) (by decide) rfl ?_
          refine J_goto hX 14 dX5_readsFrom_59 (by decide) ?_
          refine J_sub [(0, .ref 76), (3, .int v3), (4, .int v4), (5, .int (v5 + (1 : Int32)))] [1, 2, 3, 0] rfl ?_
          exact ih v3 v4 (v5 + (1 : Int32)) m3 h
      · refine J_iinc hX (v5 + (1 : Int32)) [(5, .int (v5 + (1 : Int32))), (0, .ref 76), (3, .int v3), (4, .int v4)] dX5_readsFrom_56 3 rfl (congrArg (fun z => v5 + z) ic_1) (by decide) rfl ?_
        refine J_goto hX 14 dX5_readsFrom_59 (by decide) ?_
        refine J_sub [(0, .ref 76), (3, .int v3), (4, .int v4), (5, .int (v5 + (1 : Int32)))] [1, 2, 3, 0] rfl ?_
        exact ih v3 v4 (v5 + (1 : Int32)) m1 h
    · refine J_iload hX dX5_readsFrom_62 2 rfl ?_
      exact J_ireturn hX dX5_readsFrom_64 h hF rfl
theorem t_X5_readsFrom {X : XX} {G : GG} {ρ : Nat → Nat} {n t u w v : Nat} {x : Option Nat} {d : Nat} (hX : Ok X G ρ cX5_readsFrom 6 RX5 d) (hd0 : 2 ≤ d) (hn : 126 ≤ n) {rE : Int32} {mE : Mm} (hF : Fin' X G ρ n (some .int) (some (.int rE)) (RT t u w v x) mE) {x1 : Int32} {x2 : Int32} {m : Mm} (h : f_X5_readsFrom x1 x2 m = some (rE, mE)) : J X G ρ n 6 0 [(0, .ref 76), (1, .int x1), (2, .int x2)] [] (RT t u w v x) m := by
  unfold f_X5_readsFrom at h
  refine J_iconst hX (1 : Int32) dX5_readsFrom_0 ic_1 ?_
  refine J_iload_n hX dX5_readsFrom_1 rfl 2 rfl ?_
  refine J_ishl hX dX5_readsFrom_2 ?_
  refine J_iconst hX (1 : Int32) dX5_readsFrom_3 ic_1 ?_
  refine J_iload_n hX dX5_readsFrom_4 rfl 1 rfl ?_
  refine J_ishl hX dX5_readsFrom_5 ?_
  refine J_ior hX dX5_readsFrom_6 ?_
  refine J_istore_n hX [(3, .int (((1 : Int32) <<< (x2 &&& 31)) ||| ((1 : Int32) <<< (x1 &&& 31)))), (0, .ref 76), (1, .int x1), (2, .int x2)] dX5_readsFrom_7 rfl (by decide) rfl ?_
  refine J_iconst hX (0 : Int32) dX5_readsFrom_8 ic_0 ?_
  refine J_istore hX [(4, .int (0 : Int32)), (3, .int (((1 : Int32) <<< (x2 &&& 31)) ||| ((1 : Int32) <<< (x1 &&& 31)))), (0, .ref 76), (1, .int x1), (2, .int x2)] dX5_readsFrom_9 (by decide) rfl ?_
  refine J_iconst hX (0 : Int32) dX5_readsFrom_11 ic_0 ?_
  refine J_istore hX [(5, .int (0 : Int32)), (4, .int (0 : Int32)), (3, .int (((1 : Int32) <<< (x2 &&& 31)) ||| ((1 : Int32) <<< (x1 &&& 31)))), (0, .ref 76), (1, .int x1), (2, .int x2)] dX5_readsFrom_12 (by decide) rfl ?_
  refine J_sub [(0, .ref 76), (3, .int (((1 : Int32) <<< (x2 &&& 31)) ||| ((1 : Int32) <<< (x1 &&& 31)))), (4, .int (0 : Int32)), (5, .int (0 : Int32))] [3, 2, 1, 0] rfl ?_
  exact t_X5_readsFrom_L14 hX hd0 hn hF FU (((1 : Int32) <<< (x2 &&& 31)) ||| ((1 : Int32) <<< (x1 &&& 31))) (0 : Int32) (0 : Int32)  m h
theorem c_X5_readsFrom {G : GG} {l : Launch} {ρ : Nat → Nat} {n t u w v : Nat} {x : Option Nat} (hn : 126 ≤ n) {x1 : Int32} {x2 : Int32} {m : Mm} {rE : Int32} {mE : Mm} (h : f_X5_readsFrom x1 x2 m = some (rE, mE)) : CT G l yX5_readsFrom cX5_readsFrom 6 (some .int) 2 0 0 ρ n (RT t u w v x) [.ref 76, .int x1, .int x2] m (some (.int rE)) (RT t u w v x) mE := ct_of_J (by decide) rfl (Nat.le_of_ble_eq_true rfl) (fun X hX e1 e2 e3 e4 hQ hr hl => t_X5_readsFrom hX (Nat.le_refl _) hn ⟨by rw [hQ, e3, e4], hr, hl⟩ h)
theorem t_X8_pace {X : XX} {G : GG} {ρ : Nat → Nat} {n t u w v : Nat} {x : Option Nat} {d : Nat} {a : Nat} (hX : Ok X G ρ cX8_pace 1 RX8 d) (hd0 : 0 ≤ d) (hn : 126 ≤ n) (ha : isTo a) {rE : Int32} {mE : Mm} (hF : Fin' X G ρ n (some .int) (some (.int rE)) (RT t u w v x) mE) {m : Mm} (h : f_X8_pace a m = some (rE, mE)) : J X G ρ n 1 0 [(0, .ref a)] [] (RT t u w v x) m := by
  unfold f_X8_pace at h
  refine J_aload_n hX dX8_pace_0 rfl 0 rfl ?_
  refine J_getI hX dX8_pace_1 fl_RX8_32 (ltn (lt_isTo_0 ha) hn) (lo_isTo_0 ha) rfl ?_
  refine J_if_ne hX 11 dX8_pace_4 (by decide) h (fun c h => ?_) (fun c h => ?_)
  · refine J_iconst hX (4 : Int32) dX8_pace_7 ic_4 ?_
    refine J_goto hX 15 dX8_pace_8 (by decide) ?_
    exact J_ireturn hX dX8_pace_15 h hF rfl
  · refine J_aload_n hX dX8_pace_11 rfl 0 rfl ?_
    refine J_getI hX dX8_pace_12 fl_RX8_32 (ltn (lt_isTo_0 ha) hn) (lo_isTo_0 ha) rfl ?_
    exact J_ireturn hX dX8_pace_15 h hF rfl
theorem c_X8_pace {G : GG} {l : Launch} {ρ : Nat → Nat} {n t u w v : Nat} {x : Option Nat} (hn : 126 ≤ n) {a : Nat} (ha : isTo a) {m : Mm} {rE : Int32} {mE : Mm} (h : f_X8_pace a m = some (rE, mE)) : CT G l yX8_pace cX8_pace 1 (some .int) 0 0 0 ρ n (RT t u w v x) [.ref a] m (some (.int rE)) (RT t u w v x) mE := ct_of_J (by decide) rfl (Nat.le_of_ble_eq_true rfl) (fun X hX e1 e2 e3 e4 hQ hr hl => t_X8_pace hX (Nat.le_refl _) hn ha ⟨by rw [hQ, e3, e4], hr, hl⟩ h)
theorem t_X5_ticks_L25 {X : XX} {G : GG} {ρ : Nat → Nat} {n t u w v : Nat} {x : Option Nat} {d : Nat} (hX : Ok X G ρ cX5_ticks 7 RX5 d) (hd0 : 3 ≤ d) (hn : 126 ≤ n) {rE : Int32} {mE : Mm} (hF : Fin' X G ρ n (some .int) (some (.int rE)) (RT t u w v x) mE) {v1 : Int32} {v2 : Int32} {v3 : Int64} {v5 : Int32} {K : Mm → Option (Int32 × Mm)} (hK : ∀ (m : Mm), K m = some (rE, mE) → J X G ρ n 7 46 [(0, .ref 76), (1, .int v1), (2, .int v2), (3, .long v3), (5, .int v5)] [] (RT t u w v x) m) : ∀ (k : Nat) (v6 : Int32) (m : Mm), f_X5_ticks_L25 v1 v2 v3 v5 K k v6 m = some (rE, mE) → J X G ρ n 7 25 [(0, .ref 76), (1, .int v1), (2, .int v2), (3, .long v3), (5, .int v5), (6, .int v6)] [] (RT t u w v x) m := by
  intro k
  induction k with
  | zero => intro _ _ h; rw [f_X5_ticks_L25] at h; cases h
  | succ k ih =>
    intro v6 m h
    rw [f_X5_ticks_L25] at h
    refine J_iload hX dX5_ticks_25 5 rfl ?_
    refine J_bipush hX (13 : Int32) dX5_ticks_27 (by decide) ?_
    refine J_icmp_ge hX 46 dX5_ticks_29 (by decide) h (fun c h => ?_) (fun c h => ?_)
    · refine J_aload_n hX dX5_ticks_32 rfl 0 rfl ?_
      refine J_getR hX dX5_ticks_33 fl_RX5_9 (ltn ltc_76 hn) lo_76 rfl (rt_76_2 _ _ _ _ _) ?_
      refine J_iload hX dX5_ticks_36 5 rfl ?_
      refine J_iload_n hX dX5_ticks_38 rfl 2 rfl ?_
      refine J_iastore hX dX5_ticks_39 (ltn ltc_77 hn) lay_77 h (fun m3 h => ?_)
      refine J_iinc hX (v6 + (1 : Int32)) [(6, .int (v6 + (1 : Int32))), (0, .ref 76), (1, .int v1), (2, .int v2), (3, .long v3), (5, .int v5)] dX5_ticks_40 5 rfl (congrArg (fun z => v6 + z) ic_1) (by decide) rfl ?_
      refine J_goto hX 25 dX5_ticks_43 (by decide) ?_
      refine J_sub [(0, .ref 76), (1, .int v1), (2, .int v2), (3, .long v3), (5, .int v5), (6, .int (v6 + (1 : Int32)))] [1, 2, 3, 4, 5, 0] rfl ?_
      exact ih (v6 + (1 : Int32)) m3 h
    · refine J_sub [(0, .ref 76), (1, .int v1), (2, .int v2), (3, .long v3), (5, .int v5)] [0, 1, 2, 3, 4] rfl ?_
      exact hK  m h
theorem t_X5_ticks_L9 {X : XX} {G : GG} {ρ : Nat → Nat} {n t u w v : Nat} {x : Option Nat} {d : Nat} (hX : Ok X G ρ cX5_ticks 7 RX5 d) (hd0 : 3 ≤ d) (hn : 126 ≤ n) {rE : Int32} {mE : Mm} (hF : Fin' X G ρ n (some .int) (some (.int rE)) (RT t u w v x) mE) : ∀ (k : Nat) (v1 : Int32) (v2 : Int32) (v3 : Int64) (v5 : Int32) (m : Mm), f_X5_ticks_L9 k v1 v2 v3 v5 m = some (rE, mE) → J X G ρ n 7 9 [(0, .ref 76), (1, .int v1), (2, .int v2), (3, .long v3), (5, .int v5)] [] (RT t u w v x) m := by
  intro k
  induction k with
  | zero => intro _ _ _ _ _ h; rw [f_X5_ticks_L9] at h; cases h
  | succ k ih =>
    intro v1 v2 v3 v5 m h
    rw [f_X5_ticks_L9] at h
    refine J_iload hX dX5_ticks_9 4 rfl ?_
    refine J_bipush hX (40 : Int32) dX5_ticks_11 (by decide) ?_
    refine J_icmp_ge hX 59 dX5_ticks_13 (by decide) h (fun c h => ?_) (fun c h => ?_)
    · refine J_lload_n hX dX5_ticks_16 rfl 3 rfl ?_
      refine J_lconst hX (0 : Int64) dX5_ticks_17 (by decide) ?_
      refine J_lcmp hX dX5_ticks_18 ?_
      refine J_if_eq hX 59 dX5_ticks_19 (by decide) h (fun c h => ?_) (fun c h => ?_)
      · refine J_iload hX dX5_ticks_59 4 rfl ?_
        exact J_ireturn hX dX5_ticks_61 h hF rfl
      · refine J_iconst hX (0 : Int32) dX5_ticks_22 ic_0 ?_
        refine J_istore hX [(6, .int (0 : Int32)), (0, .ref 76), (1, .int v1), (2, .int v2), (3, .long v3), (5, .int v5)] dX5_ticks_23 (by decide) rfl ?_
        refine J_sub [(0, .ref 76), (1, .int v1), (2, .int v2), (3, .long v3), (5, .int v5), (6, .int (0 : Int32))] [1, 2, 3, 4, 5, 0] rfl ?_
        refine t_X5_ticks_L25 hX hd0 hn hF (fun m4 h => ?_) FU (0 : Int32) m h
        refine J_aload_n hX dX5_ticks_46 rfl 0 rfl ?_
        refine J_lload_n hX dX5_ticks_47 rfl 3 rfl ?_
        refine J_iload_n hX dX5_ticks_48 rfl 1 rfl ?_
        obtain ⟨r6, m5, h0, h⟩ := bd2_some h
        refine J_callVl (As := [.long v3, .int v1]) (st := []) hX dX5_ticks_49 cw_RX5_42 (by omega) (c_X5_afterTick hn  h0) (ltn ltc_76 hn) lo_76 (by decide) rfl rfl rfl (Nat.le_of_ble_eq_true rfl) ?_
        clear h0
        refine J_lstore_n hX [(3, .long r6), (0, .ref 76), (1, .int v1), (2, .int v2), (5, .int v5)] dX5_ticks_52 rfl (by decide) rfl ?_
        refine J_iinc hX (v5 + (1 : Int32)) [(5, .int (v5 + (1 : Int32))), (3, .long r6), (0, .ref 76), (1, .int v1), (2, .int v2)] dX5_ticks_53 4 rfl (congrArg (fun z => v5 + z) ic_1) (by decide) rfl ?_
        refine J_goto hX 9 dX5_ticks_56 (by decide) ?_
        refine J_sub [(0, .ref 76), (1, .int v1), (2, .int v2), (3, .long r6), (5, .int (v5 + (1 : Int32)))] [2, 3, 4, 1, 0] rfl ?_
        exact ih v1 v2 r6 (v5 + (1 : Int32)) m5 h
    · refine J_iload hX dX5_ticks_59 4 rfl ?_
      exact J_ireturn hX dX5_ticks_61 h hF rfl
theorem t_X5_ticks {X : XX} {G : GG} {ρ : Nat → Nat} {n t u w v : Nat} {x : Option Nat} {d : Nat} (hX : Ok X G ρ cX5_ticks 7 RX5 d) (hd0 : 3 ≤ d) (hn : 126 ≤ n) {rE : Int32} {mE : Mm} (hF : Fin' X G ρ n (some .int) (some (.int rE)) (RT t u w v x) mE) {x1 : Int32} {x2 : Int32} {m : Mm} (h : f_X5_ticks x1 x2 m = some (rE, mE)) : J X G ρ n 7 0 [(0, .ref 76), (1, .int x1), (2, .int x2)] [] (RT t u w v x) m := by
  unfold f_X5_ticks at h
  refine J_aload_n hX dX5_ticks_0 rfl 0 rfl ?_
  refine J_iload_n hX dX5_ticks_1 rfl 1 rfl ?_
  obtain ⟨r2, m1, h0, h⟩ := bd2_some h
  refine J_callVl (As := [.int x1]) (st := []) hX dX5_ticks_2 cw_RX5_38 (by omega) (c_X5_rebuiltIntoSpares hn  h0) (ltn ltc_76 hn) lo_76 (by decide) rfl rfl rfl (Nat.le_of_ble_eq_true rfl) ?_
  clear h0
  refine J_lstore_n hX [(3, .long r2), (0, .ref 76), (1, .int x1), (2, .int x2)] dX5_ticks_5 rfl (by decide) rfl ?_
  refine J_iconst hX (0 : Int32) dX5_ticks_6 ic_0 ?_
  refine J_istore hX [(5, .int (0 : Int32)), (3, .long r2), (0, .ref 76), (1, .int x1), (2, .int x2)] dX5_ticks_7 (by decide) rfl ?_
  refine J_sub [(0, .ref 76), (1, .int x1), (2, .int x2), (3, .long r2), (5, .int (0 : Int32))] [2, 3, 4, 1, 0] rfl ?_
  exact t_X5_ticks_L9 hX hd0 hn hF FU x1 x2 r2 (0 : Int32)  m1 h
theorem c_X5_ticks {G : GG} {l : Launch} {ρ : Nat → Nat} {n t u w v : Nat} {x : Option Nat} (hn : 126 ≤ n) {x1 : Int32} {x2 : Int32} {m : Mm} {rE : Int32} {mE : Mm} (h : f_X5_ticks x1 x2 m = some (rE, mE)) : CT G l yX5_ticks cX5_ticks 7 (some .int) 3 0 0 ρ n (RT t u w v x) [.ref 76, .int x1, .int x2] m (some (.int rE)) (RT t u w v x) mE := ct_of_J (by decide) rfl (Nat.le_of_ble_eq_true rfl) (fun X hX e1 e2 e3 e4 hQ hr hl => t_X5_ticks hX (Nat.le_refl _) hn ⟨by rw [hQ, e3, e4], hr, hl⟩ h)
theorem t_X5_deadlyPairs_L19 {X : XX} {G : GG} {ρ : Nat → Nat} {n t u w v : Nat} {x : Option Nat} {d : Nat} (hX : Ok X G ρ cX5_deadlyPairs 4 RX5 d) (hd0 : 3 ≤ d) (hn : 126 ≤ n) {rE : Int32} {mE : Mm} (hF : Fin' X G ρ n (some .int) (some (.int rE)) (RT t u w v x) mE) {v2 : Int32} {K : Int32 → Mm → Option (Int32 × Mm)} (hK : ∀ (w1 : Int32) (m : Mm), K w1 m = some (rE, mE) → J X G ρ n 4 75 [(0, .ref 76), (1, .int w1), (2, .int v2)] [] (RT t u w v x) m) : ∀ (k : Nat) (v1 : Int32) (v3 : Int32) (m : Mm), f_X5_deadlyPairs_L19 v2 K k v1 v3 m = some (rE, mE) → J X G ρ n 4 19 [(0, .ref 76), (1, .int v1), (2, .int v2), (3, .int v3)] [] (RT t u w v x) m := by
  intro k
  induction k with
  | zero => intro _ _ _ h; rw [f_X5_deadlyPairs_L19] at h; cases h
  | succ k ih =>
    intro v1 v3 m h
    rw [f_X5_deadlyPairs_L19] at h
    refine J_iload_n hX dX5_deadlyPairs_19 rfl 3 rfl ?_
    refine J_aload_n hX dX5_deadlyPairs_20 rfl 0 rfl ?_
    refine J_getR hX dX5_deadlyPairs_21 fl_RX5_19 (ltn ltc_76 hn) lo_76 rfl (rt_76_1 _ _ _ _ _) ?_
    refine J_getI hX dX5_deadlyPairs_24 fl_RX5_76 (ltn ltc_26 hn) lo_26 rfl ?_
    refine J_icmp_ge hX 75 dX5_deadlyPairs_27 (by decide) h (fun c h => ?_) (fun c h => ?_)
    · refine J_aload_n hX dX5_deadlyPairs_30 rfl 0 rfl ?_
      refine J_getR hX dX5_deadlyPairs_31 fl_RX5_15 (ltn ltc_76 hn) lo_76 rfl (rt_76_0 _ _ _ _ _) ?_
      refine J_iload_n hX dX5_deadlyPairs_34 rfl 2 rfl ?_
      obtain ⟨r2, m1, h0, h⟩ := bd2_some h
      refine J_callVi (As := [.int v2]) (st := []) hX dX5_deadlyPairs_35 cw_RX5_52 (by omega) (c_X6_isUp hn p_isSt_54 h0) (ltn ltc_54 hn) lo_54 (by decide) rfl rfl rfl (Nat.le_of_ble_eq_true rfl) ?_
      clear h0
      refine J_if_eq hX 69 dX5_deadlyPairs_38 (by decide) h (fun c h => ?_) (fun c h => ?_)
      · refine J_iinc hX (v3 + (1 : Int32)) [(3, .int (v3 + (1 : Int32))), (0, .ref 76), (1, .int v1), (2, .int v2)] dX5_deadlyPairs_69 3 rfl (congrArg (fun z => v3 + z) ic_1) (by decide) rfl ?_
        refine J_goto hX 19 dX5_deadlyPairs_72 (by decide) ?_
        refine J_sub [(0, .ref 76), (1, .int v1), (2, .int v2), (3, .int (v3 + (1 : Int32)))] [1, 2, 3, 0] rfl ?_
        exact ih v1 (v3 + (1 : Int32)) m1 h
      · refine J_aload_n hX dX5_deadlyPairs_41 rfl 0 rfl ?_
        refine J_getR hX dX5_deadlyPairs_42 fl_RX5_15 (ltn ltc_76 hn) lo_76 rfl (rt_76_0 _ _ _ _ _) ?_
        refine J_iload_n hX dX5_deadlyPairs_45 rfl 3 rfl ?_
        obtain ⟨r4, m3, h0, h⟩ := bd2_some h
        refine J_callVi (As := [.int v3]) (st := []) hX dX5_deadlyPairs_46 cw_RX5_52 (by omega) (c_X6_isUp hn p_isSt_54 h0) (ltn ltc_54 hn) lo_54 (by decide) rfl rfl rfl (Nat.le_of_ble_eq_true rfl) ?_
        clear h0
        refine J_if_eq hX 69 dX5_deadlyPairs_49 (by decide) h (fun c h => ?_) (fun c h => ?_)
        · refine J_iinc hX (v3 + (1 : Int32)) [(3, .int (v3 + (1 : Int32))), (0, .ref 76), (1, .int v1), (2, .int v2)] dX5_deadlyPairs_69 3 rfl (congrArg (fun z => v3 + z) ic_1) (by decide) rfl ?_
          refine J_goto hX 19 dX5_deadlyPairs_72 (by decide) ?_
          refine J_sub [(0, .ref 76), (1, .int v1), (2, .int v2), (3, .int (v3 + (1 : Int32)))] [1, 2, 3, 0] rfl ?_
          exact ih v1 (v3 + (1 : Int32)) m3 h
        · refine J_aload_n hX dX5_deadlyPairs_52 rfl 0 rfl ?_
          refine J_iconst hX (1 : Int32) dX5_deadlyPairs_53 ic_1 ?_
          refine J_iload_n hX dX5_deadlyPairs_54 rfl 2 rfl ?_
          refine J_ishl hX dX5_deadlyPairs_55 ?_
          refine J_iconst hX (1 : Int32) dX5_deadlyPairs_56 ic_1 ?_
          refine J_iload_n hX dX5_deadlyPairs_57 rfl 3 rfl ?_
          refine J_ishl hX dX5_deadlyPairs_58 ?_
          refine J_ior hX dX5_deadlyPairs_59 ?_
          obtain ⟨r6, m5, h0, h⟩ := bd2_some h
          refine J_callVi (As := [.int (((1 : Int32) <<< (v2 &&& 31)) ||| ((1 : Int32) <<< (v3 &&& 31)))]) (st := []) hX dX5_deadlyPairs_60 cw_RX5_79 (by omega) (c_X5_kills hn  h0) (ltn ltc_76 hn) lo_76 (by decide) rfl rfl rfl (Nat.le_of_ble_eq_true rfl) ?_
          clear h0
          refine J_if_eq hX 69 dX5_deadlyPairs_63 (by decide) h (fun c h => ?_) (fun c h => ?_)
          · refine J_iinc hX (v3 + (1 : Int32)) [(3, .int (v3 + (1 : Int32))), (0, .ref 76), (1, .int v1), (2, .int v2)] dX5_deadlyPairs_69 3 rfl (congrArg (fun z => v3 + z) ic_1) (by decide) rfl ?_
            refine J_goto hX 19 dX5_deadlyPairs_72 (by decide) ?_
            refine J_sub [(0, .ref 76), (1, .int v1), (2, .int v2), (3, .int (v3 + (1 : Int32)))] [1, 2, 3, 0] rfl ?_
            exact ih v1 (v3 + (1 : Int32)) m5 h
          · refine J_iinc hX (v1 + (1 : Int32)) [(1, .int (v1 + (1 : Int32))), (0, .ref 76), (2, .int v2), (3, .int v3)] dX5_deadlyPairs_66 1 rfl (congrArg (fun z => v1 + z) ic_1) (by decide) rfl ?_
            refine J_iinc hX (v3 + (1 : Int32)) [(3, .int (v3 + (1 : Int32))), (1, .int (v1 + (1 : Int32))), (0, .ref 76), (2, .int v2)] dX5_deadlyPairs_69 3 rfl (congrArg (fun z => v3 + z) ic_1) (by decide) rfl ?_
            refine J_goto hX 19 dX5_deadlyPairs_72 (by decide) ?_
            refine J_sub [(0, .ref 76), (1, .int (v1 + (1 : Int32))), (2, .int v2), (3, .int (v3 + (1 : Int32)))] [2, 1, 3, 0] rfl ?_
            exact ih (v1 + (1 : Int32)) (v3 + (1 : Int32)) m5 h
    · refine J_sub [(0, .ref 76), (1, .int v1), (2, .int v2)] [0, 1, 2] rfl ?_
      exact hK v1 m h
theorem t_X5_deadlyPairs_L4 {X : XX} {G : GG} {ρ : Nat → Nat} {n t u w v : Nat} {x : Option Nat} {d : Nat} (hX : Ok X G ρ cX5_deadlyPairs 4 RX5 d) (hd0 : 3 ≤ d) (hn : 126 ≤ n) {rE : Int32} {mE : Mm} (hF : Fin' X G ρ n (some .int) (some (.int rE)) (RT t u w v x) mE) : ∀ (k : Nat) (v1 : Int32) (v2 : Int32) (m : Mm), f_X5_deadlyPairs_L4 k v1 v2 m = some (rE, mE) → J X G ρ n 4 4 [(0, .ref 76), (1, .int v1), (2, .int v2)] [] (RT t u w v x) m := by
  intro k
  induction k with
  | zero => intro _ _ _ h; rw [f_X5_deadlyPairs_L4] at h; cases h
  | succ k ih =>
    intro v1 v2 m h
    rw [f_X5_deadlyPairs_L4] at h
    refine J_iload_n hX dX5_deadlyPairs_4 rfl 2 rfl ?_
    refine J_aload_n hX dX5_deadlyPairs_5 rfl 0 rfl ?_
    refine J_getR hX dX5_deadlyPairs_6 fl_RX5_19 (ltn ltc_76 hn) lo_76 rfl (rt_76_1 _ _ _ _ _) ?_
    refine J_getI hX dX5_deadlyPairs_9 fl_RX5_76 (ltn ltc_26 hn) lo_26 rfl ?_
    refine J_icmp_ge hX 81 dX5_deadlyPairs_12 (by decide) h (fun c h => ?_) (fun c h => ?_)
    · refine J_iload_n hX dX5_deadlyPairs_15 rfl 2 rfl ?_
      refine J_iconst hX (1 : Int32) dX5_deadlyPairs_16 ic_1 ?_
      refine J_iadd hX dX5_deadlyPairs_17 ?_
      refine J_istore_n hX [(3, .int (v2 + (1 : Int32))), (0, .ref 76), (1, .int v1), (2, .int v2)] dX5_deadlyPairs_18 rfl (by decide) rfl ?_
      refine J_sub [(0, .ref 76), (1, .int v1), (2, .int v2), (3, .int (v2 + (1 : Int32)))] [1, 2, 3, 0] rfl ?_
      refine t_X5_deadlyPairs_L19 hX hd0 hn hF (fun w7 m8 h => ?_) FU v1 (v2 + (1 : Int32)) m h
      refine J_iinc hX (v2 + (1 : Int32)) [(2, .int (v2 + (1 : Int32))), (0, .ref 76), (1, .int w7)] dX5_deadlyPairs_75 2 rfl (congrArg (fun z => v2 + z) ic_1) (by decide) rfl ?_
      refine J_goto hX 4 dX5_deadlyPairs_78 (by decide) ?_
      refine J_sub [(0, .ref 76), (1, .int w7), (2, .int (v2 + (1 : Int32)))] [1, 2, 0] rfl ?_
      exact ih w7 (v2 + (1 : Int32)) m8 h
    · refine J_iload_n hX dX5_deadlyPairs_81 rfl 1 rfl ?_
      exact J_ireturn hX dX5_deadlyPairs_82 h hF rfl
theorem t_X5_deadlyPairs {X : XX} {G : GG} {ρ : Nat → Nat} {n t u w v : Nat} {x : Option Nat} {d : Nat} (hX : Ok X G ρ cX5_deadlyPairs 4 RX5 d) (hd0 : 3 ≤ d) (hn : 126 ≤ n) {rE : Int32} {mE : Mm} (hF : Fin' X G ρ n (some .int) (some (.int rE)) (RT t u w v x) mE) {m : Mm} (h : f_X5_deadlyPairs m = some (rE, mE)) : J X G ρ n 4 0 [(0, .ref 76)] [] (RT t u w v x) m := by
  unfold f_X5_deadlyPairs at h
  refine J_iconst hX (0 : Int32) dX5_deadlyPairs_0 ic_0 ?_
  refine J_istore_n hX [(1, .int (0 : Int32)), (0, .ref 76)] dX5_deadlyPairs_1 rfl (by decide) rfl ?_
  refine J_iconst hX (0 : Int32) dX5_deadlyPairs_2 ic_0 ?_
  refine J_istore_n hX [(2, .int (0 : Int32)), (1, .int (0 : Int32)), (0, .ref 76)] dX5_deadlyPairs_3 rfl (by decide) rfl ?_
  refine J_sub [(0, .ref 76), (1, .int (0 : Int32)), (2, .int (0 : Int32))] [2, 1, 0] rfl ?_
  exact t_X5_deadlyPairs_L4 hX hd0 hn hF FU (0 : Int32) (0 : Int32)  m h
theorem c_X5_deadlyPairs {G : GG} {l : Launch} {ρ : Nat → Nat} {n t u w v : Nat} {x : Option Nat} (hn : 126 ≤ n) {m : Mm} {rE : Int32} {mE : Mm} (h : f_X5_deadlyPairs m = some (rE, mE)) : CT G l yX5_deadlyPairs cX5_deadlyPairs 4 (some .int) 3 0 0 ρ n (RT t u w v x) [.ref 76] m (some (.int rE)) (RT t u w v x) mE := ct_of_J (by decide) rfl (Nat.le_of_ble_eq_true rfl) (fun X hX e1 e2 e3 e4 hQ hr hl => t_X5_deadlyPairs hX (Nat.le_refl _) hn ⟨by rw [hQ, e3, e4], hr, hl⟩ h)
theorem t_X4_movedIn_L17 {X : XX} {G : GG} {ρ : Nat → Nat} {n t u w v : Nat} {x : Option Nat} {d : Nat} {a : Nat} {p1 : Nat} (hX : Ok X G ρ cX4_movedIn 7 RX4 d) (hd0 : 1 ≤ d) (hn : 126 ≤ n) (ha : isLa a) (hp1 : isLa p1) {rE : Int32} {mE : Mm} (hF : Fin' X G ρ n (some .int) (some (.int rE)) (RT t u w v x) mE) : ∀ (k : Nat) (v2 : Int32) (v3 : Int32) (v4 : Int32) (m : Mm), f_X4_movedIn_L17 a p1 k v2 v3 v4 m = some (rE, mE) → J X G ρ n 7 17 [(0, .ref a), (1, .ref p1), (2, .int v2), (3, .int v3), (4, .int v4)] [] (RT t u w v x) m := by
  intro k
  induction k with
  | zero => intro _ _ _ _ h; rw [f_X4_movedIn_L17] at h; cases h
  | succ k ih =>
    intro v2 v3 v4 m h
    rw [f_X4_movedIn_L17] at h
    refine J_iload hX dX4_movedIn_17 4 rfl ?_
    refine J_iload_n hX dX4_movedIn_19 rfl 3 rfl ?_
    refine J_icmp_ge hX 84 dX4_movedIn_20 (by decide) h (fun c h => ?_) (fun c h => ?_)
    · refine J_aload_n hX dX4_movedIn_23 rfl 0 rfl ?_
      refine J_getR hX dX4_movedIn_24 fl_RX4_39 (ltn (lt_isLa_0 ha) hn) (lo_isLa_0 ha) rfl (rt_isLa_0_12 _ _ _ _ _ ha) ?_
      refine J_iload hX dX4_movedIn_27 4 rfl ?_
      refine J_iaload hX dX4_movedIn_29 (ltn (lt_isLa_10 ha) hn) (lay_isLa_10 ha) h (fun h => ?_)
      refine J_istore hX [(5, .int (gI m (a + 10) (ix v4))), (0, .ref a), (1, .ref p1), (2, .int v2), (3, .int v3), (4, .int v4)] dX4_movedIn_30 (by decide) rfl ?_
      refine J_aload_n hX dX4_movedIn_32 rfl 2 rfl ?_
      refine J_getR hX dX4_movedIn_33 fl_RX4_39 (ltn (lt_isLa_0 hp1) hn) (lo_isLa_0 hp1) rfl (rt_isLa_0_12 _ _ _ _ _ hp1) ?_
      refine J_iload hX dX4_movedIn_36 5 rfl ?_
      refine J_iaload hX dX4_movedIn_38 (ltn (lt_isLa_10 hp1) hn) (lay_isLa_10 hp1) h (fun h => ?_)
      refine J_istore hX [(6, .int (gI m (p1 + 10) (ix v4))), (5, .int (gI m (a + 10) (ix v4))), (0, .ref a), (1, .ref p1), (2, .int v2), (3, .int v3), (4, .int v4)] dX4_movedIn_39 (by decide) rfl ?_
      refine J_aload_n hX dX4_movedIn_41 rfl 2 rfl ?_
      refine J_getR hX dX4_movedIn_42 fl_RX4_30 (ltn (lt_isLa_0 ha) hn) (lo_isLa_0 ha) rfl (rt_isLa_0_9 _ _ _ _ _ ha) ?_
      refine J_iload hX dX4_movedIn_45 1 rfl ?_
      refine J_iaload hX dX4_movedIn_47 (ltn (lt_isLa_7 ha) hn) (lay_isLa_7 ha) h (fun h => ?_)
      refine J_aload_n hX dX4_movedIn_48 rfl 3 rfl ?_
      refine J_getR hX dX4_movedIn_49 fl_RX4_30 (ltn (lt_isLa_0 hp1) hn) (lo_isLa_0 hp1) rfl (rt_isLa_0_9 _ _ _ _ _ hp1) ?_
      refine J_iload hX dX4_movedIn_52 0 rfl ?_
      refine J_iaload hX dX4_movedIn_54 (ltn (lt_isLa_7 hp1) hn) (lay_isLa_7 hp1) h (fun h => ?_)
      refine J_icmp_ne hX 75 dX4_movedIn_55 (by decide) h (fun c h => ?_) (fun c h => ?_)
      · refine J_aload_n hX dX4_movedIn_58 rfl 2 rfl ?_
        refine J_getR hX dX4_movedIn_59 fl_RX4_33 (ltn (lt_isLa_0 ha) hn) (lo_isLa_0 ha) rfl (rt_isLa_0_10 _ _ _ _ _ ha) ?_
        refine J_iload hX dX4_movedIn_62 1 rfl ?_
        refine J_iaload hX dX4_movedIn_64 (ltn (lt_isLa_8 ha) hn) (lay_isLa_8 ha) h (fun h => ?_)
        refine J_aload_n hX dX4_movedIn_65 rfl 3 rfl ?_
        refine J_getR hX dX4_movedIn_66 fl_RX4_33 (ltn (lt_isLa_0 hp1) hn) (lo_isLa_0 hp1) rfl (rt_isLa_0_10 _ _ _ _ _ hp1) ?_
        refine J_iload hX dX4_movedIn_69 0 rfl ?_
        refine J_iaload hX dX4_movedIn_71 (ltn (lt_isLa_8 hp1) hn) (lay_isLa_8 hp1) h (fun h => ?_)
        refine J_icmp_eq hX 78 dX4_movedIn_72 (by decide) h (fun c h => ?_) (fun c h => ?_)
        · refine J_iinc hX (v4 + (1 : Int32)) [(4, .int (v4 + (1 : Int32))), (6, .int (gI m (p1 + 10) (ix v4))), (5, .int (gI m (a + 10) (ix v4))), (0, .ref a), (1, .ref p1), (2, .int v2), (3, .int v3)] dX4_movedIn_78 6 rfl (congrArg (fun z => v4 + z) ic_1) (by decide) rfl ?_
          refine J_goto hX 17 dX4_movedIn_81 (by decide) ?_
          refine J_sub [(0, .ref a), (1, .ref p1), (2, .int v2), (3, .int v3), (4, .int (v4 + (1 : Int32)))] [3, 4, 5, 6, 0] rfl ?_
          exact ih v2 v3 (v4 + (1 : Int32)) m h
        · refine J_iinc hX (v2 + (1 : Int32)) [(2, .int (v2 + (1 : Int32))), (6, .int (gI m (p1 + 10) (ix v4))), (5, .int (gI m (a + 10) (ix v4))), (0, .ref a), (1, .ref p1), (3, .int v3), (4, .int v4)] dX4_movedIn_75 4 rfl (congrArg (fun z => v2 + z) ic_1) (by decide) rfl ?_
          refine J_iinc hX (v4 + (1 : Int32)) [(4, .int (v4 + (1 : Int32))), (2, .int (v2 + (1 : Int32))), (6, .int (gI m (p1 + 10) (ix v4))), (5, .int (gI m (a + 10) (ix v4))), (0, .ref a), (1, .ref p1), (3, .int v3)] dX4_movedIn_78 6 rfl (congrArg (fun z => v4 + z) ic_1) (by decide) rfl ?_
          refine J_goto hX 17 dX4_movedIn_81 (by decide) ?_
          refine J_sub [(0, .ref a), (1, .ref p1), (2, .int (v2 + (1 : Int32))), (3, .int v3), (4, .int (v4 + (1 : Int32)))] [4, 5, 1, 6, 0] rfl ?_
          exact ih (v2 + (1 : Int32)) v3 (v4 + (1 : Int32)) m h
      · refine J_iinc hX (v2 + (1 : Int32)) [(2, .int (v2 + (1 : Int32))), (6, .int (gI m (p1 + 10) (ix v4))), (5, .int (gI m (a + 10) (ix v4))), (0, .ref a), (1, .ref p1), (3, .int v3), (4, .int v4)] dX4_movedIn_75 4 rfl (congrArg (fun z => v2 + z) ic_1) (by decide) rfl ?_
        refine J_iinc hX (v4 + (1 : Int32)) [(4, .int (v4 + (1 : Int32))), (2, .int (v2 + (1 : Int32))), (6, .int (gI m (p1 + 10) (ix v4))), (5, .int (gI m (a + 10) (ix v4))), (0, .ref a), (1, .ref p1), (3, .int v3)] dX4_movedIn_78 6 rfl (congrArg (fun z => v4 + z) ic_1) (by decide) rfl ?_
        refine J_goto hX 17 dX4_movedIn_81 (by decide) ?_
        refine J_sub [(0, .ref a), (1, .ref p1), (2, .int (v2 + (1 : Int32))), (3, .int v3), (4, .int (v4 + (1 : Int32)))] [4, 5, 1, 6, 0] rfl ?_
        exact ih (v2 + (1 : Int32)) v3 (v4 + (1 : Int32)) m h
    · refine J_iload_n hX dX4_movedIn_84 rfl 2 rfl ?_
      exact J_ireturn hX dX4_movedIn_85 h hF rfl
theorem t_X4_movedIn {X : XX} {G : GG} {ρ : Nat → Nat} {n t u w v : Nat} {x : Option Nat} {d : Nat} {a : Nat} {p1 : Nat} (hX : Ok X G ρ cX4_movedIn 7 RX4 d) (hd0 : 1 ≤ d) (hn : 126 ≤ n) (ha : isLa a) (hp1 : isLa p1) {rE : Int32} {mE : Mm} (hF : Fin' X G ρ n (some .int) (some (.int rE)) (RT t u w v x) mE) {m : Mm} (h : f_X4_movedIn a p1 m = some (rE, mE)) : J X G ρ n 7 0 [(0, .ref a), (1, .ref p1)] [] (RT t u w v x) m := by
  unfold f_X4_movedIn at h
  refine J_iconst hX (0 : Int32) dX4_movedIn_0 ic_0 ?_
  refine J_istore_n hX [(2, .int (0 : Int32)), (0, .ref a), (1, .ref p1)] dX4_movedIn_1 rfl (by decide) rfl ?_
  refine J_aload_n hX dX4_movedIn_2 rfl 1 rfl ?_
  refine J_getI hX dX4_movedIn_3 fl_RX4_81 (ltn (lt_isLa_0 ha) hn) (lo_isLa_0 ha) rfl ?_
  refine J_aload_n hX dX4_movedIn_6 rfl 2 rfl ?_
  refine J_getI hX dX4_movedIn_7 fl_RX4_81 (ltn (lt_isLa_0 hp1) hn) (lo_isLa_0 hp1) rfl ?_
  refine J_imin hX dX4_movedIn_10 (by omega) cm_RX4_109 (Nat.le_of_ble_eq_true rfl) ?_
  refine J_istore_n hX [(3, .int (imin (gI m a 2) (gI m p1 2))), (2, .int (0 : Int32)), (0, .ref a), (1, .ref p1)] dX4_movedIn_13 rfl (by decide) rfl ?_
  refine J_iconst hX (0 : Int32) dX4_movedIn_14 ic_0 ?_
  refine J_istore hX [(4, .int (0 : Int32)), (3, .int (imin (gI m a 2) (gI m p1 2))), (2, .int (0 : Int32)), (0, .ref a), (1, .ref p1)] dX4_movedIn_15 (by decide) rfl ?_
  refine J_sub [(0, .ref a), (1, .ref p1), (2, .int (0 : Int32)), (3, .int (imin (gI m a 2) (gI m p1 2))), (4, .int (0 : Int32))] [3, 4, 2, 1, 0] rfl ?_
  exact t_X4_movedIn_L17 hX hd0 hn ha hp1 hF FU (0 : Int32) (imin (gI m a 2) (gI m p1 2)) (0 : Int32)  m h
theorem c_X4_movedIn {G : GG} {l : Launch} {ρ : Nat → Nat} {n t u w v : Nat} {x : Option Nat} (hn : 126 ≤ n) {a : Nat} {p1 : Nat} (ha : isLa a) (hp1 : isLa p1) {m : Mm} {rE : Int32} {mE : Mm} (h : f_X4_movedIn a p1 m = some (rE, mE)) : CT G l yX4_movedIn cX4_movedIn 7 (some .int) 1 0 0 ρ n (RT t u w v x) [.ref a, .ref p1] m (some (.int rE)) (RT t u w v x) mE := ct_of_J (by decide) rfl (Nat.le_of_ble_eq_true rfl) (fun X hX e1 e2 e3 e4 hQ hr hl => t_X4_movedIn hX (Nat.le_refl _) hn ha hp1 ⟨by rw [hQ, e3, e4], hr, hl⟩ h)
theorem t_X4_allUnits_L4 {X : XX} {G : GG} {ρ : Nat → Nat} {n t u w v : Nat} {x : Option Nat} {d : Nat} {a : Nat} (hX : Ok X G ρ cX4_allUnits 3 RX4 d) (hd0 : 0 ≤ d) (hn : 126 ≤ n) (ha : isLa a) {rE : Int32} {mE : Mm} (hF : Fin' X G ρ n (some .int) (some (.int rE)) (RT t u w v x) mE) : ∀ (k : Nat) (v1 : Int32) (v2 : Int32) (m : Mm), f_X4_allUnits_L4 a k v1 v2 m = some (rE, mE) → J X G ρ n 3 4 [(0, .ref a), (1, .int v1), (2, .int v2)] [] (RT t u w v x) m := by
  intro k
  induction k with
  | zero => intro _ _ _ h; rw [f_X4_allUnits_L4] at h; cases h
  | succ k ih =>
    intro v1 v2 m h
    rw [f_X4_allUnits_L4] at h
    refine J_iload_n hX dX4_allUnits_4 rfl 2 rfl ?_
    refine J_aload_n hX dX4_allUnits_5 rfl 0 rfl ?_
    refine J_getI hX dX4_allUnits_6 fl_RX4_72 (ltn (lt_isLa_0 ha) hn) (lo_isLa_0 ha) rfl ?_
    refine J_icmp_ge hX 27 dX4_allUnits_9 (by decide) h (fun c h => ?_) (fun c h => ?_)
    · refine J_iload_n hX dX4_allUnits_12 rfl 1 rfl ?_
      refine J_aload_n hX dX4_allUnits_13 rfl 0 rfl ?_
      refine J_getR hX dX4_allUnits_14 fl_RX4_9 (ltn (lt_isLa_0 ha) hn) (lo_isLa_0 ha) rfl (rt_isLa_0_3 _ _ _ _ _ ha) ?_
      refine J_iload_n hX dX4_allUnits_17 rfl 2 rfl ?_
      refine J_iaload hX dX4_allUnits_18 (ltn (lt_isLa_1 ha) hn) (lay_isLa_1 ha) h (fun h => ?_)
      refine J_iadd hX dX4_allUnits_19 ?_
      refine J_istore_n hX [(1, .int (v1 + (gI m (a + 1) (ix v2)))), (0, .ref a), (2, .int v2)] dX4_allUnits_20 rfl (by decide) rfl ?_
      refine J_iinc hX (v2 + (1 : Int32)) [(2, .int (v2 + (1 : Int32))), (1, .int (v1 + (gI m (a + 1) (ix v2)))), (0, .ref a)] dX4_allUnits_21 2 rfl (congrArg (fun z => v2 + z) ic_1) (by decide) rfl ?_
      refine J_goto hX 4 dX4_allUnits_24 (by decide) ?_
      refine J_sub [(0, .ref a), (1, .int (v1 + (gI m (a + 1) (ix v2)))), (2, .int (v2 + (1 : Int32)))] [2, 1, 0] rfl ?_
      exact ih (v1 + (gI m (a + 1) (ix v2))) (v2 + (1 : Int32)) m h
    · refine J_iload_n hX dX4_allUnits_27 rfl 1 rfl ?_
      exact J_ireturn hX dX4_allUnits_28 h hF rfl
theorem t_X4_allUnits {X : XX} {G : GG} {ρ : Nat → Nat} {n t u w v : Nat} {x : Option Nat} {d : Nat} {a : Nat} (hX : Ok X G ρ cX4_allUnits 3 RX4 d) (hd0 : 0 ≤ d) (hn : 126 ≤ n) (ha : isLa a) {rE : Int32} {mE : Mm} (hF : Fin' X G ρ n (some .int) (some (.int rE)) (RT t u w v x) mE) {m : Mm} (h : f_X4_allUnits a m = some (rE, mE)) : J X G ρ n 3 0 [(0, .ref a)] [] (RT t u w v x) m := by
  unfold f_X4_allUnits at h
  refine J_iconst hX (0 : Int32) dX4_allUnits_0 ic_0 ?_
  refine J_istore_n hX [(1, .int (0 : Int32)), (0, .ref a)] dX4_allUnits_1 rfl (by decide) rfl ?_
  refine J_iconst hX (0 : Int32) dX4_allUnits_2 ic_0 ?_
  refine J_istore_n hX [(2, .int (0 : Int32)), (1, .int (0 : Int32)), (0, .ref a)] dX4_allUnits_3 rfl (by decide) rfl ?_
  refine J_sub [(0, .ref a), (1, .int (0 : Int32)), (2, .int (0 : Int32))] [2, 1, 0] rfl ?_
  exact t_X4_allUnits_L4 hX hd0 hn ha hF FU (0 : Int32) (0 : Int32)  m h
theorem c_X4_allUnits {G : GG} {l : Launch} {ρ : Nat → Nat} {n t u w v : Nat} {x : Option Nat} (hn : 126 ≤ n) {a : Nat} (ha : isLa a) {m : Mm} {rE : Int32} {mE : Mm} (h : f_X4_allUnits a m = some (rE, mE)) : CT G l yX4_allUnits cX4_allUnits 3 (some .int) 0 0 0 ρ n (RT t u w v x) [.ref a] m (some (.int rE)) (RT t u w v x) mE := ct_of_J (by decide) rfl (Nat.le_of_ble_eq_true rfl) (fun X hX e1 e2 e3 e4 hQ hr hl => t_X4_allUnits hX (Nat.le_refl _) hn ha ⟨by rw [hQ, e3, e4], hr, hl⟩ h)
theorem t_X5_bestQuestion_L15 {X : XX} {G : GG} {ρ : Nat → Nat} {n t u w v : Nat} {x : Option Nat} {d : Nat} (hX : Ok X G ρ cX5_bestQuestion 6 RX5 d) (hd0 : 5 ≤ d) (hn : 126 ≤ n) {rE : Int32} {mE : Mm} (hF : Fin' X G ρ n (some .int) (some (.int rE)) (RT t u w v x) mE) : ∀ (k : Nat) (v1 : Int32) (v2 : Int32) (v3 : Int32) (v4 : Int32) (m : Mm), f_X5_bestQuestion_L15 k v1 v2 v3 v4 m = some (rE, mE) → J X G ρ n 6 15 [(0, .ref 76), (1, .int v1), (2, .int v2), (3, .int v3), (4, .int v4)] [] (RT t u w v x) m := by
  intro k
  induction k with
  | zero => intro _ _ _ _ _ h; rw [f_X5_bestQuestion_L15] at h; cases h
  | succ k ih =>
    intro v1 v2 v3 v4 m h
    rw [f_X5_bestQuestion_L15] at h
    refine J_iload hX dX5_bestQuestion_15 4 rfl ?_
    refine J_aload_n hX dX5_bestQuestion_17 rfl 0 rfl ?_
    refine J_getR hX dX5_bestQuestion_18 fl_RX5_19 (ltn ltc_76 hn) lo_76 rfl (rt_76_1 _ _ _ _ _) ?_
    refine J_getI hX dX5_bestQuestion_21 fl_RX5_114 (ltn ltc_26 hn) lo_26 rfl ?_
    refine J_icmp_ge hX 54 dX5_bestQuestion_24 (by decide) h (fun c h => ?_) (fun c h => ?_)
    · refine J_aload_n hX dX5_bestQuestion_27 rfl 0 rfl ?_
      refine J_iload hX dX5_bestQuestion_28 4 rfl ?_
      refine J_iload_n hX dX5_bestQuestion_30 rfl 1 rfl ?_
      obtain ⟨r6, m5, h0, h⟩ := bd2_some h
      refine J_callVi (As := [.int v4, .int v1]) (st := []) hX dX5_bestQuestion_31 cw_RX5_117 (by omega) (c_X5_leftBy hn  h0) (ltn ltc_76 hn) lo_76 (by decide) rfl rfl rfl (Nat.le_of_ble_eq_true rfl) ?_
      clear h0
      refine J_istore hX [(5, .int r6), (0, .ref 76), (1, .int v1), (2, .int v2), (3, .int v3), (4, .int v4)] dX5_bestQuestion_34 (by decide) rfl ?_
      refine J_iload hX dX5_bestQuestion_36 0 rfl ?_
      refine J_iload_n hX dX5_bestQuestion_38 rfl 3 rfl ?_
      refine J_icmp_ge hX 48 dX5_bestQuestion_39 (by decide) h (fun c h => ?_) (fun c h => ?_)
      · refine J_iload hX dX5_bestQuestion_42 0 rfl ?_
        refine J_istore_n hX [(2, .int r6), (5, .int r6), (0, .ref 76), (1, .int v1), (3, .int v3), (4, .int v4)] dX5_bestQuestion_44 rfl (by decide) rfl ?_
        refine J_iload hX dX5_bestQuestion_45 5 rfl ?_
        refine J_istore_n hX [(3, .int v4), (2, .int r6), (5, .int r6), (0, .ref 76), (1, .int v1), (4, .int v4)] dX5_bestQuestion_47 rfl (by decide) rfl ?_
        refine J_iinc hX (v4 + (1 : Int32)) [(4, .int (v4 + (1 : Int32))), (3, .int v4), (2, .int r6), (5, .int r6), (0, .ref 76), (1, .int v1)] dX5_bestQuestion_48 5 rfl (congrArg (fun z => v4 + z) ic_1) (by decide) rfl ?_
        refine J_goto hX 15 dX5_bestQuestion_51 (by decide) ?_
        refine J_sub [(0, .ref 76), (1, .int v1), (2, .int r6), (3, .int v4), (4, .int (v4 + (1 : Int32)))] [4, 5, 2, 1, 0] rfl ?_
        exact ih v1 r6 v4 (v4 + (1 : Int32)) m5 h
      · refine J_iinc hX (v4 + (1 : Int32)) [(4, .int (v4 + (1 : Int32))), (5, .int r6), (0, .ref 76), (1, .int v1), (2, .int v2), (3, .int v3)] dX5_bestQuestion_48 5 rfl (congrArg (fun z => v4 + z) ic_1) (by decide) rfl ?_
        refine J_goto hX 15 dX5_bestQuestion_51 (by decide) ?_
        refine J_sub [(0, .ref 76), (1, .int v1), (2, .int v2), (3, .int v3), (4, .int (v4 + (1 : Int32)))] [2, 3, 4, 5, 0] rfl ?_
        exact ih v1 v2 v3 (v4 + (1 : Int32)) m5 h
    · refine J_iload_n hX dX5_bestQuestion_54 rfl 3 rfl ?_
      exact J_ireturn hX dX5_bestQuestion_55 h hF rfl
theorem t_X5_bestQuestion {X : XX} {G : GG} {ρ : Nat → Nat} {n t u w v : Nat} {x : Option Nat} {d : Nat} (hX : Ok X G ρ cX5_bestQuestion 6 RX5 d) (hd0 : 5 ≤ d) (hn : 126 ≤ n) {rE : Int32} {mE : Mm} (hF : Fin' X G ρ n (some .int) (some (.int rE)) (RT t u w v x) mE) {m : Mm} (h : f_X5_bestQuestion m = some (rE, mE)) : J X G ρ n 6 0 [(0, .ref 76)] [] (RT t u w v x) m := by
  unfold f_X5_bestQuestion at h
  refine J_aload_n hX dX5_bestQuestion_0 rfl 0 rfl ?_
  obtain ⟨r2, m1, h0, h⟩ := bd2_some h
  refine J_callVi (As := []) (st := []) hX dX5_bestQuestion_1 cw_RX5_110 (by omega) (c_X5_suspects hn  h0) (ltn ltc_76 hn) lo_76 (by decide) rfl rfl rfl (Nat.le_of_ble_eq_true rfl) ?_
  clear h0
  refine J_istore_n hX [(1, .int r2), (0, .ref 76)] dX5_bestQuestion_4 rfl (by decide) rfl ?_
  refine J_iload_n hX dX5_bestQuestion_5 rfl 0 rfl ?_
  obtain ⟨r4, m3, h0, h⟩ := bd2_some h
  refine J_callSi (As := [.int r2]) (st := []) hX dX5_bestQuestion_6 cw_RX5_71 (by omega) (c_J6_bitCount_0f7a4 hn  h0) rfl rfl (Nat.le_of_ble_eq_true rfl) ?_
  clear h0
  refine J_istore_n hX [(2, .int r4), (1, .int r2), (0, .ref 76)] dX5_bestQuestion_9 rfl (by decide) rfl ?_
  refine J_iconst hX (-1 : Int32) dX5_bestQuestion_10 ic_m1 ?_
  refine J_istore_n hX [(3, .int (-1 : Int32)), (2, .int r4), (1, .int r2), (0, .ref 76)] dX5_bestQuestion_11 rfl (by decide) rfl ?_
  refine J_iconst hX (0 : Int32) dX5_bestQuestion_12 ic_0 ?_
  refine J_istore hX [(4, .int (0 : Int32)), (3, .int (-1 : Int32)), (2, .int r4), (1, .int r2), (0, .ref 76)] dX5_bestQuestion_13 (by decide) rfl ?_
  refine J_sub [(0, .ref 76), (1, .int r2), (2, .int r4), (3, .int (-1 : Int32)), (4, .int (0 : Int32))] [4, 3, 2, 1, 0] rfl ?_
  exact t_X5_bestQuestion_L15 hX hd0 hn hF FU r2 r4 (-1 : Int32) (0 : Int32)  m3 h
theorem c_X5_bestQuestion {G : GG} {l : Launch} {ρ : Nat → Nat} {n t u w v : Nat} {x : Option Nat} (hn : 126 ≤ n) {m : Mm} {rE : Int32} {mE : Mm} (h : f_X5_bestQuestion m = some (rE, mE)) : CT G l yX5_bestQuestion cX5_bestQuestion 6 (some .int) 5 0 0 ρ n (RT t u w v x) [.ref 76] m (some (.int rE)) (RT t u w v x) mE := ct_of_J (by decide) rfl (Nat.le_of_ble_eq_true rfl) (fun X hX e1 e2 e3 e4 hQ hr hl => t_X5_bestQuestion hX (Nat.le_refl _) hn ⟨by rw [hQ, e3, e4], hr, hl⟩ h)
theorem t_X2_below {X : XX} {G : GG} {ρ : Nat → Nat} {n t u w v : Nat} {x : Option Nat} {d : Nat} (hX : Ok X G ρ cX2_below 2 RX2 d) (hd0 : 0 ≤ d) (hn : 127 ≤ n) {rE : Int32} {mE : Mm} (hF : Fin' X G ρ n (some .int) (some (.int rE)) (RT t u w v x) mE) {x1 : Int32} {m : Mm} (h : f_X2_below x1 m = some (rE, mE)) : J X G ρ n 2 0 [(0, .ref 126), (1, .int x1)] [] (RT t u w v x) m := by
  have hn7 : 126 < n := hn
  have hn : 126 ≤ n := Nat.le_of_lt hn7
  unfold f_X2_below at h
  refine J_aload_n hX dX2_below_0 rfl 0 rfl ?_
  refine J_aload_n hX dX2_below_1 rfl 0 rfl ?_
  refine J_getL hX dX2_below_2 fl_RX2_7 hn7 lo_126 rfl ?_
  refine J_ldc2 hX (1103515245 : Int64) dX2_below_5 k_RX2_13 ?_
  refine J_lmul hX dX2_below_8 ?_
  refine J_ldc2 hX (12345 : Int64) dX2_below_9 k_RX2_15 ?_
  refine J_ladd hX dX2_below_12 ?_
  refine J_ldc2 hX (2147483648 : Int64) dX2_below_13 k_RX2_17 ?_
  refine J_lrem0 hX dX2_below_16 (by decide) ?_
  refine J_putL hX dX2_below_17 pl_RX2_7 hn7 lo_126 rfl h (fun m1 h => ?_)
  refine J_iload_n hX dX2_below_20 rfl 1 rfl ?_
  refine J_if_le hX 39 dX2_below_21 (by decide) h (fun c h => ?_) (fun c h => ?_)
  · refine J_aload_n hX dX2_below_24 rfl 0 rfl ?_
    refine J_getL hX dX2_below_25 fl_RX2_7 hn7 lo_126 rfl ?_
    refine J_ldc2 hX (65536 : Int64) dX2_below_28 k_RX2_19 ?_
    refine J_ldiv0 hX dX2_below_31 (by decide) ?_
    refine J_iload_n hX dX2_below_32 rfl 1 rfl ?_
    refine J_i2l hX dX2_below_33 ?_
    refine J_lrem hX dX2_below_34 h (fun h => ?_)
    refine J_l2i hX dX2_below_35 ?_
    refine J_goto hX 40 dX2_below_36 (by decide) ?_
    exact J_ireturn hX dX2_below_40 h hF rfl
  · refine J_iconst hX (0 : Int32) dX2_below_39 ic_0 ?_
    exact J_ireturn hX dX2_below_40 h hF rfl
theorem c_X2_below {G : GG} {l : Launch} {ρ : Nat → Nat} {n t u w v : Nat} {x : Option Nat} (hn : 127 ≤ n) {x1 : Int32} {m : Mm} {rE : Int32} {mE : Mm} (h : f_X2_below x1 m = some (rE, mE)) : CT G l yX2_below cX2_below 2 (some .int) 0 0 0 ρ n (RT t u w v x) [.ref 126, .int x1] m (some (.int rE)) (RT t u w v x) mE := ct_of_J (by decide) rfl (Nat.le_of_ble_eq_true rfl) (fun X hX e1 e2 e3 e4 hQ hr hl => t_X2_below hX (Nat.le_refl _) hn ⟨by rw [hQ, e3, e4], hr, hl⟩ h)
theorem t_X6_copy {X : XX} {G : GG} {ρ : Nat → Nat} {n t u w v : Nat} {x : Option Nat} {d : Nat} {a : Nat} {p1 : Nat} (hX : Ok X G ρ cX6_copy 2 RX6 d) (hd0 : 1 ≤ d) (hn : 126 ≤ n) (ha : isSt a) (hp1 : isSt p1) {mE : Mm} (hF : Fin' X G ρ n none none (RT t u w v x) mE) {m : Mm} (h : f_X6_copy a p1 m = some mE) : J X G ρ n 2 0 [(0, .ref a), (1, .ref p1)] [] (RT t u w v x) m := by
  unfold f_X6_copy at h
  refine J_aload_n hX dX6_copy_0 rfl 0 rfl ?_
  refine J_aload_n hX dX6_copy_1 rfl 1 rfl ?_
  refine J_getI hX dX6_copy_2 fl_RX6_34 (ltn (lt_isSt_0 hp1) hn) (lo_isSt_0 hp1) rfl ?_
  refine J_putI hX dX6_copy_5 pl_RX6_34 (ltn (lt_isSt_0 ha) hn) (lo_isSt_0 ha) rfl rfl rfl h (fun m1 h => ?_)
  refine J_aload_n hX dX6_copy_8 rfl 0 rfl ?_
  refine J_aload_n hX dX6_copy_9 rfl 1 rfl ?_
  refine J_getI hX dX6_copy_10 fl_RX6_37 (ltn (lt_isSt_0 hp1) hn) (lo_isSt_0 hp1) rfl ?_
  refine J_putI hX dX6_copy_13 pl_RX6_37 (ltn (lt_isSt_0 ha) hn) (lo_isSt_0 ha) rfl rfl rfl h (fun m2 h => ?_)
  refine J_aload_n hX dX6_copy_16 rfl 0 rfl ?_
  refine J_aload_n hX dX6_copy_17 rfl 1 rfl ?_
  refine J_getI hX dX6_copy_18 fl_RX6_40 (ltn (lt_isSt_0 hp1) hn) (lo_isSt_0 hp1) rfl ?_
  refine J_putI hX dX6_copy_21 pl_RX6_40 (ltn (lt_isSt_0 ha) hn) (lo_isSt_0 ha) rfl rfl rfl h (fun m3 h => ?_)
  refine J_aload_n hX dX6_copy_24 rfl 1 rfl ?_
  refine J_getR hX dX6_copy_25 fl_RX6_9 (ltn (lt_isSt_0 hp1) hn) (lo_isSt_0 hp1) rfl (rt_isSt_0_2 _ _ _ _ _ hp1) ?_
  refine J_iconst hX (0 : Int32) dX6_copy_28 ic_0 ?_
  refine J_aload_n hX dX6_copy_29 rfl 0 rfl ?_
  refine J_getR hX dX6_copy_30 fl_RX6_9 (ltn (lt_isSt_0 ha) hn) (lo_isSt_0 ha) rfl (rt_isSt_0_2 _ _ _ _ _ ha) ?_
  refine J_iconst hX (0 : Int32) dX6_copy_33 ic_0 ?_
  refine J_sipush hX (200 : Int32) dX6_copy_34 (by decide) ?_
  refine J_acopy hX dX6_copy_37 (by omega) cm_RX6_43 (ltn (lt_isSt_1 hp1) hn) (lay_isSt_1 hp1) (ltn (lt_isSt_1 ha) hn) (lay_isSt_1 ha) (by decide) (by decide) (by decide) (by decide) (by decide) (Nat.le_of_ble_eq_true rfl) h (fun m4 h => ?_)
  refine J_aload_n hX dX6_copy_40 rfl 1 rfl ?_
  refine J_getR hX dX6_copy_41 fl_RX6_15 (ltn (lt_isSt_0 hp1) hn) (lo_isSt_0 hp1) rfl (rt_isSt_0_3 _ _ _ _ _ hp1) ?_
  refine J_iconst hX (0 : Int32) dX6_copy_44 ic_0 ?_
  refine J_aload_n hX dX6_copy_45 rfl 0 rfl ?_
  refine J_getR hX dX6_copy_46 fl_RX6_15 (ltn (lt_isSt_0 ha) hn) (lo_isSt_0 ha) rfl (rt_isSt_0_3 _ _ _ _ _ ha) ?_
  refine J_iconst hX (0 : Int32) dX6_copy_49 ic_0 ?_
  refine J_sipush hX (200 : Int32) dX6_copy_50 (by decide) ?_
  refine J_acopy hX dX6_copy_53 (by omega) cm_RX6_43 (ltn (lt_isSt_2 hp1) hn) (lay_isSt_2 hp1) (ltn (lt_isSt_2 ha) hn) (lay_isSt_2 ha) (by decide) (by decide) (by decide) (by decide) (by decide) (Nat.le_of_ble_eq_true rfl) h (fun m5 h => ?_)
  refine J_aload_n hX dX6_copy_56 rfl 1 rfl ?_
  refine J_getR hX dX6_copy_57 fl_RX6_18 (ltn (lt_isSt_0 hp1) hn) (lo_isSt_0 hp1) rfl (rt_isSt_0_4 _ _ _ _ _ hp1) ?_
  refine J_iconst hX (0 : Int32) dX6_copy_60 ic_0 ?_
  refine J_aload_n hX dX6_copy_61 rfl 0 rfl ?_
  refine J_getR hX dX6_copy_62 fl_RX6_18 (ltn (lt_isSt_0 ha) hn) (lo_isSt_0 ha) rfl (rt_isSt_0_4 _ _ _ _ _ ha) ?_
  refine J_iconst hX (0 : Int32) dX6_copy_65 ic_0 ?_
  refine J_bipush hX (13 : Int32) dX6_copy_66 (by decide) ?_
  refine J_acopy hX dX6_copy_68 (by omega) cm_RX6_43 (ltn (lt_isSt_3 hp1) hn) (lay_isSt_3 hp1) (ltn (lt_isSt_3 ha) hn) (lay_isSt_3 ha) (by decide) (by decide) (by decide) (by decide) (by decide) (Nat.le_of_ble_eq_true rfl) h (fun m6 h => ?_)
  refine J_aload_n hX dX6_copy_71 rfl 1 rfl ?_
  refine J_getR hX dX6_copy_72 fl_RX6_21 (ltn (lt_isSt_0 hp1) hn) (lo_isSt_0 hp1) rfl (rt_isSt_0_6 _ _ _ _ _ hp1) ?_
  refine J_iconst hX (0 : Int32) dX6_copy_75 ic_0 ?_
  refine J_aload_n hX dX6_copy_76 rfl 0 rfl ?_
  refine J_getR hX dX6_copy_77 fl_RX6_21 (ltn (lt_isSt_0 ha) hn) (lo_isSt_0 ha) rfl (rt_isSt_0_6 _ _ _ _ _ ha) ?_
  refine J_iconst hX (0 : Int32) dX6_copy_80 ic_0 ?_
  refine J_bipush hX (8 : Int32) dX6_copy_81 (by decide) ?_
  refine J_acopy hX dX6_copy_83 (by omega) cm_RX6_43 (ltn (lt_isSt_4 hp1) hn) (lay_isSt_4 hp1) (ltn (lt_isSt_4 ha) hn) (lay_isSt_4 ha) (by decide) (by decide) (by decide) (by decide) (by decide) (Nat.le_of_ble_eq_true rfl) h (fun m7 h => ?_)
  exact J_return hX dX6_copy_86 h hF
theorem c_X6_copy {G : GG} {l : Launch} {ρ : Nat → Nat} {n t u w v : Nat} {x : Option Nat} (hn : 126 ≤ n) {a : Nat} {p1 : Nat} (ha : isSt a) (hp1 : isSt p1) {m : Mm} {mE : Mm} (h : f_X6_copy a p1 m = some mE) : CT G l yX6_copy cX6_copy 2 none 1 0 0 ρ n (RT t u w v x) [.ref a, .ref p1] m none (RT t u w v x) mE := ct_of_J (by decide) rfl (Nat.le_of_ble_eq_true rfl) (fun X hX e1 e2 e3 e4 hQ hr hl => t_X6_copy hX (Nat.le_refl _) hn ha hp1 ⟨by rw [hQ, e3, e4], hr, hl⟩ h)
theorem t_X2_init {X : XX} {G : GG} {ρ : Nat → Nat} {n t u w v : Nat} {x : Option Nat} {d : Nat} (hX : Ok X G ρ cX2_init 2 RX2 d) (hd0 : 1 ≤ d) (hn : 127 ≤ n) {mE : Mm} (hF : Fin' X G ρ n none none (RT t u w v x) mE) {x1 : Int32} {m : Mm} (h : f_X2_init x1 m = some mE) : J X G ρ n 2 0 [(0, .ref 126), (1, .int x1)] [] (RT t u w v x) m := by
  have hn7 : 126 < n := hn
  have hn : 126 ≤ n := Nat.le_of_lt hn7
  unfold f_X2_init at h
  refine J_aload_n hX dX2_init_0 rfl 0 rfl ?_
  refine J_objinit hX dX2_init_1 (by omega) oi_RX2_1 (Nat.le_of_ble_eq_true rfl) ?_
  refine J_aload_n hX dX2_init_4 rfl 0 rfl ?_
  refine J_iload_n hX dX2_init_5 rfl 1 rfl ?_
  refine J_i2l hX dX2_init_6 ?_
  refine J_putL hX dX2_init_7 pl_RX2_7 hn7 lo_126 rfl h (fun m1 h => ?_)
  exact J_return hX dX2_init_10 h hF
theorem c_X2_init {G : GG} {l : Launch} {ρ : Nat → Nat} {n t u w v : Nat} {x : Option Nat} (hn : 127 ≤ n) {x1 : Int32} {m : Mm} {mE : Mm} (h : f_X2_init x1 m = some mE) : CT G l yX2_init cX2_init 2 none 1 0 0 ρ n (RT t u w v x) [.ref 126, .int x1] m none (RT t u w v x) mE := ct_of_J (by decide) rfl (Nat.le_of_ble_eq_true rfl) (fun X hX e1 e2 e3 e4 hQ hr hl => t_X2_init hX (Nat.le_refl _) hn ⟨by rw [hQ, e3, e4], hr, hl⟩ h)
theorem t_X10_performDrawn_J91 {X : XX} {G : GG} {ρ : Nat → Nat} {n : Nat} {x : Option Nat} {d : Nat} {t : Nat} {u : Nat} {w : Nat} {v : Nat} (hX : Ok X G ρ cX10_performDrawn 7 RX10 d) (hd0 : 5 ≤ d) (hn : 127 ≤ n) (ht : isTo t) (hu : isTo u) (hw : isWk w) (hv : isWk v) {mE : Mm} (hF : Fin' X G ρ n none none (RT t u w v x) mE) {K2 : Int32 → Int32 → Mm → Option (Mm)} (v2 : Int32) (v3 : Int32) (s0 : Int32) (hK2 : ∀ (w2 : Int32) (w3 : Int32) (m : Mm), K2 w2 w3 m = some mE → J X G ρ n 7 2 [(0, .ref 0), (1, .ref 126), (2, .int w2), (3, .int w3)] [] (RT t u w v x) m) (m : Mm) (h : f_X10_performDrawn_J91 t u w v K2 v2 v3 s0 m = some mE) : J X G ρ n 7 91 [(0, .ref 0), (1, .ref 126), (2, .int v2), (3, .int v3)] [.int s0, .ref 59] (RT t u w v x) m := by
  have hn7 : 126 < n := hn
  have hn : 126 ≤ n := Nat.le_of_lt hn7
  unfold f_X10_performDrawn_J91 at h
  refine J_aload_n hX dX10_performDrawn_91 rfl 1 rfl ?_
  refine J_aload_n hX dX10_performDrawn_92 rfl 0 rfl ?_
  refine J_getR hX dX10_performDrawn_93 fl_RX10_50 (ltn ltc_0 hn) lo_0 rfl (rt_0_6 _ _ _ _ _) ?_
  refine J_getI hX dX10_performDrawn_96 fl_RX10_112 (ltn ltc_26 hn) lo_26 rfl ?_
  obtain ⟨r8, m7, h0, h⟩ := bd2_some h
  refine J_callVi (As := [.int (gI m 26 0)]) (st := [.int s0, .ref 59]) hX dX10_performDrawn_99 cw_RX10_339 (by omega) (c_X2_below hn7  h0) hn7 lo_126 (by decide) rfl rfl rfl (Nat.le_of_ble_eq_true rfl) ?_
  clear h0
  refine J_iconst hX (0 : Int32) dX10_performDrawn_102 ic_0 ?_
  obtain ⟨r10, m9, h0, h⟩ := bd2_some h
  refine J_callVi (As := [.int s0, .int r8, .int (0 : Int32)]) (st := []) hX dX10_performDrawn_103 cw_RX10_221 (by omega) (c_X6_perform hn p_isSt_59 h0) (ltn ltc_59 hn) lo_59 (by decide) rfl rfl rfl (Nat.le_of_ble_eq_true rfl) ?_
  clear h0
  refine J_pop hX dX10_performDrawn_106 rfl ?_
  refine J_goto hX 127 dX10_performDrawn_107 (by decide) ?_
  refine J_iinc hX (v3 + (1 : Int32)) [(3, .int (v3 + (1 : Int32))), (0, .ref 0), (1, .ref 126), (2, .int v2)] dX10_performDrawn_127 3 rfl (congrArg (fun z => v3 + z) ic_1) (by decide) rfl ?_
  refine J_goto hX 2 dX10_performDrawn_130 (by decide) ?_
  refine J_sub [(0, .ref 0), (1, .ref 126), (2, .int v2), (3, .int (v3 + (1 : Int32)))] [1, 2, 3, 0] rfl ?_
  exact hK2 v2 (v3 + (1 : Int32)) m9 h
theorem t_X10_performDrawn_L2 {X : XX} {G : GG} {ρ : Nat → Nat} {n : Nat} {x : Option Nat} {d : Nat} {t : Nat} {u : Nat} {w : Nat} {v : Nat} (hX : Ok X G ρ cX10_performDrawn 7 RX10 d) (hd0 : 5 ≤ d) (hn : 127 ≤ n) (ht : isTo t) (hu : isTo u) (hw : isWk w) (hv : isWk v) {mE : Mm} (hF : Fin' X G ρ n none none (RT t u w v x) mE) : ∀ (k : Nat) (v2 : Int32) (v3 : Int32) (m : Mm), f_X10_performDrawn_L2 t u w v k v2 v3 m = some mE → J X G ρ n 7 2 [(0, .ref 0), (1, .ref 126), (2, .int v2), (3, .int v3)] [] (RT t u w v x) m := by
  have hn7 : 126 < n := hn
  have hn : 126 ≤ n := Nat.le_of_lt hn7
  intro k
  induction k with
  | zero => intro _ _ _ h; rw [f_X10_performDrawn_L2] at h; cases h
  | succ k ih =>
    intro v2 v3 m h
    rw [f_X10_performDrawn_L2] at h
    refine J_iload_n hX dX10_performDrawn_2 rfl 3 rfl ?_
    refine J_iload_n hX dX10_performDrawn_3 rfl 2 rfl ?_
    refine J_icmp_ge hX 133 dX10_performDrawn_4 (by decide) h (fun c h => ?_) (fun c h => ?_)
    · refine J_aload_n hX dX10_performDrawn_7 rfl 1 rfl ?_
      refine J_bipush hX (8 : Int32) dX10_performDrawn_8 (by decide) ?_
      obtain ⟨r2, m1, h0, h⟩ := bd2_some h
      refine J_callVi (As := [.int (8 : Int32)]) (st := []) hX dX10_performDrawn_10 cw_RX10_339 (by omega) (c_X2_below hn7  h0) hn7 lo_126 (by decide) rfl rfl rfl (Nat.le_of_ble_eq_true rfl) ?_
      clear h0
      refine J_istore hX [(4, .int r2), (0, .ref 0), (1, .ref 126), (2, .int v2), (3, .int v3)] dX10_performDrawn_13 (by decide) rfl ?_
      refine J_iload hX dX10_performDrawn_15 0 rfl ?_
      refine J_iconst hX (4 : Int32) dX10_performDrawn_17 ic_4 ?_
      refine J_icmp_gt hX 69 dX10_performDrawn_18 (by decide) h (fun c h => ?_) (fun c h => ?_)
      · refine J_iload hX dX10_performDrawn_69 0 rfl ?_
        refine J_bipush hX (6 : Int32) dX10_performDrawn_71 (by decide) ?_
        refine J_icmp_gt hX 110 dX10_performDrawn_73 (by decide) h (fun c h => ?_) (fun c h => ?_)
        · refine J_aload_n hX dX10_performDrawn_110 rfl 1 rfl ?_
          refine J_getR hX dX10_performDrawn_111 fl_RX10_66 (ltn ltc_0 hn) lo_0 rfl (rt_0_9 _ _ _ _ _) ?_
          refine J_iconst hX (4 : Int32) dX10_performDrawn_114 ic_4 ?_
          refine J_aload_n hX dX10_performDrawn_115 rfl 2 rfl ?_
          refine J_iconst hX (4 : Int32) dX10_performDrawn_116 ic_4 ?_
          obtain ⟨r4, m3, h0, h⟩ := bd2_some h
          refine J_callVi (As := [.int (4 : Int32)]) (st := [.int (4 : Int32), .ref 59]) hX dX10_performDrawn_117 cw_RX10_339 (by omega) (c_X2_below hn7  h0) hn7 lo_126 (by decide) rfl rfl rfl (Nat.le_of_ble_eq_true rfl) ?_
          clear h0
          refine J_iconst hX (1 : Int32) dX10_performDrawn_120 ic_1 ?_
          refine J_iadd hX dX10_performDrawn_121 ?_
          refine J_iconst hX (0 : Int32) dX10_performDrawn_122 ic_0 ?_
          obtain ⟨r6, m5, h0, h⟩ := bd2_some h
          refine J_callVi (As := [.int (4 : Int32), .int (r4 + (1 : Int32)), .int (0 : Int32)]) (st := []) hX dX10_performDrawn_123 cw_RX10_221 (by omega) (c_X6_perform hn p_isSt_59 h0) (ltn ltc_59 hn) lo_59 (by decide) rfl rfl rfl (Nat.le_of_ble_eq_true rfl) ?_
          clear h0
          refine J_pop hX dX10_performDrawn_126 rfl ?_
          refine J_iinc hX (v3 + (1 : Int32)) [(3, .int (v3 + (1 : Int32))), (4, .int r2), (0, .ref 0), (1, .ref 126), (2, .int v2)] dX10_performDrawn_127 4 rfl (congrArg (fun z => v3 + z) ic_1) (by decide) rfl ?_
          refine J_goto hX 2 dX10_performDrawn_130 (by decide) ?_
          refine J_sub [(0, .ref 0), (1, .ref 126), (2, .int v2), (3, .int (v3 + (1 : Int32)))] [2, 3, 4, 0] rfl ?_
          exact ih v2 (v3 + (1 : Int32)) m5 h
        · refine J_aload_n hX dX10_performDrawn_76 rfl 1 rfl ?_
          refine J_getR hX dX10_performDrawn_77 fl_RX10_66 (ltn ltc_0 hn) lo_0 rfl (rt_0_9 _ _ _ _ _) ?_
          refine J_iload hX dX10_performDrawn_80 0 rfl ?_
          refine J_iconst hX (5 : Int32) dX10_performDrawn_82 ic_5 ?_
          refine J_icmp_ne hX 90 dX10_performDrawn_83 (by decide) h (fun c h => ?_) (fun c h => ?_)
          · refine J_iconst hX (2 : Int32) dX10_performDrawn_86 ic_2 ?_
            refine J_goto hX 91 dX10_performDrawn_87 (by decide) ?_
            refine J_sub [(0, .ref 0), (1, .ref 126), (2, .int v2), (3, .int v3)] [1, 2, 3, 4] rfl ?_
            exact t_X10_performDrawn_J91 hX hd0 hn7 ht hu hw hv hF v2 v3 (2 : Int32) (fun w2 w3 m h => ih w2 w3 m h) m1 h
          · refine J_iconst hX (3 : Int32) dX10_performDrawn_90 ic_3 ?_
            refine J_sub [(0, .ref 0), (1, .ref 126), (2, .int v2), (3, .int v3)] [1, 2, 3, 4] rfl ?_
            exact t_X10_performDrawn_J91 hX hd0 hn7 ht hu hw hv hF v2 v3 (3 : Int32) (fun w2 w3 m h => ih w2 w3 m h) m1 h
      · refine J_aload_n hX dX10_performDrawn_21 rfl 2 rfl ?_
        refine J_aload_n hX dX10_performDrawn_22 rfl 1 rfl ?_
        refine J_getR hX dX10_performDrawn_23 fl_RX10_50 (ltn ltc_0 hn) lo_0 rfl (rt_0_6 _ _ _ _ _) ?_
        refine J_getI hX dX10_performDrawn_26 fl_RX10_109 (ltn ltc_26 hn) lo_26 rfl ?_
        obtain ⟨r12, m11, h0, h⟩ := bd2_some h
        refine J_callVi (As := [.int (gI m1 26 2)]) (st := []) hX dX10_performDrawn_29 cw_RX10_339 (by omega) (c_X2_below hn7  h0) hn7 lo_126 (by decide) rfl rfl rfl (Nat.le_of_ble_eq_true rfl) ?_
        clear h0
        refine J_istore hX [(5, .int r12), (4, .int r2), (0, .ref 0), (1, .ref 126), (2, .int v2), (3, .int v3)] dX10_performDrawn_32 (by decide) rfl ?_
        refine J_aload_n hX dX10_performDrawn_34 rfl 3 rfl ?_
        refine J_sipush hX (256 : Int32) dX10_performDrawn_35 (by decide) ?_
        obtain ⟨r14, m13, h0, h⟩ := bd2_some h
        refine J_callVi (As := [.int (256 : Int32)]) (st := []) hX dX10_performDrawn_38 cw_RX10_339 (by omega) (c_X2_below hn7  h0) hn7 lo_126 (by decide) rfl rfl rfl (Nat.le_of_ble_eq_true rfl) ?_
        clear h0
        refine J_istore hX [(6, .int r14), (5, .int r12), (4, .int r2), (0, .ref 0), (1, .ref 126), (2, .int v2), (3, .int v3)] dX10_performDrawn_41 (by decide) rfl ?_
        refine J_aload_n hX dX10_performDrawn_43 rfl 3 rfl ?_
        refine J_getR hX dX10_performDrawn_44 fl_RX10_66 (ltn ltc_0 hn) lo_0 rfl (rt_0_9 _ _ _ _ _) ?_
        refine J_iload hX dX10_performDrawn_47 2 rfl ?_
        refine J_iconst hX (2 : Int32) dX10_performDrawn_49 ic_2 ?_
        refine J_icmp_gt hX 57 dX10_performDrawn_50 (by decide) h (fun c h => ?_) (fun c h => ?_)
        · refine J_iconst hX (1 : Int32) dX10_performDrawn_57 ic_1 ?_
          refine J_iload hX dX10_performDrawn_58 1 rfl ?_
          refine J_iload hX dX10_performDrawn_60 0 rfl ?_
          obtain ⟨r16, m15, h0, h⟩ := bd2_some h
          refine J_callVi (As := [.int (1 : Int32), .int r12, .int r14]) (st := []) hX dX10_performDrawn_62 cw_RX10_221 (by omega) (c_X6_perform hn p_isSt_59 h0) (ltn ltc_59 hn) lo_59 (by decide) rfl rfl rfl (Nat.le_of_ble_eq_true rfl) ?_
          clear h0
          refine J_pop hX dX10_performDrawn_65 rfl ?_
          refine J_goto hX 127 dX10_performDrawn_66 (by decide) ?_
          refine J_iinc hX (v3 + (1 : Int32)) [(3, .int (v3 + (1 : Int32))), (6, .int r14), (5, .int r12), (4, .int r2), (0, .ref 0), (1, .ref 126), (2, .int v2)] dX10_performDrawn_127 6 rfl (congrArg (fun z => v3 + z) ic_1) (by decide) rfl ?_
          refine J_goto hX 2 dX10_performDrawn_130 (by decide) ?_
          refine J_sub [(0, .ref 0), (1, .ref 126), (2, .int v2), (3, .int (v3 + (1 : Int32)))] [4, 5, 6, 0] rfl ?_
          exact ih v2 (v3 + (1 : Int32)) m15 h
        · refine J_iconst hX (0 : Int32) dX10_performDrawn_53 ic_0 ?_
          refine J_goto hX 58 dX10_performDrawn_54 (by decide) ?_
          refine J_iload hX dX10_performDrawn_58 1 rfl ?_
          refine J_iload hX dX10_performDrawn_60 0 rfl ?_
          obtain ⟨r18, m17, h0, h⟩ := bd2_some h
          refine J_callVi (As := [.int (0 : Int32), .int r12, .int r14]) (st := []) hX dX10_performDrawn_62 cw_RX10_221 (by omega) (c_X6_perform hn p_isSt_59 h0) (ltn ltc_59 hn) lo_59 (by decide) rfl rfl rfl (Nat.le_of_ble_eq_true rfl) ?_
          clear h0
          refine J_pop hX dX10_performDrawn_65 rfl ?_
          refine J_goto hX 127 dX10_performDrawn_66 (by decide) ?_
          refine J_iinc hX (v3 + (1 : Int32)) [(3, .int (v3 + (1 : Int32))), (6, .int r14), (5, .int r12), (4, .int r2), (0, .ref 0), (1, .ref 126), (2, .int v2)] dX10_performDrawn_127 6 rfl (congrArg (fun z => v3 + z) ic_1) (by decide) rfl ?_
          refine J_goto hX 2 dX10_performDrawn_130 (by decide) ?_
          refine J_sub [(0, .ref 0), (1, .ref 126), (2, .int v2), (3, .int (v3 + (1 : Int32)))] [4, 5, 6, 0] rfl ?_
          exact ih v2 (v3 + (1 : Int32)) m17 h
    · exact J_return hX dX10_performDrawn_133 h hF
theorem t_X10_performDrawn {X : XX} {G : GG} {ρ : Nat → Nat} {n : Nat} {x : Option Nat} {d : Nat} {t : Nat} {u : Nat} {w : Nat} {v : Nat} (hX : Ok X G ρ cX10_performDrawn 7 RX10 d) (hd0 : 5 ≤ d) (hn : 127 ≤ n) (ht : isTo t) (hu : isTo u) (hw : isWk w) (hv : isWk v) {mE : Mm} (hF : Fin' X G ρ n none none (RT t u w v x) mE) {x2 : Int32} {m : Mm} (h : f_X10_performDrawn t u w v x2 m = some mE) : J X G ρ n 7 0 [(0, .ref 0), (1, .ref 126), (2, .int x2)] [] (RT t u w v x) m := by
  have hn7 : 126 < n := hn
  have hn : 126 ≤ n := Nat.le_of_lt hn7
  unfold f_X10_performDrawn at h
  refine J_iconst hX (0 : Int32) dX10_performDrawn_0 ic_0 ?_
  refine J_istore_n hX [(3, .int (0 : Int32)), (0, .ref 0), (1, .ref 126), (2, .int x2)] dX10_performDrawn_1 rfl (by decide) rfl ?_
  refine J_sub [(0, .ref 0), (1, .ref 126), (2, .int x2), (3, .int (0 : Int32))] [1, 2, 3, 0] rfl ?_
  exact t_X10_performDrawn_L2 hX hd0 hn7 ht hu hw hv hF FU x2 (0 : Int32)  m h
theorem c_X10_performDrawn {G : GG} {l : Launch} {ρ : Nat → Nat} {n : Nat} {x : Option Nat} (hn : 127 ≤ n) {t : Nat} {u : Nat} {w : Nat} {v : Nat} (ht : isTo t) (hu : isTo u) (hw : isWk w) (hv : isWk v) {x2 : Int32} {m : Mm} {mE : Mm} (h : f_X10_performDrawn t u w v x2 m = some mE) : CT G l yX10_performDrawn cX10_performDrawn 7 none 5 0 0 ρ n (RT t u w v x) [.ref 0, .ref 126, .int x2] m none (RT t u w v x) mE := ct_of_J (by decide) rfl (Nat.le_of_ble_eq_true rfl) (fun X hX e1 e2 e3 e4 hQ hr hl => t_X10_performDrawn hX (Nat.le_refl _) hn ht hu hw hv ⟨by rw [hQ, e3, e4], hr, hl⟩ h)
theorem t_X10_spreadOf_L24 {X : XX} {G : GG} {ρ : Nat → Nat} {n : Nat} {x : Option Nat} {d : Nat} {t : Nat} {u : Nat} {w : Nat} {v : Nat} {p0 : Nat} (hX : Ok X G ρ cX10_spreadOf 5 RX10 d) (hd0 : 1 ≤ d) (hn : 126 ≤ n) (ht : isTo t) (hu : isTo u) (hw : isWk w) (hv : isWk v) (hp0 : isIa p0) {rE : Int32} {mE : Mm} (hF : Fin' X G ρ n (some .int) (some (.int rE)) (RT t u w v x) mE) : ∀ (k : Nat) (v1 : Int32) (v2 : Int32) (v3 : Int32) (v4 : Int32) (m : Mm), f_X10_spreadOf_L24 t u w v p0 k v1 v2 v3 v4 m = some (rE, mE) → J X G ρ n 5 24 [(0, .ref p0), (1, .int v1), (2, .int v2), (3, .int v3), (4, .int v4)] [] (RT t u w v x) m := by
  intro k
  induction k with
  | zero => intro _ _ _ _ _ h; rw [f_X10_spreadOf_L24] at h; cases h
  | succ k ih =>
    intro v1 v2 v3 v4 m h
    rw [f_X10_spreadOf_L24] at h
    refine J_iload hX dX10_spreadOf_24 4 rfl ?_
    refine J_iload_n hX dX10_spreadOf_26 rfl 1 rfl ?_
    refine J_icmp_ge hX 54 dX10_spreadOf_27 (by decide) h (fun c h => ?_) (fun c h => ?_)
    · refine J_iload_n hX dX10_spreadOf_30 rfl 2 rfl ?_
      refine J_aload_n hX dX10_spreadOf_31 rfl 0 rfl ?_
      refine J_iload hX dX10_spreadOf_32 4 rfl ?_
      refine J_iaload hX dX10_spreadOf_34 (ltn hp0.2 hn) (layIa hp0) h (fun h => ?_)
      refine J_imax hX dX10_spreadOf_35 (by omega) cm_RX10_342 (Nat.le_of_ble_eq_true rfl) ?_
      refine J_istore_n hX [(2, .int (imax v2 (gI m p0 (ix v4)))), (0, .ref p0), (1, .int v1), (3, .int v3), (4, .int v4)] dX10_spreadOf_38 rfl (by decide) rfl ?_
      refine J_iload_n hX dX10_spreadOf_39 rfl 3 rfl ?_
      refine J_aload_n hX dX10_spreadOf_40 rfl 1 rfl ?_
      refine J_iload hX dX10_spreadOf_41 4 rfl ?_
      refine J_iaload hX dX10_spreadOf_43 (ltn hp0.2 hn) (layIa hp0) h (fun h => ?_)
      refine J_imin hX dX10_spreadOf_44 (by omega) cm_RX10_347 (Nat.le_of_ble_eq_true rfl) ?_
      refine J_istore_n hX [(3, .int (imin v3 (gI m p0 (ix v4)))), (2, .int (imax v2 (gI m p0 (ix v4)))), (0, .ref p0), (1, .int v1), (4, .int v4)] dX10_spreadOf_47 rfl (by decide) rfl ?_
      refine J_iinc hX (v4 + (1 : Int32)) [(4, .int (v4 + (1 : Int32))), (3, .int (imin v3 (gI m p0 (ix v4)))), (2, .int (imax v2 (gI m p0 (ix v4)))), (0, .ref p0), (1, .int v1)] dX10_spreadOf_48 4 rfl (congrArg (fun z => v4 + z) ic_1) (by decide) rfl ?_
      refine J_goto hX 24 dX10_spreadOf_51 (by decide) ?_
      refine J_sub [(0, .ref p0), (1, .int v1), (2, .int (imax v2 (gI m p0 (ix v4)))), (3, .int (imin v3 (gI m p0 (ix v4)))), (4, .int (v4 + (1 : Int32)))] [3, 4, 2, 1, 0] rfl ?_
      exact ih v1 (imax v2 (gI m p0 (ix v4))) (imin v3 (gI m p0 (ix v4))) (v4 + (1 : Int32)) m h
    · refine J_iload_n hX dX10_spreadOf_54 rfl 2 rfl ?_
      refine J_iload_n hX dX10_spreadOf_55 rfl 3 rfl ?_
      refine J_isub hX dX10_spreadOf_56 ?_
      exact J_ireturn hX dX10_spreadOf_57 h hF rfl
theorem t_X10_spreadOf {X : XX} {G : GG} {ρ : Nat → Nat} {n : Nat} {x : Option Nat} {d : Nat} {t : Nat} {u : Nat} {w : Nat} {v : Nat} {p0 : Nat} (hX : Ok X G ρ cX10_spreadOf 5 RX10 d) (hd0 : 1 ≤ d) (hn : 126 ≤ n) (ht : isTo t) (hu : isTo u) (hw : isWk w) (hv : isWk v) (hp0 : isIa p0) {rE : Int32} {mE : Mm} (hF : Fin' X G ρ n (some .int) (some (.int rE)) (RT t u w v x) mE) {x1 : Int32} {m : Mm} (h : f_X10_spreadOf t u w v p0 x1 m = some (rE, mE)) : J X G ρ n 5 0 [(0, .ref p0), (1, .int x1)] [] (RT t u w v x) m := by
  unfold f_X10_spreadOf at h
  refine J_iload_n hX dX10_spreadOf_0 rfl 1 rfl ?_
  refine J_iconst hX (1 : Int32) dX10_spreadOf_1 ic_1 ?_
  refine J_icmp_lt hX 11 dX10_spreadOf_2 (by decide) h (fun c h => ?_) (fun c h => ?_)
  · refine J_iconst hX (0 : Int32) dX10_spreadOf_11 ic_0 ?_
    exact J_ireturn hX dX10_spreadOf_12 h hF rfl
  · refine J_iload_n hX dX10_spreadOf_5 rfl 1 rfl ?_
    refine J_aload_n hX dX10_spreadOf_6 rfl 0 rfl ?_
    refine J_alen hX (Int32.ofNat (lay p0).2) dX10_spreadOf_7 (ltn hp0.2 hn) (layIa hp0) (by decide) rfl ?_
    refine J_icmp_le hX 13 dX10_spreadOf_8 (by decide) h (fun c h => ?_) (fun c h => ?_)
    · refine J_iconst hX (0 : Int32) dX10_spreadOf_11 ic_0 ?_
      exact J_ireturn hX dX10_spreadOf_12 h hF rfl
    · refine J_aload_n hX dX10_spreadOf_13 rfl 0 rfl ?_
      refine J_iconst hX (0 : Int32) dX10_spreadOf_14 ic_0 ?_
      refine J_iaload hX dX10_spreadOf_15 (ltn hp0.2 hn) (layIa hp0) h (fun h => ?_)
      refine J_istore_n hX [(2, .int (gI m p0 (ix (0 : Int32)))), (0, .ref p0), (1, .int x1)] dX10_spreadOf_16 rfl (by decide) rfl ?_
      refine J_aload_n hX dX10_spreadOf_17 rfl 1 rfl ?_
      refine J_iconst hX (0 : Int32) dX10_spreadOf_18 ic_0 ?_
      refine J_iaload hX dX10_spreadOf_19 (ltn hp0.2 hn) (layIa hp0) h (fun h => ?_)
      refine J_istore_n hX [(3, .int (gI m p0 (ix (0 : Int32)))), (2, .int (gI m p0 (ix (0 : Int32)))), (0, .ref p0), (1, .int x1)] dX10_spreadOf_20 rfl (by decide) rfl ?_
      refine J_iconst hX (1 : Int32) dX10_spreadOf_21 ic_1 ?_
      refine J_istore hX [(4, .int (1 : Int32)), (3, .int (gI m p0 (ix (0 : Int32)))), (2, .int (gI m p0 (ix (0 : Int32)))), (0, .ref p0), (1, .int x1)] dX10_spreadOf_22 (by decide) rfl ?_
      refine J_sub [(0, .ref p0), (1, .int x1), (2, .int (gI m p0 (ix (0 : Int32)))), (3, .int (gI m p0 (ix (0 : Int32)))), (4, .int (1 : Int32))] [3, 4, 2, 1, 0] rfl ?_
      exact t_X10_spreadOf_L24 hX hd0 hn ht hu hw hv hp0 hF FU x1 (gI m p0 (ix (0 : Int32))) (gI m p0 (ix (0 : Int32))) (1 : Int32)  m h
theorem c_X10_spreadOf {G : GG} {l : Launch} {ρ : Nat → Nat} {n : Nat} {x : Option Nat} (hn : 126 ≤ n) {t : Nat} {u : Nat} {w : Nat} {v : Nat} {p0 : Nat} (ht : isTo t) (hu : isTo u) (hw : isWk w) (hv : isWk v) (hp0 : isIa p0) {x1 : Int32} {m : Mm} {rE : Int32} {mE : Mm} (h : f_X10_spreadOf t u w v p0 x1 m = some (rE, mE)) : CT G l yX10_spreadOf cX10_spreadOf 5 (some .int) 1 0 0 ρ n (RT t u w v x) [.ref p0, .int x1] m (some (.int rE)) (RT t u w v x) mE := ct_of_J (by decide) rfl (Nat.le_of_ble_eq_true rfl) (fun X hX e1 e2 e3 e4 hQ hr hl => t_X10_spreadOf hX (Nat.le_refl _) hn ht hu hw hv hp0 ⟨by rw [hQ, e3, e4], hr, hl⟩ h)
theorem t_X6_unitsThat_L18 {X : XX} {G : GG} {ρ : Nat → Nat} {n t u w v : Nat} {x : Option Nat} {d : Nat} {a : Nat} (hX : Ok X G ρ cX6_unitsThat 5 RX6 d) (hd0 : 0 ≤ d) (hn : 126 ≤ n) (ha : isSt a) {rE : Int32} {mE : Mm} (hF : Fin' X G ρ n (some .int) (some (.int rE)) (RT t u w v x) mE) {v1 : Int32} {v3 : Int32} {K : Int32 → Mm → Option (Int32 × Mm)} (hK : ∀ (w2 : Int32) (m : Mm), K w2 m = some (rE, mE) → J X G ρ n 5 56 [(0, .ref a), (1, .int v1), (2, .int w2), (3, .int v3)] [] (RT t u w v x) m) : ∀ (k : Nat) (v2 : Int32) (v4 : Int32) (m : Mm), f_X6_unitsThat_L18 a v1 v3 K k v2 v4 m = some (rE, mE) → J X G ρ n 5 18 [(0, .ref a), (1, .int v1), (2, .int v2), (3, .int v3), (4, .int v4)] [] (RT t u w v x) m := by
  intro k
  induction k with
  | zero => intro _ _ _ h; rw [f_X6_unitsThat_L18] at h; cases h
  | succ k ih =>
    intro v2 v4 m h
    rw [f_X6_unitsThat_L18] at h
    refine J_iload hX dX6_unitsThat_18 4 rfl ?_
    refine J_aload_n hX dX6_unitsThat_20 rfl 0 rfl ?_
    refine J_getR hX dX6_unitsThat_21 fl_RX6_24 (ltn (lt_isSt_0 ha) hn) (lo_isSt_0 ha) rfl (rt_isSt_0_0 _ _ _ _ _ ha) ?_
    refine J_getR hX dX6_unitsThat_24 fl_RX6_61 (ltn ltc_26 hn) lo_26 rfl (rt_26_3 _ _ _ _ _) ?_
    refine J_iload_n hX dX6_unitsThat_27 rfl 3 rfl ?_
    refine J_iaload hX dX6_unitsThat_28 (ltn ltc_27 hn) lay_27 h (fun h => ?_)
    refine J_icmp_ge hX 56 dX6_unitsThat_29 (by decide) h (fun c h => ?_) (fun c h => ?_)
    · refine J_aload_n hX dX6_unitsThat_32 rfl 0 rfl ?_
      refine J_getR hX dX6_unitsThat_33 fl_RX6_9 (ltn (lt_isSt_0 ha) hn) (lo_isSt_0 ha) rfl (rt_isSt_0_2 _ _ _ _ _ ha) ?_
      refine J_iload_n hX dX6_unitsThat_36 rfl 3 rfl ?_
      refine J_iconst hX (5 : Int32) dX6_unitsThat_37 ic_5 ?_
      refine J_imul hX dX6_unitsThat_38 ?_
      refine J_iload hX dX6_unitsThat_39 4 rfl ?_
      refine J_iadd hX dX6_unitsThat_41 ?_
      refine J_iaload hX dX6_unitsThat_42 (ltn (lt_isSt_1 ha) hn) (lay_isSt_1 ha) h (fun h => ?_)
      refine J_iload_n hX dX6_unitsThat_43 rfl 1 rfl ?_
      refine J_icmp_ne hX 50 dX6_unitsThat_44 (by decide) h (fun c h => ?_) (fun c h => ?_)
      · refine J_iinc hX (v2 + (1 : Int32)) [(2, .int (v2 + (1 : Int32))), (0, .ref a), (1, .int v1), (3, .int v3), (4, .int v4)] dX6_unitsThat_47 2 rfl (congrArg (fun z => v2 + z) ic_1) (by decide) rfl ?_
        refine J_iinc hX (v4 + (1 : Int32)) [(4, .int (v4 + (1 : Int32))), (2, .int (v2 + (1 : Int32))), (0, .ref a), (1, .int v1), (3, .int v3)] dX6_unitsThat_50 4 rfl (congrArg (fun z => v4 + z) ic_1) (by decide) rfl ?_
        refine J_goto hX 18 dX6_unitsThat_53 (by decide) ?_
        refine J_sub [(0, .ref a), (1, .int v1), (2, .int (v2 + (1 : Int32))), (3, .int v3), (4, .int (v4 + (1 : Int32)))] [2, 3, 1, 4, 0] rfl ?_
        exact ih (v2 + (1 : Int32)) (v4 + (1 : Int32)) m h
      · refine J_iinc hX (v4 + (1 : Int32)) [(4, .int (v4 + (1 : Int32))), (0, .ref a), (1, .int v1), (2, .int v2), (3, .int v3)] dX6_unitsThat_50 4 rfl (congrArg (fun z => v4 + z) ic_1) (by decide) rfl ?_
        refine J_goto hX 18 dX6_unitsThat_53 (by decide) ?_
        refine J_sub [(0, .ref a), (1, .int v1), (2, .int v2), (3, .int v3), (4, .int (v4 + (1 : Int32)))] [1, 2, 3, 4, 0] rfl ?_
        exact ih v2 (v4 + (1 : Int32)) m h
    · refine J_sub [(0, .ref a), (1, .int v1), (2, .int v2), (3, .int v3)] [0, 1, 2, 3] rfl ?_
      exact hK v2 m h
theorem t_X6_unitsThat_L4 {X : XX} {G : GG} {ρ : Nat → Nat} {n t u w v : Nat} {x : Option Nat} {d : Nat} {a : Nat} (hX : Ok X G ρ cX6_unitsThat 5 RX6 d) (hd0 : 0 ≤ d) (hn : 126 ≤ n) (ha : isSt a) {rE : Int32} {mE : Mm} (hF : Fin' X G ρ n (some .int) (some (.int rE)) (RT t u w v x) mE) : ∀ (k : Nat) (v1 : Int32) (v2 : Int32) (v3 : Int32) (m : Mm), f_X6_unitsThat_L4 a k v1 v2 v3 m = some (rE, mE) → J X G ρ n 5 4 [(0, .ref a), (1, .int v1), (2, .int v2), (3, .int v3)] [] (RT t u w v x) m := by
  intro k
  induction k with
  | zero => intro _ _ _ _ h; rw [f_X6_unitsThat_L4] at h; cases h
  | succ k ih =>
    intro v1 v2 v3 m h
    rw [f_X6_unitsThat_L4] at h
    refine J_iload_n hX dX6_unitsThat_4 rfl 3 rfl ?_
    refine J_aload_n hX dX6_unitsThat_5 rfl 0 rfl ?_
    refine J_getR hX dX6_unitsThat_6 fl_RX6_24 (ltn (lt_isSt_0 ha) hn) (lo_isSt_0 ha) rfl (rt_isSt_0_0 _ _ _ _ _ ha) ?_
    refine J_getI hX dX6_unitsThat_9 fl_RX6_76 (ltn ltc_26 hn) lo_26 rfl ?_
    refine J_icmp_ge hX 62 dX6_unitsThat_12 (by decide) h (fun c h => ?_) (fun c h => ?_)
    · refine J_iconst hX (0 : Int32) dX6_unitsThat_15 ic_0 ?_
      refine J_istore hX [(4, .int (0 : Int32)), (0, .ref a), (1, .int v1), (2, .int v2), (3, .int v3)] dX6_unitsThat_16 (by decide) rfl ?_
      refine J_sub [(0, .ref a), (1, .int v1), (2, .int v2), (3, .int v3), (4, .int (0 : Int32))] [1, 2, 3, 4, 0] rfl ?_
      refine t_X6_unitsThat_L18 hX hd0 hn ha hF (fun w1 m2 h => ?_) FU v2 (0 : Int32) m h
      refine J_iinc hX (v3 + (1 : Int32)) [(3, .int (v3 + (1 : Int32))), (0, .ref a), (1, .int v1), (2, .int w1)] dX6_unitsThat_56 3 rfl (congrArg (fun z => v3 + z) ic_1) (by decide) rfl ?_
      refine J_goto hX 4 dX6_unitsThat_59 (by decide) ?_
      refine J_sub [(0, .ref a), (1, .int v1), (2, .int w1), (3, .int (v3 + (1 : Int32)))] [1, 2, 3, 0] rfl ?_
      exact ih v1 w1 (v3 + (1 : Int32)) m2 h
    · refine J_iload_n hX dX6_unitsThat_62 rfl 2 rfl ?_
      exact J_ireturn hX dX6_unitsThat_63 h hF rfl
theorem t_X6_unitsThat {X : XX} {G : GG} {ρ : Nat → Nat} {n t u w v : Nat} {x : Option Nat} {d : Nat} {a : Nat} (hX : Ok X G ρ cX6_unitsThat 5 RX6 d) (hd0 : 0 ≤ d) (hn : 126 ≤ n) (ha : isSt a) {rE : Int32} {mE : Mm} (hF : Fin' X G ρ n (some .int) (some (.int rE)) (RT t u w v x) mE) {x1 : Int32} {m : Mm} (h : f_X6_unitsThat a x1 m = some (rE, mE)) : J X G ρ n 5 0 [(0, .ref a), (1, .int x1)] [] (RT t u w v x) m := by
  unfold f_X6_unitsThat at h
  refine J_iconst hX (0 : Int32) dX6_unitsThat_0 ic_0 ?_
  refine J_istore_n hX [(2, .int (0 : Int32)), (0, .ref a), (1, .int x1)] dX6_unitsThat_1 rfl (by decide) rfl ?_
  refine J_iconst hX (0 : Int32) dX6_unitsThat_2 ic_0 ?_
  refine J_istore_n hX [(3, .int (0 : Int32)), (2, .int (0 : Int32)), (0, .ref a), (1, .int x1)] dX6_unitsThat_3 rfl (by decide) rfl ?_
  refine J_sub [(0, .ref a), (1, .int x1), (2, .int (0 : Int32)), (3, .int (0 : Int32))] [2, 3, 1, 0] rfl ?_
  exact t_X6_unitsThat_L4 hX hd0 hn ha hF FU x1 (0 : Int32) (0 : Int32)  m h
theorem c_X6_unitsThat {G : GG} {l : Launch} {ρ : Nat → Nat} {n t u w v : Nat} {x : Option Nat} (hn : 126 ≤ n) {a : Nat} (ha : isSt a) {x1 : Int32} {m : Mm} {rE : Int32} {mE : Mm} (h : f_X6_unitsThat a x1 m = some (rE, mE)) : CT G l yX6_unitsThat cX6_unitsThat 5 (some .int) 0 0 0 ρ n (RT t u w v x) [.ref a, .int x1] m (some (.int rE)) (RT t u w v x) mE := ct_of_J (by decide) rfl (Nat.le_of_ble_eq_true rfl) (fun X hX e1 e2 e3 e4 hQ hr hl => t_X6_unitsThat hX (Nat.le_refl _) hn ha ⟨by rw [hQ, e3, e4], hr, hl⟩ h)
theorem t_X11_fresh0_L2 {X : XX} {G : GG} {ρ : Nat → Nat} {n t u w v : Nat} {x : Option Nat} {d : Nat} (hX : Ok X G ρ cX11_fresh0 2 RX11 d) (hd0 : 0 ≤ d) (hn : 126 ≤ n) {mE : Mm} (hF : Fin' X G ρ n none none (RT t u w v x) mE) : ∀ (k : Nat) (v1 : Int32) (m : Mm), f_X11_fresh0_L2 k v1 m = some mE → J X G ρ n 2 2 [(0, .ref 78), (1, .int v1)] [] (RT t u w v x) m := by
  intro k
  induction k with
  | zero => intro _ _ h; rw [f_X11_fresh0_L2] at h; cases h
  | succ k ih =>
    intro v1 m h
    rw [f_X11_fresh0_L2] at h
    refine J_iload_n hX dX11_fresh0_2 rfl 1 rfl ?_
    refine J_sipush hX (374 : Int32) dX11_fresh0_3 (by decide) ?_
    refine J_icmp_ge hX 22 dX11_fresh0_6 (by decide) h (fun c h => ?_) (fun c h => ?_)
    · refine J_aload_n hX dX11_fresh0_9 rfl 0 rfl ?_
      refine J_getR hX dX11_fresh0_10 fl_RX11_125 (ltn ltc_78 hn) lo_78 rfl (rt_78_50 _ _ _ _ _) ?_
      refine J_iload_n hX dX11_fresh0_13 rfl 1 rfl ?_
      refine J_iconst hX (0 : Int32) dX11_fresh0_14 ic_0 ?_
      refine J_iastore hX dX11_fresh0_15 (ltn ltc_117 hn) lay_117 h (fun m2 h => ?_)
      refine J_iinc hX (v1 + (1 : Int32)) [(1, .int (v1 + (1 : Int32))), (0, .ref 78)] dX11_fresh0_16 1 rfl (congrArg (fun z => v1 + z) ic_1) (by decide) rfl ?_
      refine J_goto hX 2 dX11_fresh0_19 (by decide) ?_
      refine J_sub [(0, .ref 78), (1, .int (v1 + (1 : Int32)))] [1, 0] rfl ?_
      exact ih (v1 + (1 : Int32)) m2 h
    · refine J_aload_n hX dX11_fresh0_22 rfl 0 rfl ?_
      refine J_getR hX dX11_fresh0_23 fl_RX11_125 (ltn ltc_78 hn) lo_78 rfl (rt_78_50 _ _ _ _ _) ?_
      refine J_iconst hX (0 : Int32) dX11_fresh0_26 ic_0 ?_
      refine J_iconst hX (1 : Int32) dX11_fresh0_27 ic_1 ?_
      refine J_aload_n hX dX11_fresh0_28 rfl 0 rfl ?_
      refine J_getR hX dX11_fresh0_29 fl_RX11_13 (ltn ltc_78 hn) lo_78 rfl (rt_78_10 _ _ _ _ _) ?_
      refine J_iconst hX (0 : Int32) dX11_fresh0_32 ic_0 ?_
      refine J_iaload0 hX dX11_fresh0_33 (ltn ltc_80 hn) lay_80 (by decide) ?_
      refine J_ishl hX dX11_fresh0_34 ?_
      refine J_iconst hX (1 : Int32) dX11_fresh0_35 ic_1 ?_
      refine J_isub hX dX11_fresh0_36 ?_
      refine J_iastore0 hX dX11_fresh0_37 (ltn ltc_117 hn) lay_117 (by decide) h (fun m1 h => ?_)
      exact J_return hX dX11_fresh0_38 h hF
theorem t_X11_fresh0 {X : XX} {G : GG} {ρ : Nat → Nat} {n t u w v : Nat} {x : Option Nat} {d : Nat} (hX : Ok X G ρ cX11_fresh0 2 RX11 d) (hd0 : 0 ≤ d) (hn : 126 ≤ n) {mE : Mm} (hF : Fin' X G ρ n none none (RT t u w v x) mE) {m : Mm} (h : f_X11_fresh0 m = some mE) : J X G ρ n 2 0 [(0, .ref 78)] [] (RT t u w v x) m := by
  unfold f_X11_fresh0 at h
  refine J_iconst hX (0 : Int32) dX11_fresh0_0 ic_0 ?_
  refine J_istore_n hX [(1, .int (0 : Int32)), (0, .ref 78)] dX11_fresh0_1 rfl (by decide) rfl ?_
  refine J_sub [(0, .ref 78), (1, .int (0 : Int32))] [1, 0] rfl ?_
  exact t_X11_fresh0_L2 hX hd0 hn hF FU (0 : Int32)  m h
theorem c_X11_fresh0 {G : GG} {l : Launch} {ρ : Nat → Nat} {n t u w v : Nat} {x : Option Nat} (hn : 126 ≤ n) {m : Mm} {mE : Mm} (h : f_X11_fresh0 m = some mE) : CT G l yX11_fresh0 cX11_fresh0 2 none 0 0 0 ρ n (RT t u w v x) [.ref 78] m none (RT t u w v x) mE := ct_of_J (by decide) rfl (Nat.le_of_ble_eq_true rfl) (fun X hX e1 e2 e3 e4 hQ hr hl => t_X11_fresh0 hX (Nat.le_refl _) hn ⟨by rw [hQ, e3, e4], hr, hl⟩ h)
theorem t_X11_fact {X : XX} {G : GG} {ρ : Nat → Nat} {n t u w v : Nat} {x : Option Nat} {d : Nat} (hX : Ok X G ρ cX11_fact 1 RX11 d) (hd0 : 0 ≤ d) (hn : 126 ≤ n) {rE : Int32} {mE : Mm} (hF : Fin' X G ρ n (some .int) (some (.int rE)) (RT t u w v x) mE) {m : Mm} (h : f_X11_fact m = some (rE, mE)) : J X G ρ n 1 0 [(0, .ref 78)] [] (RT t u w v x) m := by
  unfold f_X11_fact at h
  refine J_aload_n hX dX11_fact_0 rfl 0 rfl ?_
  refine J_getI hX dX11_fact_1 fl_RX11_177 (ltn ltc_78 hn) lo_78 rfl ?_
  refine J_iconst hX (1 : Int32) dX11_fact_4 ic_1 ?_
  refine J_icmp_eq hX 10 dX11_fact_5 (by decide) h (fun c h => ?_) (fun c h => ?_)
  · refine J_aload_n hX dX11_fact_10 rfl 0 rfl ?_
    refine J_getL hX dX11_fact_11 fl_RX11_170 (ltn ltc_78 hn) lo_78 rfl ?_
    refine J_ldc2 hX (283619345 : Int64) dX11_fact_14 k_RX11_194 ?_
    refine J_lcmp hX dX11_fact_17 ?_
    refine J_if_ne hX 23 dX11_fact_18 (by decide) h (fun c h => ?_) (fun c h => ?_)
    · refine J_iconst hX (1 : Int32) dX11_fact_21 ic_1 ?_
      exact J_ireturn hX dX11_fact_22 h hF rfl
    · refine J_aload_n hX dX11_fact_23 rfl 0 rfl ?_
      refine J_getL hX dX11_fact_24 fl_RX11_170 (ltn ltc_78 hn) lo_78 rfl ?_
      refine J_ldc2 hX (381245 : Int64) dX11_fact_27 k_RX11_196 ?_
      refine J_lcmp hX dX11_fact_30 ?_
      refine J_if_ne hX 36 dX11_fact_31 (by decide) h (fun c h => ?_) (fun c h => ?_)
      · refine J_iconst hX (2 : Int32) dX11_fact_34 ic_2 ?_
        exact J_ireturn hX dX11_fact_35 h hF rfl
      · refine J_aload_n hX dX11_fact_36 rfl 0 rfl ?_
        refine J_getL hX dX11_fact_37 fl_RX11_170 (ltn ltc_78 hn) lo_78 rfl ?_
        refine J_ldc2 hX (3379448 : Int64) dX11_fact_40 k_RX11_198 ?_
        refine J_lcmp hX dX11_fact_43 ?_
        refine J_if_ne hX 51 dX11_fact_44 (by decide) h (fun c h => ?_) (fun c h => ?_)
        · refine J_iconst hX (3 : Int32) dX11_fact_47 ic_3 ?_
          refine J_goto hX 67 dX11_fact_48 (by decide) ?_
          exact J_ireturn hX dX11_fact_67 h hF rfl
        · refine J_aload_n hX dX11_fact_51 rfl 0 rfl ?_
          refine J_getL hX dX11_fact_52 fl_RX11_170 (ltn ltc_78 hn) lo_78 rfl ?_
          refine J_ldc2 hX (12387257 : Int64) dX11_fact_55 k_RX11_200 ?_
          refine J_lcmp hX dX11_fact_58 ?_
          refine J_if_ne hX 66 dX11_fact_59 (by decide) h (fun c h => ?_) (fun c h => ?_)
          · refine J_iconst hX (4 : Int32) dX11_fact_62 ic_4 ?_
            refine J_goto hX 67 dX11_fact_63 (by decide) ?_
            exact J_ireturn hX dX11_fact_67 h hF rfl
          · refine J_iconst hX (0 : Int32) dX11_fact_66 ic_0 ?_
            exact J_ireturn hX dX11_fact_67 h hF rfl
  · refine J_iconst hX (0 : Int32) dX11_fact_8 ic_0 ?_
    exact J_ireturn hX dX11_fact_9 h hF rfl
theorem c_X11_fact {G : GG} {l : Launch} {ρ : Nat → Nat} {n t u w v : Nat} {x : Option Nat} (hn : 126 ≤ n) {m : Mm} {rE : Int32} {mE : Mm} (h : f_X11_fact m = some (rE, mE)) : CT G l yX11_fact cX11_fact 1 (some .int) 0 0 0 ρ n (RT t u w v x) [.ref 78] m (some (.int rE)) (RT t u w v x) mE := ct_of_J (by decide) rfl (Nat.le_of_ble_eq_true rfl) (fun X hX e1 e2 e3 e4 hQ hr hl => t_X11_fact hX (Nat.le_refl _) hn ⟨by rw [hQ, e3, e4], hr, hl⟩ h)
theorem t_X11_isWord {X : XX} {G : GG} {ρ : Nat → Nat} {n t u w v : Nat} {x : Option Nat} {d : Nat} (hX : Ok X G ρ cX11_isWord 3 RX11 d) (hd0 : 0 ≤ d) (hn : 126 ≤ n) {rE : Int32} {mE : Mm} (hF : Fin' X G ρ n (some .boolean) (some (.int rE)) (RT t u w v x) mE) {x1 : Int64} {m : Mm} (h : f_X11_isWord x1 m = some (rE, mE)) : J X G ρ n 3 0 [(0, .ref 78), (1, .long x1)] [] (RT t u w v x) m := by
  unfold f_X11_isWord at h
  refine J_aload_n hX dX11_isWord_0 rfl 0 rfl ?_
  refine J_getI hX dX11_isWord_1 fl_RX11_177 (ltn ltc_78 hn) lo_78 rfl ?_
  refine J_iconst hX (1 : Int32) dX11_isWord_4 ic_1 ?_
  refine J_icmp_ne hX 21 dX11_isWord_5 (by decide) h (fun c h => ?_) (fun c h => ?_)
  · refine J_aload_n hX dX11_isWord_8 rfl 0 rfl ?_
    refine J_getL hX dX11_isWord_9 fl_RX11_170 (ltn ltc_78 hn) lo_78 rfl ?_
    refine J_lload_n hX dX11_isWord_12 rfl 1 rfl ?_
    refine J_lcmp hX dX11_isWord_13 ?_
    refine J_if_ne hX 21 dX11_isWord_14 (by decide) h (fun c h => ?_) (fun c h => ?_)
    · refine J_iconst hX (1 : Int32) dX11_isWord_17 ic_1 ?_
      refine J_goto hX 22 dX11_isWord_18 (by decide) ?_
      exact J_ireturn hX dX11_isWord_22 h hF narrow_b1
    · refine J_iconst hX (0 : Int32) dX11_isWord_21 ic_0 ?_
      exact J_ireturn hX dX11_isWord_22 h hF narrow_b0
  · refine J_iconst hX (0 : Int32) dX11_isWord_21 ic_0 ?_
    exact J_ireturn hX dX11_isWord_22 h hF narrow_b0
theorem c_X11_isWord {G : GG} {l : Launch} {ρ : Nat → Nat} {n t u w v : Nat} {x : Option Nat} (hn : 126 ≤ n) {x1 : Int64} {m : Mm} {rE : Int32} {mE : Mm} (h : f_X11_isWord x1 m = some (rE, mE)) : CT G l yX11_isWord cX11_isWord 3 (some .boolean) 0 0 0 ρ n (RT t u w v x) [.ref 78, .long x1] m (some (.int rE)) (RT t u w v x) mE := ct_of_J (by decide) rfl (Nat.le_of_ble_eq_true rfl) (fun X hX e1 e2 e3 e4 hQ hr hl => t_X11_isWord hX (Nat.le_refl _) hn ⟨by rw [hQ, e3, e4], hr, hl⟩ h)
theorem t_X11_isSign {X : XX} {G : GG} {ρ : Nat → Nat} {n t u w v : Nat} {x : Option Nat} {d : Nat} (hX : Ok X G ρ cX11_isSign 2 RX11 d) (hd0 : 0 ≤ d) (hn : 126 ≤ n) {rE : Int32} {mE : Mm} (hF : Fin' X G ρ n (some .boolean) (some (.int rE)) (RT t u w v x) mE) {x1 : Int32} {m : Mm} (h : f_X11_isSign x1 m = some (rE, mE)) : J X G ρ n 2 0 [(0, .ref 78), (1, .int x1)] [] (RT t u w v x) m := by
  unfold f_X11_isSign at h
  refine J_aload_n hX dX11_isSign_0 rfl 0 rfl ?_
  refine J_getI hX dX11_isSign_1 fl_RX11_177 (ltn ltc_78 hn) lo_78 rfl ?_
  refine J_iconst hX (3 : Int32) dX11_isSign_4 ic_3 ?_
  refine J_icmp_ne hX 25 dX11_isSign_5 (by decide) h (fun c h => ?_) (fun c h => ?_)
  · refine J_aload_n hX dX11_isSign_8 rfl 0 rfl ?_
    refine J_getR hX dX11_isSign_9 fl_RX11_7 (ltn ltc_78 hn) lo_78 rfl (rt_78_2 _ _ _ _ _) ?_
    refine J_aload_n hX dX11_isSign_12 rfl 0 rfl ?_
    refine J_getI hX dX11_isSign_13 fl_RX11_167 (ltn ltc_78 hn) lo_78 rfl ?_
    refine J_iaload hX dX11_isSign_16 (ltn ltc_79 hn) lay_79 h (fun h => ?_)
    refine J_iload_n hX dX11_isSign_17 rfl 1 rfl ?_
    refine J_icmp_ne hX 25 dX11_isSign_18 (by decide) h (fun c h => ?_) (fun c h => ?_)
    · refine J_iconst hX (1 : Int32) dX11_isSign_21 ic_1 ?_
      refine J_goto hX 26 dX11_isSign_22 (by decide) ?_
      exact J_ireturn hX dX11_isSign_26 h hF narrow_b1
    · refine J_iconst hX (0 : Int32) dX11_isSign_25 ic_0 ?_
      exact J_ireturn hX dX11_isSign_26 h hF narrow_b0
  · refine J_iconst hX (0 : Int32) dX11_isSign_25 ic_0 ?_
    exact J_ireturn hX dX11_isSign_26 h hF narrow_b0
theorem c_X11_isSign {G : GG} {l : Launch} {ρ : Nat → Nat} {n t u w v : Nat} {x : Option Nat} (hn : 126 ≤ n) {x1 : Int32} {m : Mm} {rE : Int32} {mE : Mm} (h : f_X11_isSign x1 m = some (rE, mE)) : CT G l yX11_isSign cX11_isSign 2 (some .boolean) 0 0 0 ρ n (RT t u w v x) [.ref 78, .int x1] m (some (.int rE)) (RT t u w v x) mE := ct_of_J (by decide) rfl (Nat.le_of_ble_eq_true rfl) (fun X hX e1 e2 e3 e4 hQ hr hl => t_X11_isSign hX (Nat.le_refl _) hn ⟨by rw [hQ, e3, e4], hr, hl⟩ h)
theorem t_X11_fails {X : XX} {G : GG} {ρ : Nat → Nat} {n t u w v : Nat} {x : Option Nat} {d : Nat} (hX : Ok X G ρ cX11_fails 2 RX11 d) (hd0 : 0 ≤ d) (hn : 126 ≤ n) {rE : Int32} {mE : Mm} (hF : Fin' X G ρ n (some .boolean) (some (.int rE)) (RT t u w v x) mE) {x1 : Int32} {m : Mm} (h : f_X11_fails x1 m = some (rE, mE)) : J X G ρ n 2 0 [(0, .ref 78), (1, .int x1)] [] (RT t u w v x) m := by
  unfold f_X11_fails at h
  refine J_aload_n hX dX11_fails_0 rfl 0 rfl ?_
  refine J_iload_n hX dX11_fails_1 rfl 1 rfl ?_
  refine J_bipush hX (16 : Int32) dX11_fails_2 (by decide) ?_
  refine J_aload_n hX dX11_fails_4 rfl 0 rfl ?_
  refine J_getI hX dX11_fails_5 fl_RX11_167 (ltn ltc_78 hn) lo_78 rfl ?_
  refine J_imul hX dX11_fails_8 ?_
  refine J_iadd hX dX11_fails_9 ?_
  refine J_putI hX dX11_fails_10 pl_RX11_188 (ltn ltc_78 hn) lo_78 rfl rfl rfl h (fun m1 h => ?_)
  refine J_iconst hX (0 : Int32) dX11_fails_13 ic_0 ?_
  exact J_ireturn hX dX11_fails_14 h hF narrow_b0
theorem c_X11_fails {G : GG} {l : Launch} {ρ : Nat → Nat} {n t u w v : Nat} {x : Option Nat} (hn : 126 ≤ n) {x1 : Int32} {m : Mm} {rE : Int32} {mE : Mm} (h : f_X11_fails x1 m = some (rE, mE)) : CT G l yX11_fails cX11_fails 2 (some .boolean) 0 0 0 ρ n (RT t u w v x) [.ref 78, .int x1] m (some (.int rE)) (RT t u w v x) mE := ct_of_J (by decide) rfl (Nat.le_of_ble_eq_true rfl) (fun X hX e1 e2 e3 e4 hQ hr hl => t_X11_fails hX (Nat.le_refl _) hn ⟨by rw [hQ, e3, e4], hr, hl⟩ h)
theorem t_X11_puts {X : XX} {G : GG} {ρ : Nat → Nat} {n t u w v : Nat} {x : Option Nat} {d : Nat} (hX : Ok X G ρ cX11_puts 2 RX11 d) (hd0 : 0 ≤ d) (hn : 126 ≤ n) {mE : Mm} (hF : Fin' X G ρ n none none (RT t u w v x) mE) {x1 : Int32} {m : Mm} (h : f_X11_puts x1 m = some mE) : J X G ρ n 2 0 [(0, .ref 78), (1, .int x1)] [] (RT t u w v x) m := by
  unfold f_X11_puts at h
  refine J_aload_n hX dX11_puts_0 rfl 0 rfl ?_
  refine J_getR hX dX11_puts_1 fl_RX11_31 (ltn ltc_78 hn) lo_78 rfl (rt_78_16 _ _ _ _ _) ?_
  refine J_aload_n hX dX11_puts_4 rfl 0 rfl ?_
  refine J_getI hX dX11_puts_5 fl_RX11_191 (ltn ltc_78 hn) lo_78 rfl ?_
  refine J_iload_n hX dX11_puts_8 rfl 1 rfl ?_
  refine J_iastore hX dX11_puts_9 (ltn ltc_86 hn) lay_86 h (fun m1 h => ?_)
  refine J_aload_n hX dX11_puts_10 rfl 0 rfl ?_
  refine J_dup hX dX11_puts_11 rfl ?_
  refine J_getI hX dX11_puts_12 fl_RX11_191 (ltn ltc_78 hn) lo_78 rfl ?_
  refine J_iconst hX (1 : Int32) dX11_puts_15 ic_1 ?_
  refine J_iadd hX dX11_puts_16 ?_
  refine J_putI hX dX11_puts_17 pl_RX11_191 (ltn ltc_78 hn) lo_78 rfl rfl rfl h (fun m2 h => ?_)
  exact J_return hX dX11_puts_20 h hF
theorem c_X11_puts {G : GG} {l : Launch} {ρ : Nat → Nat} {n t u w v : Nat} {x : Option Nat} (hn : 126 ≤ n) {x1 : Int32} {m : Mm} {mE : Mm} (h : f_X11_puts x1 m = some mE) : CT G l yX11_puts cX11_puts 2 none 0 0 0 ρ n (RT t u w v x) [.ref 78, .int x1] m none (RT t u w v x) mE := ct_of_J (by decide) rfl (Nat.le_of_ble_eq_true rfl) (fun X hX e1 e2 e3 e4 hQ hr hl => t_X11_puts hX (Nat.le_refl _) hn ⟨by rw [hQ, e3, e4], hr, hl⟩ h)
theorem t_X11_signAt {X : XX} {G : GG} {ρ : Nat → Nat} {n t u w v : Nat} {x : Option Nat} {d : Nat} (hX : Ok X G ρ cX11_signAt 2 RX11 d) (hd0 : 0 ≤ d) (hn : 126 ≤ n) {rE : Int32} {mE : Mm} (hF : Fin' X G ρ n (some .int) (some (.int rE)) (RT t u w v x) mE) {x1 : Int32} {m : Mm} (h : f_X11_signAt x1 m = some (rE, mE)) : J X G ρ n 2 0 [(0, .ref 78), (1, .int x1)] [] (RT t u w v x) m := by
  unfold f_X11_signAt at h
  refine J_iload_n hX dX11_signAt_0 rfl 1 rfl ?_
  refine J_aload_n hX dX11_signAt_1 rfl 0 rfl ?_
  refine J_getI hX dX11_signAt_2 fl_RX11_161 (ltn ltc_78 hn) lo_78 rfl ?_
  refine J_icmp_ge hX 17 dX11_signAt_5 (by decide) h (fun c h => ?_) (fun c h => ?_)
  · refine J_aload_n hX dX11_signAt_8 rfl 0 rfl ?_
    refine J_getR hX dX11_signAt_9 fl_RX11_7 (ltn ltc_78 hn) lo_78 rfl (rt_78_2 _ _ _ _ _) ?_
    refine J_iload_n hX dX11_signAt_12 rfl 1 rfl ?_
    refine J_iaload hX dX11_signAt_13 (ltn ltc_79 hn) lay_79 h (fun h => ?_)
    refine J_goto hX 18 dX11_signAt_14 (by decide) ?_
    exact J_ireturn hX dX11_signAt_18 h hF rfl
  · refine J_iconst hX (0 : Int32) dX11_signAt_17 ic_0 ?_
    exact J_ireturn hX dX11_signAt_18 h hF rfl
theorem c_X11_signAt {G : GG} {l : Launch} {ρ : Nat → Nat} {n t u w v : Nat} {x : Option Nat} (hn : 126 ≤ n) {x1 : Int32} {m : Mm} {rE : Int32} {mE : Mm} (h : f_X11_signAt x1 m = some (rE, mE)) : CT G l yX11_signAt cX11_signAt 2 (some .int) 0 0 0 ρ n (RT t u w v x) [.ref 78, .int x1] m (some (.int rE)) (RT t u w v x) mE := ct_of_J (by decide) rfl (Nat.le_of_ble_eq_true rfl) (fun X hX e1 e2 e3 e4 hQ hr hl => t_X11_signAt hX (Nat.le_refl _) hn ⟨by rw [hQ, e3, e4], hr, hl⟩ h)
theorem t_X11_nextToken_J345 {X : XX} {G : GG} {ρ : Nat → Nat} {n t u w v : Nat} {x : Option Nat} {d : Nat} (hX : Ok X G ρ cX11_nextToken 2 RX11 d) (hd0 : 1 ≤ d) (hn : 126 ≤ n) {mE : Mm} (hF : Fin' X G ρ n none none (RT t u w v x) mE) (v1 : Int32) (m : Mm) (h : f_X11_nextToken_J345 v1 m = some mE) : J X G ρ n 2 345 [(1, .int v1)] [.ref 78] (RT t u w v x) m := by
  unfold f_X11_nextToken_J345 at h
  refine J_iload_n hX dX11_nextToken_345 rfl 0 rfl ?_
  refine J_bipush hX (45 : Int32) dX11_nextToken_346 (by decide) ?_
  refine J_icmp_eq hX 363 dX11_nextToken_348 (by decide) h (fun c h => ?_) (fun c h => ?_)
  · refine J_iconst hX (3 : Int32) dX11_nextToken_363 ic_3 ?_
    refine J_goto hX 368 dX11_nextToken_364 (by decide) ?_
    refine J_putI hX dX11_nextToken_368 pl_RX11_177 (ltn ltc_78 hn) lo_78 rfl rfl rfl h (fun m5 h => ?_)
    exact J_return hX dX11_nextToken_371 h hF
  · refine J_iload_n hX dX11_nextToken_351 rfl 0 rfl ?_
    refine J_bipush hX (59 : Int32) dX11_nextToken_352 (by decide) ?_
    refine J_icmp_lt hX 367 dX11_nextToken_354 (by decide) h (fun c h => ?_) (fun c h => ?_)
    · refine J_iconst hX (4 : Int32) dX11_nextToken_367 ic_4 ?_
      refine J_putI hX dX11_nextToken_368 pl_RX11_177 (ltn ltc_78 hn) lo_78 rfl rfl rfl h (fun m6 h => ?_)
      exact J_return hX dX11_nextToken_371 h hF
    · refine J_iload_n hX dX11_nextToken_357 rfl 0 rfl ?_
      refine J_bipush hX (61 : Int32) dX11_nextToken_358 (by decide) ?_
      refine J_icmp_gt hX 367 dX11_nextToken_360 (by decide) h (fun c h => ?_) (fun c h => ?_)
      · refine J_iconst hX (4 : Int32) dX11_nextToken_367 ic_4 ?_
        refine J_putI hX dX11_nextToken_368 pl_RX11_177 (ltn ltc_78 hn) lo_78 rfl rfl rfl h (fun m7 h => ?_)
        exact J_return hX dX11_nextToken_371 h hF
      · refine J_iconst hX (3 : Int32) dX11_nextToken_363 ic_3 ?_
        refine J_goto hX 368 dX11_nextToken_364 (by decide) ?_
        refine J_putI hX dX11_nextToken_368 pl_RX11_177 (ltn ltc_78 hn) lo_78 rfl rfl rfl h (fun m8 h => ?_)
        exact J_return hX dX11_nextToken_371 h hF
theorem t_X11_nextToken_J322 {X : XX} {G : GG} {ρ : Nat → Nat} {n t u w v : Nat} {x : Option Nat} {d : Nat} (hX : Ok X G ρ cX11_nextToken 2 RX11 d) (hd0 : 1 ≤ d) (hn : 126 ≤ n) {mE : Mm} (hF : Fin' X G ρ n none none (RT t u w v x) mE) (v1 : Int32) (m : Mm) (h : f_X11_nextToken_J322 v1 m = some mE) : J X G ρ n 2 322 [(0, .ref 78), (1, .int v1)] [] (RT t u w v x) m := by
  unfold f_X11_nextToken_J322 at h
  refine J_aload_n hX dX11_nextToken_322 rfl 0 rfl ?_
  refine J_dup hX dX11_nextToken_323 rfl ?_
  refine J_getI hX dX11_nextToken_324 fl_RX11_164 (ltn ltc_78 hn) lo_78 rfl ?_
  refine J_iconst hX (1 : Int32) dX11_nextToken_327 ic_1 ?_
  refine J_iadd hX dX11_nextToken_328 ?_
  refine J_putI hX dX11_nextToken_329 pl_RX11_164 (ltn ltc_78 hn) lo_78 rfl rfl rfl h (fun m4 h => ?_)
  refine J_aload_n hX dX11_nextToken_332 rfl 0 rfl ?_
  refine J_iload_n hX dX11_nextToken_333 rfl 1 rfl ?_
  refine J_bipush hX (40 : Int32) dX11_nextToken_334 (by decide) ?_
  refine J_icmp_lt hX 345 dX11_nextToken_336 (by decide) h (fun c h => ?_) (fun c h => ?_)
  · refine J_sub [(1, .int v1)] [1] rfl ?_
    exact t_X11_nextToken_J345 hX hd0 hn hF v1  m4 h
  · refine J_iload_n hX dX11_nextToken_339 rfl 1 rfl ?_
    refine J_bipush hX (43 : Int32) dX11_nextToken_340 (by decide) ?_
    refine J_icmp_le hX 363 dX11_nextToken_342 (by decide) h (fun c h => ?_) (fun c h => ?_)
    · refine J_sub [(1, .int v1)] [1] rfl ?_
      exact t_X11_nextToken_J345 hX hd0 hn hF v1  m4 h
    · refine J_iconst hX (3 : Int32) dX11_nextToken_363 ic_3 ?_
      refine J_goto hX 368 dX11_nextToken_364 (by decide) ?_
      refine J_putI hX dX11_nextToken_368 pl_RX11_177 (ltn ltc_78 hn) lo_78 rfl rfl rfl h (fun m9 h => ?_)
      exact J_return hX dX11_nextToken_371 h hF
theorem t_X11_nextToken_J299 {X : XX} {G : GG} {ρ : Nat → Nat} {n t u w v : Nat} {x : Option Nat} {d : Nat} (hX : Ok X G ρ cX11_nextToken 2 RX11 d) (hd0 : 1 ≤ d) (hn : 126 ≤ n) {mE : Mm} (hF : Fin' X G ρ n none none (RT t u w v x) mE) (m : Mm) (h : f_X11_nextToken_J299 m = some mE) : J X G ρ n 2 299 [(0, .ref 78)] [] (RT t u w v x) m := by
  unfold f_X11_nextToken_J299 at h
  refine J_aload_n hX dX11_nextToken_299 rfl 0 rfl ?_
  refine J_aload_n hX dX11_nextToken_300 rfl 0 rfl ?_
  refine J_getI hX dX11_nextToken_301 fl_RX11_164 (ltn ltc_78 hn) lo_78 rfl ?_
  refine J_aload_n hX dX11_nextToken_304 rfl 0 rfl ?_
  refine J_getI hX dX11_nextToken_305 fl_RX11_167 (ltn ltc_78 hn) lo_78 rfl ?_
  refine J_isub hX dX11_nextToken_308 ?_
  refine J_iconst hX (4 : Int32) dX11_nextToken_309 ic_4 ?_
  refine J_icmp_le hX 317 dX11_nextToken_310 (by decide) h (fun c h => ?_) (fun c h => ?_)
  · refine J_iconst hX (4 : Int32) dX11_nextToken_313 ic_4 ?_
    refine J_goto hX 318 dX11_nextToken_314 (by decide) ?_
    refine J_putI hX dX11_nextToken_318 pl_RX11_177 (ltn ltc_78 hn) lo_78 rfl rfl rfl h (fun m13 h => ?_)
    exact J_return hX dX11_nextToken_321 h hF
  · refine J_iconst hX (2 : Int32) dX11_nextToken_317 ic_2 ?_
    refine J_putI hX dX11_nextToken_318 pl_RX11_177 (ltn ltc_78 hn) lo_78 rfl rfl rfl h (fun m12 h => ?_)
    exact J_return hX dX11_nextToken_321 h hF
theorem t_X11_nextToken_L224 {X : XX} {G : GG} {ρ : Nat → Nat} {n t u w v : Nat} {x : Option Nat} {d : Nat} (hX : Ok X G ρ cX11_nextToken 2 RX11 d) (hd0 : 1 ≤ d) (hn : 126 ≤ n) {mE : Mm} (hF : Fin' X G ρ n none none (RT t u w v x) mE) : ∀ (k : Nat) (m : Mm), f_X11_nextToken_L224 k m = some mE → J X G ρ n 2 224 [(0, .ref 78)] [] (RT t u w v x) m := by
  intro k
  induction k with
  | zero => intro _ h; rw [f_X11_nextToken_L224] at h; cases h
  | succ k ih =>
    intro m h
    rw [f_X11_nextToken_L224] at h
    refine J_aload_n hX dX11_nextToken_224 rfl 0 rfl ?_
    refine J_aload_n hX dX11_nextToken_225 rfl 0 rfl ?_
    refine J_getI hX dX11_nextToken_226 fl_RX11_164 (ltn ltc_78 hn) lo_78 rfl ?_
    obtain ⟨r11, m10, h0, h⟩ := bd2_some h
    refine J_callVi (As := [.int (gI m 78 4)]) (st := []) hX dX11_nextToken_229 cw_RX11_180 (by omega) (c_X11_signAt hn  h0) (ltn ltc_78 hn) lo_78 (by decide) rfl rfl rfl (Nat.le_of_ble_eq_true rfl) ?_
    clear h0
    refine J_bipush hX (48 : Int32) dX11_nextToken_232 (by decide) ?_
    refine J_icmp_lt hX 299 dX11_nextToken_234 (by decide) h (fun c h => ?_) (fun c h => ?_)
    · exact t_X11_nextToken_J299 hX hd0 hn hF   m10 h
    · refine J_aload_n hX dX11_nextToken_237 rfl 0 rfl ?_
      refine J_aload_n hX dX11_nextToken_238 rfl 0 rfl ?_
      refine J_getI hX dX11_nextToken_239 fl_RX11_164 (ltn ltc_78 hn) lo_78 rfl ?_
      obtain ⟨r15, m14, h0, h⟩ := bd2_some h
      refine J_callVi (As := [.int (gI m10 78 4)]) (st := []) hX dX11_nextToken_242 cw_RX11_180 (by omega) (c_X11_signAt hn  h0) (ltn ltc_78 hn) lo_78 (by decide) rfl rfl rfl (Nat.le_of_ble_eq_true rfl) ?_
      clear h0
      refine J_bipush hX (57 : Int32) dX11_nextToken_245 (by decide) ?_
      refine J_icmp_gt hX 299 dX11_nextToken_247 (by decide) h (fun c h => ?_) (fun c h => ?_)
      · exact t_X11_nextToken_J299 hX hd0 hn hF   m14 h
      · refine J_aload_n hX dX11_nextToken_250 rfl 0 rfl ?_
        refine J_getI hX dX11_nextToken_251 fl_RX11_164 (ltn ltc_78 hn) lo_78 rfl ?_
        refine J_aload_n hX dX11_nextToken_254 rfl 0 rfl ?_
        refine J_getI hX dX11_nextToken_255 fl_RX11_167 (ltn ltc_78 hn) lo_78 rfl ?_
        refine J_isub hX dX11_nextToken_258 ?_
        refine J_iconst hX (4 : Int32) dX11_nextToken_259 ic_4 ?_
        refine J_icmp_ge hX 286 dX11_nextToken_260 (by decide) h (fun c h => ?_) (fun c h => ?_)
        · refine J_aload_n hX dX11_nextToken_263 rfl 0 rfl ?_
          refine J_aload_n hX dX11_nextToken_264 rfl 0 rfl ?_
          refine J_getI hX dX11_nextToken_265 fl_RX11_174 (ltn ltc_78 hn) lo_78 rfl ?_
          refine J_bipush hX (10 : Int32) dX11_nextToken_268 (by decide) ?_
          refine J_imul hX dX11_nextToken_270 ?_
          refine J_aload_n hX dX11_nextToken_271 rfl 0 rfl ?_
          refine J_aload_n hX dX11_nextToken_272 rfl 0 rfl ?_
          refine J_getI hX dX11_nextToken_273 fl_RX11_164 (ltn ltc_78 hn) lo_78 rfl ?_
          obtain ⟨r18, m17, h0, h⟩ := bd2_some h
          refine J_callVi (As := [.int (gI m14 78 4)]) (st := [.int ((gI m14 78 8) * (10 : Int32)), .ref 78]) hX dX11_nextToken_276 cw_RX11_180 (by omega) (c_X11_signAt hn  h0) (ltn ltc_78 hn) lo_78 (by decide) rfl rfl rfl (Nat.le_of_ble_eq_true rfl) ?_
          clear h0
          refine J_iadd hX dX11_nextToken_279 ?_
          refine J_bipush hX (48 : Int32) dX11_nextToken_280 (by decide) ?_
          refine J_isub hX dX11_nextToken_282 ?_
          refine J_putI hX dX11_nextToken_283 pl_RX11_174 (ltn ltc_78 hn) lo_78 rfl rfl rfl h (fun m19 h => ?_)
          refine J_aload_n hX dX11_nextToken_286 rfl 0 rfl ?_
          refine J_dup hX dX11_nextToken_287 rfl ?_
          refine J_getI hX dX11_nextToken_288 fl_RX11_164 (ltn ltc_78 hn) lo_78 rfl ?_
          refine J_iconst hX (1 : Int32) dX11_nextToken_291 ic_1 ?_
          refine J_iadd hX dX11_nextToken_292 ?_
          refine J_putI hX dX11_nextToken_293 pl_RX11_164 (ltn ltc_78 hn) lo_78 rfl rfl rfl h (fun m20 h => ?_)
          refine J_goto hX 224 dX11_nextToken_296 (by decide) ?_
          exact ih  m20 h
        · refine J_aload_n hX dX11_nextToken_286 rfl 0 rfl ?_
          refine J_dup hX dX11_nextToken_287 rfl ?_
          refine J_getI hX dX11_nextToken_288 fl_RX11_164 (ltn ltc_78 hn) lo_78 rfl ?_
          refine J_iconst hX (1 : Int32) dX11_nextToken_291 ic_1 ?_
          refine J_iadd hX dX11_nextToken_292 ?_
          refine J_putI hX dX11_nextToken_293 pl_RX11_164 (ltn ltc_78 hn) lo_78 rfl rfl rfl h (fun m16 h => ?_)
          refine J_goto hX 224 dX11_nextToken_296 (by decide) ?_
          exact ih  m16 h
theorem t_X11_nextToken_J212 {X : XX} {G : GG} {ρ : Nat → Nat} {n t u w v : Nat} {x : Option Nat} {d : Nat} (hX : Ok X G ρ cX11_nextToken 2 RX11 d) (hd0 : 1 ≤ d) (hn : 126 ≤ n) {mE : Mm} (hF : Fin' X G ρ n none none (RT t u w v x) mE) (v1 : Int32) (m : Mm) (h : f_X11_nextToken_J212 v1 m = some mE) : J X G ρ n 2 212 [(0, .ref 78), (1, .int v1)] [] (RT t u w v x) m := by
  unfold f_X11_nextToken_J212 at h
  refine J_iload_n hX dX11_nextToken_212 rfl 1 rfl ?_
  refine J_bipush hX (48 : Int32) dX11_nextToken_213 (by decide) ?_
  refine J_icmp_lt hX 322 dX11_nextToken_215 (by decide) h (fun c h => ?_) (fun c h => ?_)
  · exact t_X11_nextToken_J322 hX hd0 hn hF v1  m h
  · refine J_iload_n hX dX11_nextToken_218 rfl 1 rfl ?_
    refine J_bipush hX (57 : Int32) dX11_nextToken_219 (by decide) ?_
    refine J_icmp_gt hX 322 dX11_nextToken_221 (by decide) h (fun c h => ?_) (fun c h => ?_)
    · exact t_X11_nextToken_J322 hX hd0 hn hF v1  m h
    · refine J_sub [(0, .ref 78)] [0] rfl ?_
      exact t_X11_nextToken_L224 hX hd0 hn hF FU   m h
theorem t_X11_nextToken_J188 {X : XX} {G : GG} {ρ : Nat → Nat} {n t u w v : Nat} {x : Option Nat} {d : Nat} (hX : Ok X G ρ cX11_nextToken 2 RX11 d) (hd0 : 1 ≤ d) (hn : 126 ≤ n) {mE : Mm} (hF : Fin' X G ρ n none none (RT t u w v x) mE) (m : Mm) (h : f_X11_nextToken_J188 m = some mE) : J X G ρ n 2 188 [(0, .ref 78)] [] (RT t u w v x) m := by
  unfold f_X11_nextToken_J188 at h
  refine J_aload_n hX dX11_nextToken_188 rfl 0 rfl ?_
  refine J_aload_n hX dX11_nextToken_189 rfl 0 rfl ?_
  refine J_getI hX dX11_nextToken_190 fl_RX11_164 (ltn ltc_78 hn) lo_78 rfl ?_
  refine J_aload_n hX dX11_nextToken_193 rfl 0 rfl ?_
  refine J_getI hX dX11_nextToken_194 fl_RX11_167 (ltn ltc_78 hn) lo_78 rfl ?_
  refine J_isub hX dX11_nextToken_197 ?_
  refine J_bipush hX (8 : Int32) dX11_nextToken_198 (by decide) ?_
  refine J_icmp_le hX 207 dX11_nextToken_200 (by decide) h (fun c h => ?_) (fun c h => ?_)
  · refine J_iconst hX (4 : Int32) dX11_nextToken_203 ic_4 ?_
    refine J_goto hX 208 dX11_nextToken_204 (by decide) ?_
    refine J_putI hX dX11_nextToken_208 pl_RX11_177 (ltn ltc_78 hn) lo_78 rfl rfl rfl h (fun m24 h => ?_)
    exact J_return hX dX11_nextToken_211 h hF
  · refine J_iconst hX (1 : Int32) dX11_nextToken_207 ic_1 ?_
    refine J_putI hX dX11_nextToken_208 pl_RX11_177 (ltn ltc_78 hn) lo_78 rfl rfl rfl h (fun m23 h => ?_)
    exact J_return hX dX11_nextToken_211 h hF
theorem t_X11_nextToken_L109 {X : XX} {G : GG} {ρ : Nat → Nat} {n t u w v : Nat} {x : Option Nat} {d : Nat} (hX : Ok X G ρ cX11_nextToken 2 RX11 d) (hd0 : 1 ≤ d) (hn : 126 ≤ n) {mE : Mm} (hF : Fin' X G ρ n none none (RT t u w v x) mE) : ∀ (k : Nat) (m : Mm), f_X11_nextToken_L109 k m = some mE → J X G ρ n 2 109 [(0, .ref 78)] [] (RT t u w v x) m := by
  intro k
  induction k with
  | zero => intro _ h; rw [f_X11_nextToken_L109] at h; cases h
  | succ k ih =>
    intro m h
    rw [f_X11_nextToken_L109] at h
    refine J_aload_n hX dX11_nextToken_109 rfl 0 rfl ?_
    refine J_aload_n hX dX11_nextToken_110 rfl 0 rfl ?_
    refine J_getI hX dX11_nextToken_111 fl_RX11_164 (ltn ltc_78 hn) lo_78 rfl ?_
    obtain ⟨r22, m21, h0, h⟩ := bd2_some h
    refine J_callVi (As := [.int (gI m 78 4)]) (st := []) hX dX11_nextToken_114 cw_RX11_180 (by omega) (c_X11_signAt hn  h0) (ltn ltc_78 hn) lo_78 (by decide) rfl rfl rfl (Nat.le_of_ble_eq_true rfl) ?_
    clear h0
    refine J_bipush hX (97 : Int32) dX11_nextToken_117 (by decide) ?_
    refine J_icmp_lt hX 188 dX11_nextToken_119 (by decide) h (fun c h => ?_) (fun c h => ?_)
    · exact t_X11_nextToken_J188 hX hd0 hn hF   m21 h
    · refine J_aload_n hX dX11_nextToken_122 rfl 0 rfl ?_
      refine J_aload_n hX dX11_nextToken_123 rfl 0 rfl ?_
      refine J_getI hX dX11_nextToken_124 fl_RX11_164 (ltn ltc_78 hn) lo_78 rfl ?_
      obtain ⟨r26, m25, h0, h⟩ := bd2_some h
      refine J_callVi (As := [.int (gI m21 78 4)]) (st := []) hX dX11_nextToken_127 cw_RX11_180 (by omega) (c_X11_signAt hn  h0) (ltn ltc_78 hn) lo_78 (by decide) rfl rfl rfl (Nat.le_of_ble_eq_true rfl) ?_
      clear h0
      refine J_bipush hX (122 : Int32) dX11_nextToken_130 (by decide) ?_
      refine J_icmp_gt hX 188 dX11_nextToken_132 (by decide) h (fun c h => ?_) (fun c h => ?_)
      · exact t_X11_nextToken_J188 hX hd0 hn hF   m25 h
      · refine J_aload_n hX dX11_nextToken_135 rfl 0 rfl ?_
        refine J_getI hX dX11_nextToken_136 fl_RX11_164 (ltn ltc_78 hn) lo_78 rfl ?_
        refine J_aload_n hX dX11_nextToken_139 rfl 0 rfl ?_
        refine J_getI hX dX11_nextToken_140 fl_RX11_167 (ltn ltc_78 hn) lo_78 rfl ?_
        refine J_isub hX dX11_nextToken_143 ?_
        refine J_bipush hX (8 : Int32) dX11_nextToken_144 (by decide) ?_
        refine J_icmp_ge hX 175 dX11_nextToken_146 (by decide) h (fun c h => ?_) (fun c h => ?_)
        · refine J_aload_n hX dX11_nextToken_149 rfl 0 rfl ?_
          refine J_aload_n hX dX11_nextToken_150 rfl 0 rfl ?_
          refine J_getL hX dX11_nextToken_151 fl_RX11_170 (ltn ltc_78 hn) lo_78 rfl ?_
          refine J_ldc2 hX (27 : Int64) dX11_nextToken_154 k_RX11_184 ?_
          refine J_lmul hX dX11_nextToken_157 ?_
          refine J_aload_n hX dX11_nextToken_158 rfl 0 rfl ?_
          refine J_aload_n hX dX11_nextToken_159 rfl 0 rfl ?_
          refine J_getI hX dX11_nextToken_160 fl_RX11_164 (ltn ltc_78 hn) lo_78 rfl ?_
          obtain ⟨r29, m28, h0, h⟩ := bd2_some h
          refine J_callVi (As := [.int (gI m25 78 4)]) (st := [.long ((gL m25 78 7) * (27 : Int64)), .ref 78]) hX dX11_nextToken_163 cw_RX11_180 (by omega) (c_X11_signAt hn  h0) (ltn ltc_78 hn) lo_78 (by decide) rfl rfl rfl (Nat.le_of_ble_eq_true rfl) ?_
          clear h0
          refine J_i2l hX dX11_nextToken_166 ?_
          refine J_ladd hX dX11_nextToken_167 ?_
          refine J_ldc2 hX (96 : Int64) dX11_nextToken_168 k_RX11_186 ?_
          refine J_lsub hX dX11_nextToken_171 ?_
          refine J_putL hX dX11_nextToken_172 pl_RX11_170 (ltn ltc_78 hn) lo_78 rfl h (fun m30 h => ?_)
          refine J_aload_n hX dX11_nextToken_175 rfl 0 rfl ?_
          refine J_dup hX dX11_nextToken_176 rfl ?_
          refine J_getI hX dX11_nextToken_177 fl_RX11_164 (ltn ltc_78 hn) lo_78 rfl ?_
          refine J_iconst hX (1 : Int32) dX11_nextToken_180 ic_1 ?_
          refine J_iadd hX dX11_nextToken_181 ?_
          refine J_putI hX dX11_nextToken_182 pl_RX11_164 (ltn ltc_78 hn) lo_78 rfl rfl rfl h (fun m31 h => ?_)
          refine J_goto hX 109 dX11_nextToken_185 (by decide) ?_
          exact ih  m31 h
        · refine J_aload_n hX dX11_nextToken_175 rfl 0 rfl ?_
          refine J_dup hX dX11_nextToken_176 rfl ?_
          refine J_getI hX dX11_nextToken_177 fl_RX11_164 (ltn ltc_78 hn) lo_78 rfl ?_
          refine J_iconst hX (1 : Int32) dX11_nextToken_180 ic_1 ?_
          refine J_iadd hX dX11_nextToken_181 ?_
          refine J_putI hX dX11_nextToken_182 pl_RX11_164 (ltn ltc_78 hn) lo_78 rfl rfl rfl h (fun m27 h => ?_)
          refine J_goto hX 109 dX11_nextToken_185 (by decide) ?_
          exact ih  m27 h
theorem t_X11_nextToken_J52 {X : XX} {G : GG} {ρ : Nat → Nat} {n t u w v : Nat} {x : Option Nat} {d : Nat} (hX : Ok X G ρ cX11_nextToken 2 RX11 d) (hd0 : 1 ≤ d) (hn : 126 ≤ n) {mE : Mm} (hF : Fin' X G ρ n none none (RT t u w v x) mE) (m : Mm) (h : f_X11_nextToken_J52 m = some mE) : J X G ρ n 2 52 [(0, .ref 78)] [] (RT t u w v x) m := by
  unfold f_X11_nextToken_J52 at h
  refine J_aload_n hX dX11_nextToken_52 rfl 0 rfl ?_
  refine J_aload_n hX dX11_nextToken_53 rfl 0 rfl ?_
  refine J_getI hX dX11_nextToken_54 fl_RX11_164 (ltn ltc_78 hn) lo_78 rfl ?_
  refine J_putI hX dX11_nextToken_57 pl_RX11_167 (ltn ltc_78 hn) lo_78 rfl rfl rfl h (fun m1 h => ?_)
  refine J_aload_n hX dX11_nextToken_60 rfl 0 rfl ?_
  refine J_lconst hX (0 : Int64) dX11_nextToken_61 (by decide) ?_
  refine J_putL hX dX11_nextToken_62 pl_RX11_170 (ltn ltc_78 hn) lo_78 rfl h (fun m2 h => ?_)
  refine J_aload_n hX dX11_nextToken_65 rfl 0 rfl ?_
  refine J_iconst hX (0 : Int32) dX11_nextToken_66 ic_0 ?_
  refine J_putI hX dX11_nextToken_67 pl_RX11_174 (ltn ltc_78 hn) lo_78 rfl rfl rfl h (fun m3 h => ?_)
  refine J_aload_n hX dX11_nextToken_70 rfl 0 rfl ?_
  refine J_getI hX dX11_nextToken_71 fl_RX11_164 (ltn ltc_78 hn) lo_78 rfl ?_
  refine J_aload_n hX dX11_nextToken_74 rfl 0 rfl ?_
  refine J_getI hX dX11_nextToken_75 fl_RX11_161 (ltn ltc_78 hn) lo_78 rfl ?_
  refine J_icmp_ne hX 87 dX11_nextToken_78 (by decide) h (fun c h => ?_) (fun c h => ?_)
  · refine J_aload_n hX dX11_nextToken_81 rfl 0 rfl ?_
    refine J_iconst hX (0 : Int32) dX11_nextToken_82 ic_0 ?_
    refine J_putI hX dX11_nextToken_83 pl_RX11_177 (ltn ltc_78 hn) lo_78 rfl rfl rfl h (fun m32 h => ?_)
    exact J_return hX dX11_nextToken_86 h hF
  · refine J_aload_n hX dX11_nextToken_87 rfl 0 rfl ?_
    refine J_getR hX dX11_nextToken_88 fl_RX11_7 (ltn ltc_78 hn) lo_78 rfl (rt_78_2 _ _ _ _ _) ?_
    refine J_aload_n hX dX11_nextToken_91 rfl 0 rfl ?_
    refine J_getI hX dX11_nextToken_92 fl_RX11_164 (ltn ltc_78 hn) lo_78 rfl ?_
    refine J_iaload hX dX11_nextToken_95 (ltn ltc_79 hn) lay_79 h (fun h => ?_)
    refine J_istore_n hX [(1, .int (gI m3 79 (ix (gI m3 78 4)))), (0, .ref 78)] dX11_nextToken_96 rfl (by decide) rfl ?_
    refine J_iload_n hX dX11_nextToken_97 rfl 0 rfl ?_
    refine J_bipush hX (97 : Int32) dX11_nextToken_98 (by decide) ?_
    refine J_icmp_lt hX 212 dX11_nextToken_100 (by decide) h (fun c h => ?_) (fun c h => ?_)
    · refine J_sub [(0, .ref 78), (1, .int (gI m3 79 (ix (gI m3 78 4))))] [1, 0] rfl ?_
      exact t_X11_nextToken_J212 hX hd0 hn hF (gI m3 79 (ix (gI m3 78 4)))  m3 h
    · refine J_iload_n hX dX11_nextToken_103 rfl 0 rfl ?_
      refine J_bipush hX (122 : Int32) dX11_nextToken_104 (by decide) ?_
      refine J_icmp_gt hX 212 dX11_nextToken_106 (by decide) h (fun c h => ?_) (fun c h => ?_)
      · refine J_sub [(0, .ref 78), (1, .int (gI m3 79 (ix (gI m3 78 4))))] [1, 0] rfl ?_
        exact t_X11_nextToken_J212 hX hd0 hn hF (gI m3 79 (ix (gI m3 78 4)))  m3 h
      · refine J_sub [(0, .ref 78)] [1] rfl ?_
        exact t_X11_nextToken_L109 hX hd0 hn hF FU   m3 h
theorem t_X11_nextToken_L0 {X : XX} {G : GG} {ρ : Nat → Nat} {n t u w v : Nat} {x : Option Nat} {d : Nat} (hX : Ok X G ρ cX11_nextToken 2 RX11 d) (hd0 : 1 ≤ d) (hn : 126 ≤ n) {mE : Mm} (hF : Fin' X G ρ n none none (RT t u w v x) mE) : ∀ (k : Nat) (m : Mm), f_X11_nextToken_L0 k m = some mE → J X G ρ n 2 0 [(0, .ref 78)] [] (RT t u w v x) m := by
  intro k
  induction k with
  | zero => intro _ h; rw [f_X11_nextToken_L0] at h; cases h
  | succ k ih =>
    intro m h
    rw [f_X11_nextToken_L0] at h
    refine J_aload_n hX dX11_nextToken_0 rfl 0 rfl ?_
    refine J_getI hX dX11_nextToken_1 fl_RX11_164 (ltn ltc_78 hn) lo_78 rfl ?_
    refine J_aload_n hX dX11_nextToken_4 rfl 0 rfl ?_
    refine J_getI hX dX11_nextToken_5 fl_RX11_161 (ltn ltc_78 hn) lo_78 rfl ?_
    refine J_icmp_ge hX 52 dX11_nextToken_8 (by decide) h (fun c h => ?_) (fun c h => ?_)
    · refine J_aload_n hX dX11_nextToken_11 rfl 0 rfl ?_
      refine J_getR hX dX11_nextToken_12 fl_RX11_7 (ltn ltc_78 hn) lo_78 rfl (rt_78_2 _ _ _ _ _) ?_
      refine J_aload_n hX dX11_nextToken_15 rfl 0 rfl ?_
      refine J_getI hX dX11_nextToken_16 fl_RX11_164 (ltn ltc_78 hn) lo_78 rfl ?_
      refine J_iaload hX dX11_nextToken_19 (ltn ltc_79 hn) lay_79 h (fun h => ?_)
      refine J_bipush hX (32 : Int32) dX11_nextToken_20 (by decide) ?_
      refine J_icmp_eq hX 39 dX11_nextToken_22 (by decide) h (fun c h => ?_) (fun c h => ?_)
      · refine J_aload_n hX dX11_nextToken_39 rfl 0 rfl ?_
        refine J_dup hX dX11_nextToken_40 rfl ?_
        refine J_getI hX dX11_nextToken_41 fl_RX11_164 (ltn ltc_78 hn) lo_78 rfl ?_
        refine J_iconst hX (1 : Int32) dX11_nextToken_44 ic_1 ?_
        refine J_iadd hX dX11_nextToken_45 ?_
        refine J_putI hX dX11_nextToken_46 pl_RX11_164 (ltn ltc_78 hn) lo_78 rfl rfl rfl h (fun m33 h => ?_)
        refine J_goto hX 0 dX11_nextToken_49 (by decide) ?_
        exact ih  m33 h
      · refine J_aload_n hX dX11_nextToken_25 rfl 0 rfl ?_
        refine J_getR hX dX11_nextToken_26 fl_RX11_7 (ltn ltc_78 hn) lo_78 rfl (rt_78_2 _ _ _ _ _) ?_
        refine J_aload_n hX dX11_nextToken_29 rfl 0 rfl ?_
        refine J_getI hX dX11_nextToken_30 fl_RX11_164 (ltn ltc_78 hn) lo_78 rfl ?_
        refine J_iaload hX dX11_nextToken_33 (ltn ltc_79 hn) lay_79 h (fun h => ?_)
        refine J_bipush hX (10 : Int32) dX11_nextToken_34 (by decide) ?_
        refine J_icmp_ne hX 52 dX11_nextToken_36 (by decide) h (fun c h => ?_) (fun c h => ?_)
        · refine J_aload_n hX dX11_nextToken_39 rfl 0 rfl ?_
          refine J_dup hX dX11_nextToken_40 rfl ?_
          refine J_getI hX dX11_nextToken_41 fl_RX11_164 (ltn ltc_78 hn) lo_78 rfl ?_
          refine J_iconst hX (1 : Int32) dX11_nextToken_44 ic_1 ?_
          refine J_iadd hX dX11_nextToken_45 ?_
          refine J_putI hX dX11_nextToken_46 pl_RX11_164 (ltn ltc_78 hn) lo_78 rfl rfl rfl h (fun m34 h => ?_)
          refine J_goto hX 0 dX11_nextToken_49 (by decide) ?_
          exact ih  m34 h
        · exact t_X11_nextToken_J52 hX hd0 hn hF   m h
    · exact t_X11_nextToken_J52 hX hd0 hn hF   m h
theorem t_X11_nextToken {X : XX} {G : GG} {ρ : Nat → Nat} {n t u w v : Nat} {x : Option Nat} {d : Nat} (hX : Ok X G ρ cX11_nextToken 2 RX11 d) (hd0 : 1 ≤ d) (hn : 126 ≤ n) {mE : Mm} (hF : Fin' X G ρ n none none (RT t u w v x) mE) {m : Mm} (h : f_X11_nextToken m = some mE) : J X G ρ n 2 0 [(0, .ref 78)] [] (RT t u w v x) m := by
  unfold f_X11_nextToken at h
  exact t_X11_nextToken_L0 hX hd0 hn hF FU   m h
theorem c_X11_nextToken {G : GG} {l : Launch} {ρ : Nat → Nat} {n t u w v : Nat} {x : Option Nat} (hn : 126 ≤ n) {m : Mm} {mE : Mm} (h : f_X11_nextToken m = some mE) : CT G l yX11_nextToken cX11_nextToken 2 none 1 0 0 ρ n (RT t u w v x) [.ref 78] m none (RT t u w v x) mE := ct_of_J (by decide) rfl (Nat.le_of_ble_eq_true rfl) (fun X hX e1 e2 e3 e4 hQ hr hl => t_X11_nextToken hX (Nat.le_refl _) hn ⟨by rw [hQ, e3, e4], hr, hl⟩ h)
theorem t_X11_opens {X : XX} {G : GG} {ρ : Nat → Nat} {n t u w v : Nat} {x : Option Nat} {d : Nat} (hX : Ok X G ρ cX11_opens 2 RX11 d) (hd0 : 0 ≤ d) (hn : 126 ≤ n) {mE : Mm} (hF : Fin' X G ρ n none none (RT t u w v x) mE) {x1 : Int32} {m : Mm} (h : f_X11_opens x1 m = some mE) : J X G ρ n 2 0 [(0, .ref 78), (1, .int x1)] [] (RT t u w v x) m := by
  unfold f_X11_opens at h
  refine J_aload_n hX dX11_opens_0 rfl 0 rfl ?_
  refine J_getR hX dX11_opens_1 fl_RX11_44 (ltn ltc_78 hn) lo_78 rfl (rt_78_22 _ _ _ _ _) ?_
  refine J_iload_n hX dX11_opens_4 rfl 1 rfl ?_
  refine J_iconst hX (0 : Int32) dX11_opens_5 ic_0 ?_
  refine J_iastore hX dX11_opens_6 (ltn ltc_90 hn) lay_90 h (fun m1 h => ?_)
  refine J_aload_n hX dX11_opens_7 rfl 0 rfl ?_
  refine J_getR hX dX11_opens_8 fl_RX11_50 (ltn ltc_78 hn) lo_78 rfl (rt_78_24 _ _ _ _ _) ?_
  refine J_iload_n hX dX11_opens_11 rfl 1 rfl ?_
  refine J_iconst hX (0 : Int32) dX11_opens_12 ic_0 ?_
  refine J_iastore hX dX11_opens_13 (ltn ltc_92 hn) lay_92 h (fun m2 h => ?_)
  refine J_aload_n hX dX11_opens_14 rfl 0 rfl ?_
  refine J_getR hX dX11_opens_15 fl_RX11_53 (ltn ltc_78 hn) lo_78 rfl (rt_78_25 _ _ _ _ _) ?_
  refine J_iload_n hX dX11_opens_18 rfl 1 rfl ?_
  refine J_iconst hX (0 : Int32) dX11_opens_19 ic_0 ?_
  refine J_iastore hX dX11_opens_20 (ltn ltc_93 hn) lay_93 h (fun m3 h => ?_)
  refine J_aload_n hX dX11_opens_21 rfl 0 rfl ?_
  refine J_getR hX dX11_opens_22 fl_RX11_56 (ltn ltc_78 hn) lo_78 rfl (rt_78_26 _ _ _ _ _) ?_
  refine J_iload_n hX dX11_opens_25 rfl 1 rfl ?_
  refine J_bipush hX (20 : Int32) dX11_opens_26 (by decide) ?_
  refine J_iastore hX dX11_opens_28 (ltn ltc_94 hn) lay_94 h (fun m4 h => ?_)
  refine J_aload_n hX dX11_opens_29 rfl 0 rfl ?_
  refine J_getR hX dX11_opens_30 fl_RX11_62 (ltn ltc_78 hn) lo_78 rfl (rt_78_28 _ _ _ _ _) ?_
  refine J_iload_n hX dX11_opens_33 rfl 1 rfl ?_
  refine J_iconst hX (0 : Int32) dX11_opens_34 ic_0 ?_
  refine J_iastore hX dX11_opens_35 (ltn ltc_96 hn) lay_96 h (fun m5 h => ?_)
  exact J_return hX dX11_opens_36 h hF
theorem c_X11_opens {G : GG} {l : Launch} {ρ : Nat → Nat} {n t u w v : Nat} {x : Option Nat} (hn : 126 ≤ n) {x1 : Int32} {m : Mm} {mE : Mm} (h : f_X11_opens x1 m = some mE) : CT G l yX11_opens cX11_opens 2 none 0 0 0 ρ n (RT t u w v x) [.ref 78, .int x1] m none (RT t u w v x) mE := ct_of_J (by decide) rfl (Nat.le_of_ble_eq_true rfl) (fun X hX e1 e2 e3 e4 hQ hr hl => t_X11_opens hX (Nat.le_refl _) hn ⟨by rw [hQ, e3, e4], hr, hl⟩ h)
theorem t_X11_sums {X : XX} {G : GG} {ρ : Nat → Nat} {n t u w v : Nat} {x : Option Nat} {d : Nat} (hX : Ok X G ρ cX11_sums 2 RX11 d) (hd0 : 0 ≤ d) (hn : 126 ≤ n) {mE : Mm} (hF : Fin' X G ρ n none none (RT t u w v x) mE) {x1 : Int32} {m : Mm} (h : f_X11_sums x1 m = some mE) : J X G ρ n 2 0 [(0, .ref 78), (1, .int x1)] [] (RT t u w v x) m := by
  unfold f_X11_sums at h
  refine J_aload_n hX dX11_sums_0 rfl 0 rfl ?_
  refine J_getR hX dX11_sums_1 fl_RX11_53 (ltn ltc_78 hn) lo_78 rfl (rt_78_25 _ _ _ _ _) ?_
  refine J_iload_n hX dX11_sums_4 rfl 1 rfl ?_
  refine J_aload_n hX dX11_sums_5 rfl 0 rfl ?_
  refine J_getR hX dX11_sums_6 fl_RX11_56 (ltn ltc_78 hn) lo_78 rfl (rt_78_26 _ _ _ _ _) ?_
  refine J_iload_n hX dX11_sums_9 rfl 1 rfl ?_
  refine J_iaload hX dX11_sums_10 (ltn ltc_94 hn) lay_94 h (fun h => ?_)
  refine J_bipush hX (21 : Int32) dX11_sums_11 (by decide) ?_
  refine J_icmp_ne hX 32 dX11_sums_13 (by decide) h (fun c h => ?_) (fun c h => ?_)
  · refine J_aload_n hX dX11_sums_16 rfl 0 rfl ?_
    refine J_getR hX dX11_sums_17 fl_RX11_53 (ltn ltc_78 hn) lo_78 rfl (rt_78_25 _ _ _ _ _) ?_
    refine J_iload_n hX dX11_sums_20 rfl 1 rfl ?_
    refine J_iaload hX dX11_sums_21 (ltn ltc_93 hn) lay_93 h (fun h => ?_)
    refine J_aload_n hX dX11_sums_22 rfl 0 rfl ?_
    refine J_getR hX dX11_sums_23 fl_RX11_59 (ltn ltc_78 hn) lo_78 rfl (rt_78_27 _ _ _ _ _) ?_
    refine J_iload_n hX dX11_sums_26 rfl 1 rfl ?_
    refine J_iaload hX dX11_sums_27 (ltn ltc_95 hn) lay_95 h (fun h => ?_)
    refine J_isub hX dX11_sums_28 ?_
    refine J_goto hX 45 dX11_sums_29 (by decide) ?_
    refine J_iastore hX dX11_sums_45 (ltn ltc_93 hn) lay_93 h (fun m3 h => ?_)
    refine J_aload_n hX dX11_sums_46 rfl 0 rfl ?_
    refine J_getR hX dX11_sums_47 fl_RX11_62 (ltn ltc_78 hn) lo_78 rfl (rt_78_28 _ _ _ _ _) ?_
    refine J_iload_n hX dX11_sums_50 rfl 1 rfl ?_
    refine J_iconst hX (0 : Int32) dX11_sums_51 ic_0 ?_
    refine J_iastore hX dX11_sums_52 (ltn ltc_96 hn) lay_96 h (fun m4 h => ?_)
    exact J_return hX dX11_sums_53 h hF
  · refine J_aload_n hX dX11_sums_32 rfl 0 rfl ?_
    refine J_getR hX dX11_sums_33 fl_RX11_53 (ltn ltc_78 hn) lo_78 rfl (rt_78_25 _ _ _ _ _) ?_
    refine J_iload_n hX dX11_sums_36 rfl 1 rfl ?_
    refine J_iaload hX dX11_sums_37 (ltn ltc_93 hn) lay_93 h (fun h => ?_)
    refine J_aload_n hX dX11_sums_38 rfl 0 rfl ?_
    refine J_getR hX dX11_sums_39 fl_RX11_59 (ltn ltc_78 hn) lo_78 rfl (rt_78_27 _ _ _ _ _) ?_
    refine J_iload_n hX dX11_sums_42 rfl 1 rfl ?_
    refine J_iaload hX dX11_sums_43 (ltn ltc_95 hn) lay_95 h (fun h => ?_)
    refine J_iadd hX dX11_sums_44 ?_
    refine J_iastore hX dX11_sums_45 (ltn ltc_93 hn) lay_93 h (fun m1 h => ?_)
    refine J_aload_n hX dX11_sums_46 rfl 0 rfl ?_
    refine J_getR hX dX11_sums_47 fl_RX11_62 (ltn ltc_78 hn) lo_78 rfl (rt_78_28 _ _ _ _ _) ?_
    refine J_iload_n hX dX11_sums_50 rfl 1 rfl ?_
    refine J_iconst hX (0 : Int32) dX11_sums_51 ic_0 ?_
    refine J_iastore hX dX11_sums_52 (ltn ltc_96 hn) lay_96 h (fun m2 h => ?_)
    exact J_return hX dX11_sums_53 h hF
theorem c_X11_sums {G : GG} {l : Launch} {ρ : Nat → Nat} {n t u w v : Nat} {x : Option Nat} (hn : 126 ≤ n) {x1 : Int32} {m : Mm} {mE : Mm} (h : f_X11_sums x1 m = some mE) : CT G l yX11_sums cX11_sums 2 none 0 0 0 ρ n (RT t u w v x) [.ref 78, .int x1] m none (RT t u w v x) mE := ct_of_J (by decide) rfl (Nat.le_of_ble_eq_true rfl) (fun X hX e1 e2 e3 e4 hQ hr hl => t_X11_sums hX (Nat.le_refl _) hn ⟨by rw [hQ, e3, e4], hr, hl⟩ h)
theorem t_X11_tests_J136 {X : XX} {G : GG} {ρ : Nat → Nat} {n t u w v : Nat} {x : Option Nat} {d : Nat} (hX : Ok X G ρ cX11_tests 3 RX11 d) (hd0 : 1 ≤ d) (hn : 126 ≤ n) {mE : Mm} (hF : Fin' X G ρ n none none (RT t u w v x) mE) (v1 : Int32) (v2 : Int32) (m : Mm) (h : f_X11_tests_J136 v1 v2 m = some mE) : J X G ρ n 3 136 [(0, .ref 78), (1, .int v1), (2, .int v2)] [] (RT t u w v x) m := by
  unfold f_X11_tests_J136 at h
  refine J_aload_n hX dX11_tests_136 rfl 0 rfl ?_
  refine J_getR hX dX11_tests_137 fl_RX11_41 (ltn ltc_78 hn) lo_78 rfl (rt_78_21 _ _ _ _ _) ?_
  refine J_iload_n hX dX11_tests_140 rfl 1 rfl ?_
  refine J_iload_n hX dX11_tests_141 rfl 2 rfl ?_
  refine J_iastore hX dX11_tests_142 (ltn ltc_89 hn) lay_89 h (fun m2 h => ?_)
  refine J_aload_n hX dX11_tests_143 rfl 0 rfl ?_
  refine J_getR hX dX11_tests_144 fl_RX11_50 (ltn ltc_78 hn) lo_78 rfl (rt_78_24 _ _ _ _ _) ?_
  refine J_iload_n hX dX11_tests_147 rfl 1 rfl ?_
  refine J_iconst hX (0 : Int32) dX11_tests_148 ic_0 ?_
  refine J_iastore hX dX11_tests_149 (ltn ltc_92 hn) lay_92 h (fun m3 h => ?_)
  refine J_aload_n hX dX11_tests_150 rfl 0 rfl ?_
  refine J_getR hX dX11_tests_151 fl_RX11_53 (ltn ltc_78 hn) lo_78 rfl (rt_78_25 _ _ _ _ _) ?_
  refine J_iload_n hX dX11_tests_154 rfl 1 rfl ?_
  refine J_iconst hX (0 : Int32) dX11_tests_155 ic_0 ?_
  refine J_iastore hX dX11_tests_156 (ltn ltc_93 hn) lay_93 h (fun m4 h => ?_)
  refine J_aload_n hX dX11_tests_157 rfl 0 rfl ?_
  refine J_getR hX dX11_tests_158 fl_RX11_56 (ltn ltc_78 hn) lo_78 rfl (rt_78_26 _ _ _ _ _) ?_
  refine J_iload_n hX dX11_tests_161 rfl 1 rfl ?_
  refine J_bipush hX (20 : Int32) dX11_tests_162 (by decide) ?_
  refine J_iastore hX dX11_tests_164 (ltn ltc_94 hn) lay_94 h (fun m5 h => ?_)
  exact J_return hX dX11_tests_165 h hF
theorem t_X11_tests_J135 {X : XX} {G : GG} {ρ : Nat → Nat} {n t u w v : Nat} {x : Option Nat} {d : Nat} (hX : Ok X G ρ cX11_tests 3 RX11 d) (hd0 : 1 ≤ d) (hn : 126 ≤ n) {mE : Mm} (hF : Fin' X G ρ n none none (RT t u w v x) mE) (v1 : Int32) (s0 : Int32) (m : Mm) (h : f_X11_tests_J135 v1 s0 m = some mE) : J X G ρ n 3 135 [(0, .ref 78), (1, .int v1)] [.int s0] (RT t u w v x) m := by
  unfold f_X11_tests_J135 at h
  refine J_istore_n hX [(2, .int s0), (0, .ref 78), (1, .int v1)] dX11_tests_135 rfl (by decide) rfl ?_
  refine J_sub [(0, .ref 78), (1, .int v1), (2, .int s0)] [1, 2, 0] rfl ?_
  exact t_X11_tests_J136 hX hd0 hn hF v1 s0  m h
theorem t_X11_tests_J130 {X : XX} {G : GG} {ρ : Nat → Nat} {n t u w v : Nat} {x : Option Nat} {d : Nat} (hX : Ok X G ρ cX11_tests 3 RX11 d) (hd0 : 1 ≤ d) (hn : 126 ≤ n) {mE : Mm} (hF : Fin' X G ρ n none none (RT t u w v x) mE) (v1 : Int32) (m : Mm) (h : f_X11_tests_J130 v1 m = some mE) : J X G ρ n 3 130 [(0, .ref 78), (1, .int v1)] [] (RT t u w v x) m := by
  unfold f_X11_tests_J130 at h
  refine J_iconst hX (1 : Int32) dX11_tests_130 ic_1 ?_
  refine J_goto hX 135 dX11_tests_131 (by decide) ?_
  exact t_X11_tests_J135 hX hd0 hn hF v1 (1 : Int32) m h
theorem t_X11_tests_J106 {X : XX} {G : GG} {ρ : Nat → Nat} {n t u w v : Nat} {x : Option Nat} {d : Nat} (hX : Ok X G ρ cX11_tests 3 RX11 d) (hd0 : 1 ≤ d) (hn : 126 ≤ n) {mE : Mm} (hF : Fin' X G ρ n none none (RT t u w v x) mE) (v1 : Int32) (v2 : Int32) (m : Mm) (h : f_X11_tests_J106 v1 v2 m = some mE) : J X G ρ n 3 106 [(0, .ref 78), (1, .int v1), (2, .int v2)] [] (RT t u w v x) m := by
  unfold f_X11_tests_J106 at h
  refine J_aload_n hX dX11_tests_106 rfl 0 rfl ?_
  refine J_getR hX dX11_tests_107 fl_RX11_44 (ltn ltc_78 hn) lo_78 rfl (rt_78_22 _ _ _ _ _) ?_
  refine J_iload_n hX dX11_tests_110 rfl 1 rfl ?_
  refine J_iaload hX dX11_tests_111 (ltn ltc_90 hn) lay_90 h (fun h => ?_)
  refine J_bipush hX (27 : Int32) dX11_tests_112 (by decide) ?_
  refine J_icmp_ne hX 136 dX11_tests_114 (by decide) h (fun c h => ?_) (fun c h => ?_)
  · refine J_aload_n hX dX11_tests_117 rfl 0 rfl ?_
    refine J_getR hX dX11_tests_118 fl_RX11_41 (ltn ltc_78 hn) lo_78 rfl (rt_78_21 _ _ _ _ _) ?_
    refine J_iload_n hX dX11_tests_121 rfl 1 rfl ?_
    refine J_iaload hX dX11_tests_122 (ltn ltc_89 hn) lay_89 h (fun h => ?_)
    refine J_if_ne hX 130 dX11_tests_123 (by decide) h (fun c h => ?_) (fun c h => ?_)
    · refine J_iload_n hX dX11_tests_126 rfl 2 rfl ?_
      refine J_if_eq hX 134 dX11_tests_127 (by decide) h (fun c h => ?_) (fun c h => ?_)
      · refine J_iconst hX (0 : Int32) dX11_tests_134 ic_0 ?_
        refine J_sub [(0, .ref 78), (1, .int v1)] [0, 1] rfl ?_
        exact t_X11_tests_J135 hX hd0 hn hF v1 (0 : Int32) m h
      · refine J_sub [(0, .ref 78), (1, .int v1)] [0, 1] rfl ?_
        exact t_X11_tests_J130 hX hd0 hn hF v1  m h
    · refine J_sub [(0, .ref 78), (1, .int v1)] [0, 1] rfl ?_
      exact t_X11_tests_J130 hX hd0 hn hF v1  m h
  · exact t_X11_tests_J136 hX hd0 hn hF v1 v2  m h
theorem t_X11_tests_J105 {X : XX} {G : GG} {ρ : Nat → Nat} {n t u w v : Nat} {x : Option Nat} {d : Nat} (hX : Ok X G ρ cX11_tests 3 RX11 d) (hd0 : 1 ≤ d) (hn : 126 ≤ n) {mE : Mm} (hF : Fin' X G ρ n none none (RT t u w v x) mE) (v1 : Int32) (s0 : Int32) (m : Mm) (h : f_X11_tests_J105 v1 s0 m = some mE) : J X G ρ n 3 105 [(0, .ref 78), (1, .int v1)] [.int s0] (RT t u w v x) m := by
  unfold f_X11_tests_J105 at h
  refine J_istore_n hX [(2, .int s0), (0, .ref 78), (1, .int v1)] dX11_tests_105 rfl (by decide) rfl ?_
  refine J_sub [(0, .ref 78), (1, .int v1), (2, .int s0)] [1, 2, 0] rfl ?_
  exact t_X11_tests_J106 hX hd0 hn hF v1 s0  m h
theorem t_X11_tests_J104 {X : XX} {G : GG} {ρ : Nat → Nat} {n t u w v : Nat} {x : Option Nat} {d : Nat} (hX : Ok X G ρ cX11_tests 3 RX11 d) (hd0 : 1 ≤ d) (hn : 126 ≤ n) {mE : Mm} (hF : Fin' X G ρ n none none (RT t u w v x) mE) (v1 : Int32) (m : Mm) (h : f_X11_tests_J104 v1 m = some mE) : J X G ρ n 3 104 [(0, .ref 78), (1, .int v1)] [] (RT t u w v x) m := by
  unfold f_X11_tests_J104 at h
  refine J_iconst hX (0 : Int32) dX11_tests_104 ic_0 ?_
  exact t_X11_tests_J105 hX hd0 hn hF v1 (0 : Int32) m h
theorem t_X11_tests_J76 {X : XX} {G : GG} {ρ : Nat → Nat} {n t u w v : Nat} {x : Option Nat} {d : Nat} (hX : Ok X G ρ cX11_tests 3 RX11 d) (hd0 : 1 ≤ d) (hn : 126 ≤ n) {mE : Mm} (hF : Fin' X G ρ n none none (RT t u w v x) mE) (v1 : Int32) (v2 : Int32) (m : Mm) (h : f_X11_tests_J76 v1 v2 m = some mE) : J X G ρ n 3 76 [(0, .ref 78), (1, .int v1), (2, .int v2)] [] (RT t u w v x) m := by
  unfold f_X11_tests_J76 at h
  refine J_aload_n hX dX11_tests_76 rfl 0 rfl ?_
  refine J_getR hX dX11_tests_77 fl_RX11_44 (ltn ltc_78 hn) lo_78 rfl (rt_78_22 _ _ _ _ _) ?_
  refine J_iload_n hX dX11_tests_80 rfl 1 rfl ?_
  refine J_iaload hX dX11_tests_81 (ltn ltc_90 hn) lay_90 h (fun h => ?_)
  refine J_bipush hX (26 : Int32) dX11_tests_82 (by decide) ?_
  refine J_icmp_ne hX 106 dX11_tests_84 (by decide) h (fun c h => ?_) (fun c h => ?_)
  · refine J_aload_n hX dX11_tests_87 rfl 0 rfl ?_
    refine J_getR hX dX11_tests_88 fl_RX11_41 (ltn ltc_78 hn) lo_78 rfl (rt_78_21 _ _ _ _ _) ?_
    refine J_iload_n hX dX11_tests_91 rfl 1 rfl ?_
    refine J_iaload hX dX11_tests_92 (ltn ltc_89 hn) lay_89 h (fun h => ?_)
    refine J_if_eq hX 104 dX11_tests_93 (by decide) h (fun c h => ?_) (fun c h => ?_)
    · refine J_sub [(0, .ref 78), (1, .int v1)] [0, 1] rfl ?_
      exact t_X11_tests_J104 hX hd0 hn hF v1  m h
    · refine J_iload_n hX dX11_tests_96 rfl 2 rfl ?_
      refine J_if_eq hX 104 dX11_tests_97 (by decide) h (fun c h => ?_) (fun c h => ?_)
      · refine J_sub [(0, .ref 78), (1, .int v1)] [0, 1] rfl ?_
        exact t_X11_tests_J104 hX hd0 hn hF v1  m h
      · refine J_iconst hX (1 : Int32) dX11_tests_100 ic_1 ?_
        refine J_goto hX 105 dX11_tests_101 (by decide) ?_
        refine J_sub [(0, .ref 78), (1, .int v1)] [0, 1] rfl ?_
        exact t_X11_tests_J105 hX hd0 hn hF v1 (1 : Int32) m h
  · exact t_X11_tests_J106 hX hd0 hn hF v1 v2  m h
theorem t_X11_tests_J75 {X : XX} {G : GG} {ρ : Nat → Nat} {n t u w v : Nat} {x : Option Nat} {d : Nat} (hX : Ok X G ρ cX11_tests 3 RX11 d) (hd0 : 1 ≤ d) (hn : 126 ≤ n) {mE : Mm} (hF : Fin' X G ρ n none none (RT t u w v x) mE) (v1 : Int32) (s0 : Int32) (m : Mm) (h : f_X11_tests_J75 v1 s0 m = some mE) : J X G ρ n 3 75 [(0, .ref 78), (1, .int v1)] [.int s0] (RT t u w v x) m := by
  unfold f_X11_tests_J75 at h
  refine J_istore_n hX [(2, .int s0), (0, .ref 78), (1, .int v1)] dX11_tests_75 rfl (by decide) rfl ?_
  refine J_sub [(0, .ref 78), (1, .int v1), (2, .int s0)] [1, 2, 0] rfl ?_
  exact t_X11_tests_J76 hX hd0 hn hF v1 s0  m h
theorem t_X11_tests_J44 {X : XX} {G : GG} {ρ : Nat → Nat} {n t u w v : Nat} {x : Option Nat} {d : Nat} (hX : Ok X G ρ cX11_tests 3 RX11 d) (hd0 : 1 ≤ d) (hn : 126 ≤ n) {mE : Mm} (hF : Fin' X G ρ n none none (RT t u w v x) mE) (v1 : Int32) (v2 : Int32) (m : Mm) (h : f_X11_tests_J44 v1 v2 m = some mE) : J X G ρ n 3 44 [(0, .ref 78), (1, .int v1), (2, .int v2)] [] (RT t u w v x) m := by
  unfold f_X11_tests_J44 at h
  refine J_aload_n hX dX11_tests_44 rfl 0 rfl ?_
  refine J_getR hX dX11_tests_45 fl_RX11_50 (ltn ltc_78 hn) lo_78 rfl (rt_78_24 _ _ _ _ _) ?_
  refine J_iload_n hX dX11_tests_48 rfl 1 rfl ?_
  refine J_iaload hX dX11_tests_49 (ltn ltc_92 hn) lay_92 h (fun h => ?_)
  refine J_bipush hX (25 : Int32) dX11_tests_50 (by decide) ?_
  refine J_icmp_ne hX 76 dX11_tests_52 (by decide) h (fun c h => ?_) (fun c h => ?_)
  · refine J_aload_n hX dX11_tests_55 rfl 0 rfl ?_
    refine J_getR hX dX11_tests_56 fl_RX11_47 (ltn ltc_78 hn) lo_78 rfl (rt_78_23 _ _ _ _ _) ?_
    refine J_iload_n hX dX11_tests_59 rfl 1 rfl ?_
    refine J_iaload hX dX11_tests_60 (ltn ltc_91 hn) lay_91 h (fun h => ?_)
    refine J_aload_n hX dX11_tests_61 rfl 0 rfl ?_
    refine J_getR hX dX11_tests_62 fl_RX11_53 (ltn ltc_78 hn) lo_78 rfl (rt_78_25 _ _ _ _ _) ?_
    refine J_iload_n hX dX11_tests_65 rfl 1 rfl ?_
    refine J_iaload hX dX11_tests_66 (ltn ltc_93 hn) lay_93 h (fun h => ?_)
    refine J_icmp_ne hX 74 dX11_tests_67 (by decide) h (fun c h => ?_) (fun c h => ?_)
    · refine J_iconst hX (1 : Int32) dX11_tests_70 ic_1 ?_
      refine J_goto hX 75 dX11_tests_71 (by decide) ?_
      refine J_sub [(0, .ref 78), (1, .int v1)] [0, 1] rfl ?_
      exact t_X11_tests_J75 hX hd0 hn hF v1 (1 : Int32) m h
    · refine J_iconst hX (0 : Int32) dX11_tests_74 ic_0 ?_
      refine J_sub [(0, .ref 78), (1, .int v1)] [0, 1] rfl ?_
      exact t_X11_tests_J75 hX hd0 hn hF v1 (0 : Int32) m h
  · exact t_X11_tests_J76 hX hd0 hn hF v1 v2  m h
theorem t_X11_tests_J43 {X : XX} {G : GG} {ρ : Nat → Nat} {n t u w v : Nat} {x : Option Nat} {d : Nat} (hX : Ok X G ρ cX11_tests 3 RX11 d) (hd0 : 1 ≤ d) (hn : 126 ≤ n) {mE : Mm} (hF : Fin' X G ρ n none none (RT t u w v x) mE) (v1 : Int32) (s0 : Int32) (m : Mm) (h : f_X11_tests_J43 v1 s0 m = some mE) : J X G ρ n 3 43 [(0, .ref 78), (1, .int v1)] [.int s0] (RT t u w v x) m := by
  unfold f_X11_tests_J43 at h
  refine J_istore_n hX [(2, .int s0), (0, .ref 78), (1, .int v1)] dX11_tests_43 rfl (by decide) rfl ?_
  refine J_sub [(0, .ref 78), (1, .int v1), (2, .int s0)] [1, 2, 0] rfl ?_
  exact t_X11_tests_J44 hX hd0 hn hF v1 s0  m h
theorem t_X11_tests {X : XX} {G : GG} {ρ : Nat → Nat} {n t u w v : Nat} {x : Option Nat} {d : Nat} (hX : Ok X G ρ cX11_tests 3 RX11 d) (hd0 : 1 ≤ d) (hn : 126 ≤ n) {mE : Mm} (hF : Fin' X G ρ n none none (RT t u w v x) mE) {x1 : Int32} {m : Mm} (h : f_X11_tests x1 m = some mE) : J X G ρ n 3 0 [(0, .ref 78), (1, .int x1)] [] (RT t u w v x) m := by
  unfold f_X11_tests at h
  refine J_aload_n hX dX11_tests_0 rfl 0 rfl ?_
  refine J_iload_n hX dX11_tests_1 rfl 1 rfl ?_
  obtain ⟨m1, h0, h⟩ := bd1_some h
  refine J_callVv (As := [.int x1]) (st := []) hX dX11_tests_2 cw_RX11_230 (by omega) (c_X11_sums hn  h0) (ltn ltc_78 hn) lo_78 (by decide) rfl rfl rfl (Nat.le_of_ble_eq_true rfl) ?_
  clear h0
  refine J_aload_n hX dX11_tests_5 rfl 0 rfl ?_
  refine J_getR hX dX11_tests_6 fl_RX11_53 (ltn ltc_78 hn) lo_78 rfl (rt_78_25 _ _ _ _ _) ?_
  refine J_iload_n hX dX11_tests_9 rfl 1 rfl ?_
  refine J_iaload hX dX11_tests_10 (ltn ltc_93 hn) lay_93 h (fun h => ?_)
  refine J_istore_n hX [(2, .int (gI m1 93 (ix x1))), (0, .ref 78), (1, .int x1)] dX11_tests_11 rfl (by decide) rfl ?_
  refine J_aload_n hX dX11_tests_12 rfl 1 rfl ?_
  refine J_getR hX dX11_tests_13 fl_RX11_50 (ltn ltc_78 hn) lo_78 rfl (rt_78_24 _ _ _ _ _) ?_
  refine J_iload_n hX dX11_tests_16 rfl 2 rfl ?_
  refine J_iaload hX dX11_tests_17 (ltn ltc_92 hn) lay_92 h (fun h => ?_)
  refine J_bipush hX (24 : Int32) dX11_tests_18 (by decide) ?_
  refine J_icmp_ne hX 44 dX11_tests_20 (by decide) h (fun c h => ?_) (fun c h => ?_)
  · refine J_aload_n hX dX11_tests_23 rfl 1 rfl ?_
    refine J_getR hX dX11_tests_24 fl_RX11_47 (ltn ltc_78 hn) lo_78 rfl (rt_78_23 _ _ _ _ _) ?_
    refine J_iload_n hX dX11_tests_27 rfl 2 rfl ?_
    refine J_iaload hX dX11_tests_28 (ltn ltc_91 hn) lay_91 h (fun h => ?_)
    refine J_aload_n hX dX11_tests_29 rfl 1 rfl ?_
    refine J_getR hX dX11_tests_30 fl_RX11_53 (ltn ltc_78 hn) lo_78 rfl (rt_78_25 _ _ _ _ _) ?_
    refine J_iload_n hX dX11_tests_33 rfl 2 rfl ?_
    refine J_iaload hX dX11_tests_34 (ltn ltc_93 hn) lay_93 h (fun h => ?_)
    refine J_icmp_ge hX 42 dX11_tests_35 (by decide) h (fun c h => ?_) (fun c h => ?_)
    · refine J_iconst hX (1 : Int32) dX11_tests_38 ic_1 ?_
      refine J_goto hX 43 dX11_tests_39 (by decide) ?_
      refine J_sub [(0, .ref 78), (1, .int x1)] [1, 2] rfl ?_
      exact t_X11_tests_J43 hX hd0 hn hF x1 (1 : Int32) m1 h
    · refine J_iconst hX (0 : Int32) dX11_tests_42 ic_0 ?_
      refine J_sub [(0, .ref 78), (1, .int x1)] [1, 2] rfl ?_
      exact t_X11_tests_J43 hX hd0 hn hF x1 (0 : Int32) m1 h
  · refine J_sub [(0, .ref 78), (1, .int x1), (2, .int (gI m1 93 (ix x1)))] [1, 2, 0] rfl ?_
    exact t_X11_tests_J44 hX hd0 hn hF x1 (gI m1 93 (ix x1))  m1 h
theorem c_X11_tests {G : GG} {l : Launch} {ρ : Nat → Nat} {n t u w v : Nat} {x : Option Nat} (hn : 126 ≤ n) {x1 : Int32} {m : Mm} {mE : Mm} (h : f_X11_tests x1 m = some mE) : CT G l yX11_tests cX11_tests 3 none 1 0 0 ρ n (RT t u w v x) [.ref 78, .int x1] m none (RT t u w v x) mE := ct_of_J (by decide) rfl (Nat.le_of_ble_eq_true rfl) (fun X hX e1 e2 e3 e4 hQ hr hl => t_X11_tests hX (Nat.le_refl _) hn ⟨by rw [hQ, e3, e4], hr, hl⟩ h)
theorem t_X11_within {X : XX} {G : GG} {ρ : Nat → Nat} {n t u w v : Nat} {x : Option Nat} {d : Nat} (hX : Ok X G ρ cX11_within 3 RX11 d) (hd0 : 0 ≤ d) (hn : 126 ≤ n) {rE : Int32} {mE : Mm} (hF : Fin' X G ρ n (some .boolean) (some (.int rE)) (RT t u w v x) mE) {x0 : Int32} {x1 : Int32} {x2 : Int32} {m : Mm} (h : f_X11_within x0 x1 x2 m = some (rE, mE)) : J X G ρ n 3 0 [(0, .int x0), (1, .int x1), (2, .int x2)] [] (RT t u w v x) m := by
  unfold f_X11_within at h
  refine J_iload_n hX dX11_within_0 rfl 0 rfl ?_
  refine J_iload_n hX dX11_within_1 rfl 1 rfl ?_
  refine J_icmp_lt hX 14 dX11_within_2 (by decide) h (fun c h => ?_) (fun c h => ?_)
  · refine J_iconst hX (0 : Int32) dX11_within_14 ic_0 ?_
    exact J_ireturn hX dX11_within_15 h hF narrow_b0
  · refine J_iload_n hX dX11_within_5 rfl 0 rfl ?_
    refine J_iload_n hX dX11_within_6 rfl 2 rfl ?_
    refine J_icmp_gt hX 14 dX11_within_7 (by decide) h (fun c h => ?_) (fun c h => ?_)
    · refine J_iconst hX (0 : Int32) dX11_within_14 ic_0 ?_
      exact J_ireturn hX dX11_within_15 h hF narrow_b0
    · refine J_iconst hX (1 : Int32) dX11_within_10 ic_1 ?_
      refine J_goto hX 15 dX11_within_11 (by decide) ?_
      exact J_ireturn hX dX11_within_15 h hF narrow_b1
theorem c_X11_within {G : GG} {l : Launch} {ρ : Nat → Nat} {n t u w v : Nat} {x : Option Nat} (hn : 126 ≤ n) {x0 : Int32} {x1 : Int32} {x2 : Int32} {m : Mm} {rE : Int32} {mE : Mm} (h : f_X11_within x0 x1 x2 m = some (rE, mE)) : CT G l yX11_within cX11_within 3 (some .boolean) 0 0 0 ρ n (RT t u w v x) [.int x0, .int x1, .int x2] m (some (.int rE)) (RT t u w v x) mE := ct_of_J (by decide) rfl (Nat.le_of_ble_eq_true rfl) (fun X hX e1 e2 e3 e4 hQ hr hl => t_X11_within hX (Nat.le_refl _) hn ⟨by rw [hQ, e3, e4], hr, hl⟩ h)
theorem t_X11_needsNumber {X : XX} {G : GG} {ρ : Nat → Nat} {n t u w v : Nat} {x : Option Nat} {d : Nat} (hX : Ok X G ρ cX11_needsNumber 3 RX11 d) (hd0 : 2 ≤ d) (hn : 126 ≤ n) {rE : Int32} {mE : Mm} (hF : Fin' X G ρ n (some .boolean) (some (.int rE)) (RT t u w v x) mE) {x1 : Int32} {x2 : Int32} {m : Mm} (h : f_X11_needsNumber x1 x2 m = some (rE, mE)) : J X G ρ n 3 0 [(0, .ref 78), (1, .int x1), (2, .int x2)] [] (RT t u w v x) m := by
  unfold f_X11_needsNumber at h
  refine J_aload_n hX dX11_needsNumber_0 rfl 0 rfl ?_
  refine J_getI hX dX11_needsNumber_1 fl_RX11_177 (ltn ltc_78 hn) lo_78 rfl ?_
  refine J_iconst hX (2 : Int32) dX11_needsNumber_4 ic_2 ?_
  refine J_icmp_eq hX 14 dX11_needsNumber_5 (by decide) h (fun c h => ?_) (fun c h => ?_)
  · refine J_aload_n hX dX11_needsNumber_14 rfl 0 rfl ?_
    refine J_getI hX dX11_needsNumber_15 fl_RX11_174 (ltn ltc_78 hn) lo_78 rfl ?_
    refine J_iload_n hX dX11_needsNumber_18 rfl 1 rfl ?_
    refine J_iload_n hX dX11_needsNumber_19 rfl 2 rfl ?_
    obtain ⟨r2, m1, h0, h⟩ := bd2_some h
    refine J_callSi (As := [.int (gI m 78 8), .int x1, .int x2]) (st := []) hX dX11_needsNumber_20 cw_RX11_239 (by omega) (c_X11_within hn  h0) rfl rfl (Nat.le_of_ble_eq_true rfl) ?_
    clear h0
    refine J_if_ne hX 32 dX11_needsNumber_23 (by decide) h (fun c h => ?_) (fun c h => ?_)
    · refine J_aload_n hX dX11_needsNumber_26 rfl 0 rfl ?_
      refine J_iconst hX (4 : Int32) dX11_needsNumber_27 ic_4 ?_
      obtain ⟨r6, m5, h0, h⟩ := bd2_some h
      refine J_callVi (As := [.int (4 : Int32)]) (st := []) hX dX11_needsNumber_28 cw_RX11_216 (by omega) (c_X11_fails hn  h0) (ltn ltc_78 hn) lo_78 (by decide) rfl rfl rfl (Nat.le_of_ble_eq_true rfl) ?_
      clear h0
      obtain ⟨gB, h⟩ := gd_some h
      exact J_ireturn hX dX11_needsNumber_31 h hF (isB_nar gB)
    · refine J_aload_n hX dX11_needsNumber_32 rfl 0 rfl ?_
      refine J_aload_n hX dX11_needsNumber_33 rfl 0 rfl ?_
      refine J_getI hX dX11_needsNumber_34 fl_RX11_174 (ltn ltc_78 hn) lo_78 rfl ?_
      refine J_putI hX dX11_needsNumber_37 pl_RX11_243 (ltn ltc_78 hn) lo_78 rfl rfl rfl h (fun m3 h => ?_)
      refine J_aload_n hX dX11_needsNumber_40 rfl 0 rfl ?_
      obtain ⟨m4, h0, h⟩ := bd1_some h
      refine J_callVv (As := []) (st := []) hX dX11_needsNumber_41 cw_RX11_223 (by omega) (c_X11_nextToken hn  h0) (ltn ltc_78 hn) lo_78 (by decide) rfl rfl rfl (Nat.le_of_ble_eq_true rfl) ?_
      clear h0
      refine J_iconst hX (1 : Int32) dX11_needsNumber_44 ic_1 ?_
      exact J_ireturn hX dX11_needsNumber_45 h hF narrow_b1
  · refine J_aload_n hX dX11_needsNumber_8 rfl 0 rfl ?_
    refine J_iconst hX (1 : Int32) dX11_needsNumber_9 ic_1 ?_
    obtain ⟨r8, m7, h0, h⟩ := bd2_some h
    refine J_callVi (As := [.int (1 : Int32)]) (st := []) hX dX11_needsNumber_10 cw_RX11_216 (by omega) (c_X11_fails hn  h0) (ltn ltc_78 hn) lo_78 (by decide) rfl rfl rfl (Nat.le_of_ble_eq_true rfl) ?_
    clear h0
    obtain ⟨gB, h⟩ := gd_some h
    exact J_ireturn hX dX11_needsNumber_13 h hF (isB_nar gB)
theorem c_X11_needsNumber {G : GG} {l : Launch} {ρ : Nat → Nat} {n t u w v : Nat} {x : Option Nat} (hn : 126 ≤ n) {x1 : Int32} {x2 : Int32} {m : Mm} {rE : Int32} {mE : Mm} (h : f_X11_needsNumber x1 x2 m = some (rE, mE)) : CT G l yX11_needsNumber cX11_needsNumber 3 (some .boolean) 2 0 0 ρ n (RT t u w v x) [.ref 78, .int x1, .int x2] m (some (.int rE)) (RT t u w v x) mE := ct_of_J (by decide) rfl (Nat.le_of_ble_eq_true rfl) (fun X hX e1 e2 e3 e4 hQ hr hl => t_X11_needsNumber hX (Nat.le_refl _) hn ⟨by rw [hQ, e3, e4], hr, hl⟩ h)
theorem t_X11_closes {X : XX} {G : GG} {ρ : Nat → Nat} {n t u w v : Nat} {x : Option Nat} {d : Nat} (hX : Ok X G ρ cX11_closes 1 RX11 d) (hd0 : 2 ≤ d) (hn : 126 ≤ n) {rE : Int32} {mE : Mm} (hF : Fin' X G ρ n (some .boolean) (some (.int rE)) (RT t u w v x) mE) {m : Mm} (h : f_X11_closes m = some (rE, mE)) : J X G ρ n 1 0 [(0, .ref 78)] [] (RT t u w v x) m := by
  unfold f_X11_closes at h
  refine J_aload_n hX dX11_closes_0 rfl 0 rfl ?_
  refine J_bipush hX (59 : Int32) dX11_closes_1 (by decide) ?_
  obtain ⟨r2, m1, h0, h⟩ := bd2_some h
  refine J_callVi (As := [.int (59 : Int32)]) (st := []) hX dX11_closes_3 cw_RX11_212 (by omega) (c_X11_isSign hn  h0) (ltn ltc_78 hn) lo_78 (by decide) rfl rfl rfl (Nat.le_of_ble_eq_true rfl) ?_
  clear h0
  refine J_if_ne hX 15 dX11_closes_6 (by decide) h (fun c h => ?_) (fun c h => ?_)
  · refine J_aload_n hX dX11_closes_9 rfl 0 rfl ?_
    refine J_iconst hX (1 : Int32) dX11_closes_10 ic_1 ?_
    obtain ⟨r5, m4, h0, h⟩ := bd2_some h
    refine J_callVi (As := [.int (1 : Int32)]) (st := []) hX dX11_closes_11 cw_RX11_216 (by omega) (c_X11_fails hn  h0) (ltn ltc_78 hn) lo_78 (by decide) rfl rfl rfl (Nat.le_of_ble_eq_true rfl) ?_
    clear h0
    obtain ⟨gB, h⟩ := gd_some h
    exact J_ireturn hX dX11_closes_14 h hF (isB_nar gB)
  · refine J_aload_n hX dX11_closes_15 rfl 0 rfl ?_
    obtain ⟨m3, h0, h⟩ := bd1_some h
    refine J_callVv (As := []) (st := []) hX dX11_closes_16 cw_RX11_223 (by omega) (c_X11_nextToken hn  h0) (ltn ltc_78 hn) lo_78 (by decide) rfl rfl rfl (Nat.le_of_ble_eq_true rfl) ?_
    clear h0
    refine J_iconst hX (1 : Int32) dX11_closes_19 ic_1 ?_
    exact J_ireturn hX dX11_closes_20 h hF narrow_b1
theorem c_X11_closes {G : GG} {l : Launch} {ρ : Nat → Nat} {n t u w v : Nat} {x : Option Nat} (hn : 126 ≤ n) {m : Mm} {rE : Int32} {mE : Mm} (h : f_X11_closes m = some (rE, mE)) : CT G l yX11_closes cX11_closes 1 (some .boolean) 2 0 0 ρ n (RT t u w v x) [.ref 78] m (some (.int rE)) (RT t u w v x) mE := ct_of_J (by decide) rfl (Nat.le_of_ble_eq_true rfl) (fun X hX e1 e2 e3 e4 hQ hr hl => t_X11_closes hX (Nat.le_refl _) hn ⟨by rw [hQ, e3, e4], hr, hl⟩ h)
