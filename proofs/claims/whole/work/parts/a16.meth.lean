theorem t_X4_mostShared_L4 {X : XX} {G : GG} {ρ : Nat → Nat} {n t u w v : Nat} {x : Option Nat} {d : Nat} {a : Nat} (hX : Ok X G ρ cX4_mostShared 4 RX4 d) (hd0 : 1 ≤ d) (hn : 126 ≤ n) (ha : isLa a) {rE : Int32} {mE : Mm} (hF : Fin' X G ρ n (some .int) (some (.int rE)) (RT t u w v x) mE) : ∀ (k : Nat) (v1 : Int32) (v2 : Int32) (v3 : Int32) (m : Mm), f_X4_mostShared_L4 a k v1 v2 v3 m = some (rE, mE) → J X G ρ n 4 4 [(0, .ref a), (1, .int v1), (2, .int v2), (3, .int v3)] [] (RT t u w v x) m := by
  intro k
  induction k with
  | zero => intro _ _ _ _ h; rw [f_X4_mostShared_L4] at h; cases h
  | succ k ih =>
    intro v1 v2 v3 m h
    rw [f_X4_mostShared_L4] at h
    refine J_iload_n hX dX4_mostShared_4 rfl 3 rfl ?_
    refine J_aload_n hX dX4_mostShared_5 rfl 0 rfl ?_
    refine J_getI hX dX4_mostShared_6 fl_RX4_78 (ltn (lt_isLa_0 ha) hn) (lo_isLa_0 ha) rfl ?_
    refine J_icmp_ge hX 34 dX4_mostShared_9 (by decide) h (fun c h => ?_) (fun c h => ?_)
    · refine J_iload_n hX dX4_mostShared_12 rfl 3 rfl ?_
      refine J_iload_n hX dX4_mostShared_13 rfl 1 rfl ?_
      refine J_icmp_eq hX 28 dX4_mostShared_14 (by decide) h (fun c h => ?_) (fun c h => ?_)
      · refine J_iinc hX (v3 + (1 : Int32)) [(3, .int (v3 + (1 : Int32))), (0, .ref a), (1, .int v1), (2, .int v2)] dX4_mostShared_28 3 rfl (congrArg (fun z => v3 + z) ic_1) (by decide) rfl ?_
        refine J_goto hX 4 dX4_mostShared_31 (by decide) ?_
        refine J_sub [(0, .ref a), (1, .int v1), (2, .int v2), (3, .int (v3 + (1 : Int32)))] [1, 2, 3, 0] rfl ?_
        exact ih v1 v2 (v3 + (1 : Int32)) m h
      · refine J_iload_n hX dX4_mostShared_17 rfl 2 rfl ?_
        refine J_aload_n hX dX4_mostShared_18 rfl 0 rfl ?_
        refine J_iload_n hX dX4_mostShared_19 rfl 1 rfl ?_
        refine J_iload_n hX dX4_mostShared_20 rfl 3 rfl ?_
        obtain ⟨r2, m1, h0, h⟩ := bd2_some h
        refine J_callVi (As := [.int v1, .int v3]) (st := [.int v2]) hX dX4_mostShared_21 cw_RX4_101 (by omega) (c_X4_shared hn ha h0) (ltn (lt_isLa_0 ha) hn) (lo_isLa_0 ha) (by decide) rfl rfl rfl (Nat.le_of_ble_eq_true rfl) ?_
        clear h0
        refine J_imax hX dX4_mostShared_24 (by omega) cm_RX4_104 (Nat.le_of_ble_eq_true rfl) ?_
        refine J_istore_n hX [(2, .int (imax v2 r2)), (0, .ref a), (1, .int v1), (3, .int v3)] dX4_mostShared_27 rfl (by decide) rfl ?_
        refine J_iinc hX (v3 + (1 : Int32)) [(3, .int (v3 + (1 : Int32))), (2, .int (imax v2 r2)), (0, .ref a), (1, .int v1)] dX4_mostShared_28 3 rfl (congrArg (fun z => v3 + z) ic_1) (by decide) rfl ?_
        refine J_goto hX 4 dX4_mostShared_31 (by decide) ?_
        refine J_sub [(0, .ref a), (1, .int v1), (2, .int (imax v2 r2)), (3, .int (v3 + (1 : Int32)))] [2, 3, 1, 0] rfl ?_
        exact ih v1 (imax v2 r2) (v3 + (1 : Int32)) m1 h
    · refine J_iload_n hX dX4_mostShared_34 rfl 2 rfl ?_
      exact J_ireturn hX dX4_mostShared_35 h hF rfl
theorem t_X4_mostShared {X : XX} {G : GG} {ρ : Nat → Nat} {n t u w v : Nat} {x : Option Nat} {d : Nat} {a : Nat} (hX : Ok X G ρ cX4_mostShared 4 RX4 d) (hd0 : 1 ≤ d) (hn : 126 ≤ n) (ha : isLa a) {rE : Int32} {mE : Mm} (hF : Fin' X G ρ n (some .int) (some (.int rE)) (RT t u w v x) mE) {x1 : Int32} {m : Mm} (h : f_X4_mostShared a x1 m = some (rE, mE)) : J X G ρ n 4 0 [(0, .ref a), (1, .int x1)] [] (RT t u w v x) m := by
  unfold f_X4_mostShared at h
  refine J_iconst hX (0 : Int32) dX4_mostShared_0 ic_0 ?_
  refine J_istore_n hX [(2, .int (0 : Int32)), (0, .ref a), (1, .int x1)] dX4_mostShared_1 rfl (by decide) rfl ?_
  refine J_iconst hX (0 : Int32) dX4_mostShared_2 ic_0 ?_
  refine J_istore_n hX [(3, .int (0 : Int32)), (2, .int (0 : Int32)), (0, .ref a), (1, .int x1)] dX4_mostShared_3 rfl (by decide) rfl ?_
  refine J_sub [(0, .ref a), (1, .int x1), (2, .int (0 : Int32)), (3, .int (0 : Int32))] [2, 3, 1, 0] rfl ?_
  exact t_X4_mostShared_L4 hX hd0 hn ha hF FU x1 (0 : Int32) (0 : Int32)  m h
theorem c_X4_mostShared {G : GG} {l : Launch} {ρ : Nat → Nat} {n t u w v : Nat} {x : Option Nat} (hn : 126 ≤ n) {a : Nat} (ha : isLa a) {x1 : Int32} {m : Mm} {rE : Int32} {mE : Mm} (h : f_X4_mostShared a x1 m = some (rE, mE)) : CT G l yX4_mostShared cX4_mostShared 4 (some .int) 1 0 0 ρ n (RT t u w v x) [.ref a, .int x1] m (some (.int rE)) (RT t u w v x) mE := ct_of_J (by decide) rfl (Nat.le_of_ble_eq_true rfl) (fun X hX e1 e2 e3 e4 hQ hr hl => t_X4_mostShared hX (Nat.le_refl _) hn ha ⟨by rw [hQ, e3, e4], hr, hl⟩ h)
theorem t_X10_worst {X : XX} {G : GG} {ρ : Nat → Nat} {n : Nat} {x : Option Nat} {d : Nat} {t : Nat} {u : Nat} {w : Nat} {v : Nat} (hX : Ok X G ρ cX10_worst 2 RX10 d) (hd0 : 2 ≤ d) (hn : 126 ≤ n) (ht : isTo t) (hu : isTo u) (hw : isWk w) (hv : isWk v) {rE : Int32} {mE : Mm} (hF : Fin' X G ρ n (some .int) (some (.int rE)) (RT t u w v x) mE) {x1 : Int32} {m : Mm} (h : f_X10_worst t u w v x1 m = some (rE, mE)) : J X G ρ n 2 0 [(0, .ref 0), (1, .int x1)] [] (RT t u w v x) m := by
  unfold f_X10_worst at h
  refine J_aload_n hX dX10_worst_0 rfl 0 rfl ?_
  refine J_iload_n hX dX10_worst_1 rfl 1 rfl ?_
  obtain ⟨r2, m1, h0, h⟩ := bd2_some h
  refine J_callVi (As := [.int x1]) (st := []) hX dX10_worst_2 cw_RX10_170 (by omega) (c_X10_isDisk hn ht hu hw hv h0) (ltn ltc_0 hn) lo_0 (by decide) rfl rfl rfl (Nat.le_of_ble_eq_true rfl) ?_
  clear h0
  refine J_if_eq hX 19 dX10_worst_5 (by decide) h (fun c h => ?_) (fun c h => ?_)
  · refine J_iconst hX (-1 : Int32) dX10_worst_19 ic_m1 ?_
    exact J_ireturn hX dX10_worst_20 h hF rfl
  · refine J_aload_n hX dX10_worst_8 rfl 0 rfl ?_
    refine J_getR hX dX10_worst_9 fl_RX10_50 (ltn ltc_0 hn) lo_0 rfl (rt_0_6 _ _ _ _ _) ?_
    refine J_iload_n hX dX10_worst_12 rfl 1 rfl ?_
    obtain ⟨r4, m3, h0, h⟩ := bd2_some h
    refine J_callVi (As := [.int x1]) (st := []) hX dX10_worst_13 cw_RX10_238 (by omega) (c_X4_mostShared hn p_isLa_26 h0) (ltn ltc_26 hn) lo_26 (by decide) rfl rfl rfl (Nat.le_of_ble_eq_true rfl) ?_
    clear h0
    refine J_goto hX 20 dX10_worst_16 (by decide) ?_
    exact J_ireturn hX dX10_worst_20 h hF rfl
theorem c_X10_worst {G : GG} {l : Launch} {ρ : Nat → Nat} {n : Nat} {x : Option Nat} (hn : 126 ≤ n) {t : Nat} {u : Nat} {w : Nat} {v : Nat} (ht : isTo t) (hu : isTo u) (hw : isWk w) (hv : isWk v) {x1 : Int32} {m : Mm} {rE : Int32} {mE : Mm} (h : f_X10_worst t u w v x1 m = some (rE, mE)) : CT G l yX10_worst cX10_worst 2 (some .int) 2 0 0 ρ n (RT t u w v x) [.ref 0, .int x1] m (some (.int rE)) (RT t u w v x) mE := ct_of_J (by decide) rfl (Nat.le_of_ble_eq_true rfl) (fun X hX e1 e2 e3 e4 hQ hr hl => t_X10_worst hX (Nat.le_refl _) hn ht hu hw hv ⟨by rw [hQ, e3, e4], hr, hl⟩ h)
theorem t_X11_worst_L19 {X : XX} {G : GG} {ρ : Nat → Nat} {n t u w v : Nat} {x : Option Nat} {d : Nat} (hX : Ok X G ρ cX11_worst 4 RX11 d) (hd0 : 2 ≤ d) (hn : 126 ≤ n) {rE : Int32} {mE : Mm} (hF : Fin' X G ρ n (some .int) (some (.int rE)) (RT t u w v x) mE) : ∀ (k : Nat) (v1 : Int32) (v2 : Int32) (v3 : Int32) (m : Mm), f_X11_worst_L19 k v1 v2 v3 m = some (rE, mE) → J X G ρ n 4 19 [(0, .ref 78), (1, .int v1), (2, .int v2), (3, .int v3)] [] (RT t u w v x) m := by
  intro k
  induction k with
  | zero => intro _ _ _ _ h; rw [f_X11_worst_L19] at h; cases h
  | succ k ih =>
    intro v1 v2 v3 m h
    rw [f_X11_worst_L19] at h
    refine J_iload_n hX dX11_worst_19 rfl 3 rfl ?_
    refine J_aload_n hX dX11_worst_20 rfl 0 rfl ?_
    refine J_getR hX dX11_worst_21 fl_RX11_13 (ltn ltc_78 hn) lo_78 rfl (rt_78_10 _ _ _ _ _) ?_
    refine J_iconst hX (0 : Int32) dX11_worst_24 ic_0 ?_
    refine J_iaload0 hX dX11_worst_25 (ltn ltc_80 hn) lay_80 (by decide) ?_
    refine J_icmp_ge hX 51 dX11_worst_26 (by decide) h (fun c h => ?_) (fun c h => ?_)
    · refine J_iload_n hX dX11_worst_29 rfl 3 rfl ?_
      refine J_iload_n hX dX11_worst_30 rfl 1 rfl ?_
      refine J_icmp_eq hX 45 dX11_worst_31 (by decide) h (fun c h => ?_) (fun c h => ?_)
      · refine J_iinc hX (v3 + (1 : Int32)) [(3, .int (v3 + (1 : Int32))), (0, .ref 78), (1, .int v1), (2, .int v2)] dX11_worst_45 3 rfl (congrArg (fun z => v3 + z) ic_1) (by decide) rfl ?_
        refine J_goto hX 19 dX11_worst_48 (by decide) ?_
        refine J_sub [(0, .ref 78), (1, .int v1), (2, .int v2), (3, .int (v3 + (1 : Int32)))] [1, 2, 3, 0] rfl ?_
        exact ih v1 v2 (v3 + (1 : Int32)) m h
      · refine J_iload_n hX dX11_worst_34 rfl 2 rfl ?_
        refine J_aload_n hX dX11_worst_35 rfl 0 rfl ?_
        refine J_iload_n hX dX11_worst_36 rfl 1 rfl ?_
        refine J_iload_n hX dX11_worst_37 rfl 3 rfl ?_
        obtain ⟨r5, m4, h0, h⟩ := bd2_some h
        refine J_callVi (As := [.int v1, .int v3]) (st := [.int v2]) hX dX11_worst_38 cw_RX11_431 (by omega) (c_X11_pairsOf hn  h0) (ltn ltc_78 hn) lo_78 (by decide) rfl rfl rfl (Nat.le_of_ble_eq_true rfl) ?_
        clear h0
        refine J_imax hX dX11_worst_41 (by omega) cm_RX11_434 (Nat.le_of_ble_eq_true rfl) ?_
        refine J_istore_n hX [(2, .int (imax v2 r5)), (0, .ref 78), (1, .int v1), (3, .int v3)] dX11_worst_44 rfl (by decide) rfl ?_
        refine J_iinc hX (v3 + (1 : Int32)) [(3, .int (v3 + (1 : Int32))), (2, .int (imax v2 r5)), (0, .ref 78), (1, .int v1)] dX11_worst_45 3 rfl (congrArg (fun z => v3 + z) ic_1) (by decide) rfl ?_
        refine J_goto hX 19 dX11_worst_48 (by decide) ?_
        refine J_sub [(0, .ref 78), (1, .int v1), (2, .int (imax v2 r5)), (3, .int (v3 + (1 : Int32)))] [2, 3, 1, 0] rfl ?_
        exact ih v1 (imax v2 r5) (v3 + (1 : Int32)) m4 h
    · refine J_iload_n hX dX11_worst_51 rfl 2 rfl ?_
      exact J_ireturn hX dX11_worst_52 h hF rfl
theorem t_X11_worst {X : XX} {G : GG} {ρ : Nat → Nat} {n t u w v : Nat} {x : Option Nat} {d : Nat} (hX : Ok X G ρ cX11_worst 4 RX11 d) (hd0 : 2 ≤ d) (hn : 126 ≤ n) {rE : Int32} {mE : Mm} (hF : Fin' X G ρ n (some .int) (some (.int rE)) (RT t u w v x) mE) {x1 : Int32} {m : Mm} (h : f_X11_worst x1 m = some (rE, mE)) : J X G ρ n 4 0 [(0, .ref 78), (1, .int x1)] [] (RT t u w v x) m := by
  unfold f_X11_worst at h
  refine J_aload_n hX dX11_worst_0 rfl 0 rfl ?_
  refine J_iconst hX (0 : Int32) dX11_worst_1 ic_0 ?_
  refine J_putI hX dX11_worst_2 pl_RX11_152 (ltn ltc_78 hn) lo_78 rfl rfl rfl h (fun m1 h => ?_)
  refine J_aload_n hX dX11_worst_5 rfl 0 rfl ?_
  refine J_iload_n hX dX11_worst_6 rfl 1 rfl ?_
  obtain ⟨r3, m2, h0, h⟩ := bd2_some h
  refine J_callVi (As := [.int x1]) (st := []) hX dX11_worst_7 cw_RX11_385 (by omega) (c_X11_isDisk hn  h0) (ltn ltc_78 hn) lo_78 (by decide) rfl rfl rfl (Nat.le_of_ble_eq_true rfl) ?_
  clear h0
  refine J_if_ne hX 15 dX11_worst_10 (by decide) h (fun c h => ?_) (fun c h => ?_)
  · refine J_iconst hX (-1 : Int32) dX11_worst_13 ic_m1 ?_
    exact J_ireturn hX dX11_worst_14 h hF rfl
  · refine J_iconst hX (0 : Int32) dX11_worst_15 ic_0 ?_
    refine J_istore_n hX [(2, .int (0 : Int32)), (0, .ref 78), (1, .int x1)] dX11_worst_16 rfl (by decide) rfl ?_
    refine J_iconst hX (0 : Int32) dX11_worst_17 ic_0 ?_
    refine J_istore_n hX [(3, .int (0 : Int32)), (2, .int (0 : Int32)), (0, .ref 78), (1, .int x1)] dX11_worst_18 rfl (by decide) rfl ?_
    refine J_sub [(0, .ref 78), (1, .int x1), (2, .int (0 : Int32)), (3, .int (0 : Int32))] [2, 3, 1, 0] rfl ?_
    exact t_X11_worst_L19 hX hd0 hn hF FU x1 (0 : Int32) (0 : Int32)  m2 h
theorem c_X11_worst {G : GG} {l : Launch} {ρ : Nat → Nat} {n t u w v : Nat} {x : Option Nat} (hn : 126 ≤ n) {x1 : Int32} {m : Mm} {rE : Int32} {mE : Mm} (h : f_X11_worst x1 m = some (rE, mE)) : CT G l yX11_worst cX11_worst 4 (some .int) 2 0 0 ρ n (RT t u w v x) [.ref 78, .int x1] m (some (.int rE)) (RT t u w v x) mE := ct_of_J (by decide) rfl (Nat.le_of_ble_eq_true rfl) (fun X hX e1 e2 e3 e4 hQ hr hl => t_X11_worst hX (Nat.le_refl _) hn ⟨by rw [hQ, e3, e4], hr, hl⟩ h)
theorem t_X10_spread {X : XX} {G : GG} {ρ : Nat → Nat} {n : Nat} {x : Option Nat} {d : Nat} {t : Nat} {u : Nat} {w : Nat} {v : Nat} (hX : Ok X G ρ cX10_spread 2 RX10 d) (hd0 : 2 ≤ d) (hn : 126 ≤ n) (ht : isTo t) (hu : isTo u) (hw : isWk w) (hv : isWk v) {rE : Int32} {mE : Mm} (hF : Fin' X G ρ n (some .int) (some (.int rE)) (RT t u w v x) mE) {x1 : Int32} {m : Mm} (h : f_X10_spread t u w v x1 m = some (rE, mE)) : J X G ρ n 2 0 [(0, .ref 0), (1, .int x1)] [] (RT t u w v x) m := by
  unfold f_X10_spread at h
  refine J_aload_n hX dX10_spread_0 rfl 0 rfl ?_
  refine J_getR hX dX10_spread_1 fl_RX10_50 (ltn ltc_0 hn) lo_0 rfl (rt_0_6 _ _ _ _ _) ?_
  refine J_getI hX dX10_spread_4 fl_RX10_112 (ltn ltc_26 hn) lo_26 rfl ?_
  refine J_if_ne hX 12 dX10_spread_7 (by decide) h (fun c h => ?_) (fun c h => ?_)
  · refine J_iconst hX (-1 : Int32) dX10_spread_10 ic_m1 ?_
    exact J_ireturn hX dX10_spread_11 h hF rfl
  · refine J_iload_n hX dX10_spread_12 rfl 1 rfl ?_
    refine J_split h (fun c0 h => ?_) (fun c0 h => ?_)
    · refine J_tabIn hX 40 (0 : Int32) dX10_spread_13 c0 (by decide) (by decide) (by decide) (by decide) ?_
      refine J_aload_n hX dX10_spread_40 rfl 0 rfl ?_
      refine J_getR hX dX10_spread_41 fl_RX10_50 (ltn ltc_0 hn) lo_0 rfl (rt_0_6 _ _ _ _ _) ?_
      refine J_getR hX dX10_spread_44 fl_RX10_179 (ltn ltc_26 hn) lo_26 rfl (rt_26_13 _ _ _ _ _) ?_
      refine J_aload_n hX dX10_spread_47 rfl 0 rfl ?_
      refine J_getR hX dX10_spread_48 fl_RX10_50 (ltn ltc_0 hn) lo_0 rfl (rt_0_6 _ _ _ _ _) ?_
      refine J_getI hX dX10_spread_51 fl_RX10_112 (ltn ltc_26 hn) lo_26 rfl ?_
      obtain ⟨r2, m1, h0, h⟩ := bd2_some h
      refine J_callSi (As := [.ref 37, .int (gI m 26 0)]) (st := []) hX dX10_spread_54 cw_RX10_241 (by omega) (c_X10_spreadOf hn ht hu hw hv p_isIa_37 h0) rfl rfl (Nat.le_of_ble_eq_true rfl) ?_
      clear h0
      exact J_ireturn hX dX10_spread_57 h hF rfl
    · refine J_split h (fun c1 h => ?_) (fun c1 h => ?_)
      · refine J_tabIn hX 58 (1 : Int32) dX10_spread_13 c1 (by decide) (by decide) (by decide) (by decide) ?_
        refine J_aload_n hX dX10_spread_58 rfl 0 rfl ?_
        refine J_getR hX dX10_spread_59 fl_RX10_50 (ltn ltc_0 hn) lo_0 rfl (rt_0_6 _ _ _ _ _) ?_
        refine J_getR hX dX10_spread_62 fl_RX10_182 (ltn ltc_26 hn) lo_26 rfl (rt_26_14 _ _ _ _ _) ?_
        refine J_aload_n hX dX10_spread_65 rfl 0 rfl ?_
        refine J_getR hX dX10_spread_66 fl_RX10_50 (ltn ltc_0 hn) lo_0 rfl (rt_0_6 _ _ _ _ _) ?_
        refine J_getI hX dX10_spread_69 fl_RX10_112 (ltn ltc_26 hn) lo_26 rfl ?_
        obtain ⟨r4, m3, h0, h⟩ := bd2_some h
        refine J_callSi (As := [.ref 38, .int (gI m 26 0)]) (st := []) hX dX10_spread_72 cw_RX10_241 (by omega) (c_X10_spreadOf hn ht hu hw hv p_isIa_38 h0) rfl rfl (Nat.le_of_ble_eq_true rfl) ?_
        clear h0
        exact J_ireturn hX dX10_spread_75 h hF rfl
      · refine J_split h (fun c2 h => ?_) (fun c2 h => ?_)
        · refine J_tabIn hX 76 (2 : Int32) dX10_spread_13 c2 (by decide) (by decide) (by decide) (by decide) ?_
          refine J_aload_n hX dX10_spread_76 rfl 0 rfl ?_
          refine J_getR hX dX10_spread_77 fl_RX10_50 (ltn ltc_0 hn) lo_0 rfl (rt_0_6 _ _ _ _ _) ?_
          refine J_getR hX dX10_spread_80 fl_RX10_185 (ltn ltc_26 hn) lo_26 rfl (rt_26_15 _ _ _ _ _) ?_
          refine J_aload_n hX dX10_spread_83 rfl 0 rfl ?_
          refine J_getR hX dX10_spread_84 fl_RX10_50 (ltn ltc_0 hn) lo_0 rfl (rt_0_6 _ _ _ _ _) ?_
          refine J_getI hX dX10_spread_87 fl_RX10_112 (ltn ltc_26 hn) lo_26 rfl ?_
          obtain ⟨r6, m5, h0, h⟩ := bd2_some h
          refine J_callSi (As := [.ref 39, .int (gI m 26 0)]) (st := []) hX dX10_spread_90 cw_RX10_241 (by omega) (c_X10_spreadOf hn ht hu hw hv p_isIa_39 h0) rfl rfl (Nat.le_of_ble_eq_true rfl) ?_
          clear h0
          exact J_ireturn hX dX10_spread_93 h hF rfl
        · refine J_tabOut hX 94 [(0 : Int32), (1 : Int32), (2 : Int32)] dX10_spread_13 (by decide) (by simp only [List.mem_cons, List.not_mem_nil, or_false, not_or]; exact ⟨c0, c1, c2⟩) (by decide) ?_
          refine J_iconst hX (-1 : Int32) dX10_spread_94 ic_m1 ?_
          exact J_ireturn hX dX10_spread_95 h hF rfl
theorem c_X10_spread {G : GG} {l : Launch} {ρ : Nat → Nat} {n : Nat} {x : Option Nat} (hn : 126 ≤ n) {t : Nat} {u : Nat} {w : Nat} {v : Nat} (ht : isTo t) (hu : isTo u) (hw : isWk w) (hv : isWk v) {x1 : Int32} {m : Mm} {rE : Int32} {mE : Mm} (h : f_X10_spread t u w v x1 m = some (rE, mE)) : CT G l yX10_spread cX10_spread 2 (some .int) 2 0 0 ρ n (RT t u w v x) [.ref 0, .int x1] m (some (.int rE)) (RT t u w v x) mE := ct_of_J (by decide) rfl (Nat.le_of_ble_eq_true rfl) (fun X hX e1 e2 e3 e4 hQ hr hl => t_X10_spread hX (Nat.le_refl _) hn ht hu hw hv ⟨by rw [hQ, e3, e4], hr, hl⟩ h)
theorem t_X11_spread_L34 {X : XX} {G : GG} {ρ : Nat → Nat} {n t u w v : Nat} {x : Option Nat} {d : Nat} (hX : Ok X G ρ cX11_spread 5 RX11 d) (hd0 : 3 ≤ d) (hn : 126 ≤ n) {rE : Int32} {mE : Mm} (hF : Fin' X G ρ n (some .int) (some (.int rE)) (RT t u w v x) mE) : ∀ (k : Nat) (v1 : Int32) (v2 : Int32) (v3 : Int32) (v4 : Int32) (m : Mm), f_X11_spread_L34 k v1 v2 v3 v4 m = some (rE, mE) → J X G ρ n 5 34 [(0, .ref 78), (1, .int v1), (2, .int v2), (3, .int v3), (4, .int v4)] [] (RT t u w v x) m := by
  intro k
  induction k with
  | zero => intro _ _ _ _ _ h; rw [f_X11_spread_L34] at h; cases h
  | succ k ih =>
    intro v1 v2 v3 v4 m h
    rw [f_X11_spread_L34] at h
    refine J_iload hX dX11_spread_34 4 rfl ?_
    refine J_aload_n hX dX11_spread_36 rfl 0 rfl ?_
    refine J_getR hX dX11_spread_37 fl_RX11_13 (ltn ltc_78 hn) lo_78 rfl (rt_78_10 _ _ _ _ _) ?_
    refine J_iconst hX (0 : Int32) dX11_spread_40 ic_0 ?_
    refine J_iaload0 hX dX11_spread_41 (ltn ltc_80 hn) lay_80 (by decide) ?_
    refine J_icmp_ge hX 79 dX11_spread_42 (by decide) h (fun c h => ?_) (fun c h => ?_)
    · refine J_iload_n hX dX11_spread_45 rfl 2 rfl ?_
      refine J_aload_n hX dX11_spread_46 rfl 0 rfl ?_
      refine J_iload hX dX11_spread_47 4 rfl ?_
      refine J_iload_n hX dX11_spread_49 rfl 1 rfl ?_
      refine J_iconst hX (1 : Int32) dX11_spread_50 ic_1 ?_
      refine J_iadd hX dX11_spread_51 ?_
      obtain ⟨r5, m4, h0, h⟩ := bd2_some h
      refine J_callVi (As := [.int v4, .int (v1 + (1 : Int32))]) (st := [.int v2]) hX dX11_spread_52 cw_RX11_391 (by omega) (c_X11_ofDisk hn  h0) (ltn ltc_78 hn) lo_78 (by decide) rfl rfl rfl (Nat.le_of_ble_eq_true rfl) ?_
      clear h0
      refine J_imax hX dX11_spread_55 (by omega) cm_RX11_434 (Nat.le_of_ble_eq_true rfl) ?_
      refine J_istore_n hX [(2, .int (imax v2 r5)), (0, .ref 78), (1, .int v1), (3, .int v3), (4, .int v4)] dX11_spread_58 rfl (by decide) rfl ?_
      refine J_iload_n hX dX11_spread_59 rfl 3 rfl ?_
      refine J_aload_n hX dX11_spread_60 rfl 1 rfl ?_
      refine J_iload hX dX11_spread_61 4 rfl ?_
      refine J_iload_n hX dX11_spread_63 rfl 2 rfl ?_
      refine J_iconst hX (1 : Int32) dX11_spread_64 ic_1 ?_
      refine J_iadd hX dX11_spread_65 ?_
      obtain ⟨r7, m6, h0, h⟩ := bd2_some h
      refine J_callVi (As := [.int v4, .int (v1 + (1 : Int32))]) (st := [.int v3]) hX dX11_spread_66 cw_RX11_391 (by omega) (c_X11_ofDisk hn  h0) (ltn ltc_78 hn) lo_78 (by decide) rfl rfl rfl (Nat.le_of_ble_eq_true rfl) ?_
      clear h0
      refine J_imin hX dX11_spread_69 (by omega) cm_RX11_439 (Nat.le_of_ble_eq_true rfl) ?_
      refine J_istore_n hX [(3, .int (imin v3 r7)), (2, .int (imax v2 r5)), (0, .ref 78), (1, .int v1), (4, .int v4)] dX11_spread_72 rfl (by decide) rfl ?_
      refine J_iinc hX (v4 + (1 : Int32)) [(4, .int (v4 + (1 : Int32))), (3, .int (imin v3 r7)), (2, .int (imax v2 r5)), (0, .ref 78), (1, .int v1)] dX11_spread_73 4 rfl (congrArg (fun z => v4 + z) ic_1) (by decide) rfl ?_
      refine J_goto hX 34 dX11_spread_76 (by decide) ?_
      refine J_sub [(0, .ref 78), (1, .int v1), (2, .int (imax v2 r5)), (3, .int (imin v3 r7)), (4, .int (v4 + (1 : Int32)))] [3, 4, 2, 1, 0] rfl ?_
      exact ih v1 (imax v2 r5) (imin v3 r7) (v4 + (1 : Int32)) m6 h
    · refine J_iload_n hX dX11_spread_79 rfl 2 rfl ?_
      refine J_iload_n hX dX11_spread_80 rfl 3 rfl ?_
      refine J_isub hX dX11_spread_81 ?_
      exact J_ireturn hX dX11_spread_82 h hF rfl
theorem t_X11_spread {X : XX} {G : GG} {ρ : Nat → Nat} {n t u w v : Nat} {x : Option Nat} {d : Nat} (hX : Ok X G ρ cX11_spread 5 RX11 d) (hd0 : 3 ≤ d) (hn : 126 ≤ n) {rE : Int32} {mE : Mm} (hF : Fin' X G ρ n (some .int) (some (.int rE)) (RT t u w v x) mE) {x1 : Int32} {m : Mm} (h : f_X11_spread x1 m = some (rE, mE)) : J X G ρ n 5 0 [(0, .ref 78), (1, .int x1)] [] (RT t u w v x) m := by
  unfold f_X11_spread at h
  refine J_aload_n hX dX11_spread_0 rfl 0 rfl ?_
  refine J_iconst hX (0 : Int32) dX11_spread_1 ic_0 ?_
  refine J_putI hX dX11_spread_2 pl_RX11_152 (ltn ltc_78 hn) lo_78 rfl rfl rfl h (fun m1 h => ?_)
  refine J_iload_n hX dX11_spread_5 rfl 1 rfl ?_
  refine J_iconst hX (0 : Int32) dX11_spread_6 ic_0 ?_
  refine J_iconst hX (2 : Int32) dX11_spread_7 ic_2 ?_
  obtain ⟨r3, m2, h0, h⟩ := bd2_some h
  refine J_callSi (As := [.int x1, .int (0 : Int32), .int (2 : Int32)]) (st := []) hX dX11_spread_8 cw_RX11_239 (by omega) (c_X11_within hn  h0) rfl rfl (Nat.le_of_ble_eq_true rfl) ?_
  clear h0
  refine J_if_eq hX 23 dX11_spread_11 (by decide) h (fun c h => ?_) (fun c h => ?_)
  · refine J_iconst hX (-1 : Int32) dX11_spread_23 ic_m1 ?_
    exact J_ireturn hX dX11_spread_24 h hF rfl
  · refine J_aload_n hX dX11_spread_14 rfl 0 rfl ?_
    refine J_getR hX dX11_spread_15 fl_RX11_13 (ltn ltc_78 hn) lo_78 rfl (rt_78_10 _ _ _ _ _) ?_
    refine J_iconst hX (0 : Int32) dX11_spread_18 ic_0 ?_
    refine J_iaload0 hX dX11_spread_19 (ltn ltc_80 hn) lay_80 (by decide) ?_
    refine J_if_ne hX 25 dX11_spread_20 (by decide) h (fun c h => ?_) (fun c h => ?_)
    · refine J_iconst hX (-1 : Int32) dX11_spread_23 ic_m1 ?_
      exact J_ireturn hX dX11_spread_24 h hF rfl
    · refine J_iconst hX (0 : Int32) dX11_spread_25 ic_0 ?_
      refine J_istore_n hX [(2, .int (0 : Int32)), (0, .ref 78), (1, .int x1)] dX11_spread_26 rfl (by decide) rfl ?_
      refine J_sipush hX (999 : Int32) dX11_spread_27 (by decide) ?_
      refine J_istore_n hX [(3, .int (999 : Int32)), (2, .int (0 : Int32)), (0, .ref 78), (1, .int x1)] dX11_spread_30 rfl (by decide) rfl ?_
      refine J_iconst hX (0 : Int32) dX11_spread_31 ic_0 ?_
      refine J_istore hX [(4, .int (0 : Int32)), (3, .int (999 : Int32)), (2, .int (0 : Int32)), (0, .ref 78), (1, .int x1)] dX11_spread_32 (by decide) rfl ?_
      refine J_sub [(0, .ref 78), (1, .int x1), (2, .int (0 : Int32)), (3, .int (999 : Int32)), (4, .int (0 : Int32))] [3, 4, 2, 1, 0] rfl ?_
      exact t_X11_spread_L34 hX hd0 hn hF FU x1 (0 : Int32) (999 : Int32) (0 : Int32)  m2 h
theorem c_X11_spread {G : GG} {l : Launch} {ρ : Nat → Nat} {n t u w v : Nat} {x : Option Nat} (hn : 126 ≤ n) {x1 : Int32} {m : Mm} {rE : Int32} {mE : Mm} (h : f_X11_spread x1 m = some (rE, mE)) : CT G l yX11_spread cX11_spread 5 (some .int) 3 0 0 ρ n (RT t u w v x) [.ref 78, .int x1] m (some (.int rE)) (RT t u w v x) mE := ct_of_J (by decide) rfl (Nat.le_of_ble_eq_true rfl) (fun X hX e1 e2 e3 e4 hQ hr hl => t_X11_spread hX (Nat.le_refl _) hn ⟨by rw [hQ, e3, e4], hr, hl⟩ h)
theorem t_X10_differs_J36 {X : XX} {G : GG} {ρ : Nat → Nat} {n : Nat} {x : Option Nat} {d : Nat} {t : Nat} {u : Nat} {w : Nat} {v : Nat} (hX : Ok X G ρ cX10_differs 4 RX10 d) (hd0 : 2 ≤ d) (hn : 126 ≤ n) (ht : isTo t) (hu : isTo u) (hw : isWk w) (hv : isWk v) {rE : Int32} {mE : Mm} (hF : Fin' X G ρ n (some .int) (some (.int rE)) (RT t u w v x) mE) (v1 : Int32) (v2 : Int32) (s0 : Int32) (m : Mm) (h : f_X10_differs_J36 t u w v v1 v2 s0 m = some (rE, mE)) : J X G ρ n 4 36 [(0, .ref 0), (1, .int v1), (2, .int v2)] [.int s0] (RT t u w v x) m := by
  unfold f_X10_differs_J36 at h
  refine J_istore_n hX [(3, .int s0), (0, .ref 0), (1, .int v1), (2, .int v2)] dX10_differs_36 rfl (by decide) rfl ?_
  refine J_iload_n hX dX10_differs_37 rfl 0 rfl ?_
  refine J_if_eq hX 63 dX10_differs_38 (by decide) h (fun c h => ?_) (fun c h => ?_)
  · refine J_iconst hX (-1 : Int32) dX10_differs_63 ic_m1 ?_
    exact J_ireturn hX dX10_differs_64 h hF rfl
  · refine J_aload_n hX dX10_differs_41 rfl 1 rfl ?_
    refine J_getR hX dX10_differs_42 fl_RX10_19 (ltn ltc_0 hn) lo_0 rfl (rt_0_1 _ _ _ _ _) ?_
    refine J_iload_n hX dX10_differs_45 rfl 2 rfl ?_
    obtain ⟨r2, m1, h0, h⟩ := bd2_some h
    refine J_callVi (As := [.int v1]) (st := []) hX dX10_differs_46 cw_RX10_248 (by omega) (c_X8_bitsOf hn ht h0) (ltn (lt_isTo_0 ht) hn) (lo_isTo_0 ht) (by decide) rfl rfl rfl (Nat.le_of_ble_eq_true rfl) ?_
    clear h0
    refine J_iload_n hX dX10_differs_49 rfl 3 rfl ?_
    refine J_aload_n hX dX10_differs_50 rfl 1 rfl ?_
    refine J_getR hX dX10_differs_51 fl_RX10_19 (ltn ltc_0 hn) lo_0 rfl (rt_0_1 _ _ _ _ _) ?_
    refine J_getI hX dX10_differs_54 fl_RX10_98 (ltn (lt_isTo_0 ht) hn) (lo_isTo_0 ht) rfl ?_
    obtain ⟨r4, m3, h0, h⟩ := bd2_some h
    refine J_callSi (As := [.int r2, .int v2, .int (gI m1 t 0)]) (st := []) hX dX10_differs_57 cw_RX10_251 (by omega) (c_X1_ofSet hn  h0) rfl rfl (Nat.le_of_ble_eq_true rfl) ?_
    clear h0
    refine J_goto hX 64 dX10_differs_60 (by decide) ?_
    exact J_ireturn hX dX10_differs_64 h hF rfl
theorem t_X10_differs_J35 {X : XX} {G : GG} {ρ : Nat → Nat} {n : Nat} {x : Option Nat} {d : Nat} {t : Nat} {u : Nat} {w : Nat} {v : Nat} (hX : Ok X G ρ cX10_differs 4 RX10 d) (hd0 : 2 ≤ d) (hn : 126 ≤ n) (ht : isTo t) (hu : isTo u) (hw : isWk w) (hv : isWk v) {rE : Int32} {mE : Mm} (hF : Fin' X G ρ n (some .int) (some (.int rE)) (RT t u w v x) mE) (v1 : Int32) (v2 : Int32) (m : Mm) (h : f_X10_differs_J35 t u w v v1 v2 m = some (rE, mE)) : J X G ρ n 4 35 [(0, .ref 0), (1, .int v1), (2, .int v2)] [] (RT t u w v x) m := by
  unfold f_X10_differs_J35 at h
  refine J_iconst hX (0 : Int32) dX10_differs_35 ic_0 ?_
  exact t_X10_differs_J36 hX hd0 hn ht hu hw hv hF v1 v2 (0 : Int32) m h
theorem t_X10_differs {X : XX} {G : GG} {ρ : Nat → Nat} {n : Nat} {x : Option Nat} {d : Nat} {t : Nat} {u : Nat} {w : Nat} {v : Nat} (hX : Ok X G ρ cX10_differs 4 RX10 d) (hd0 : 2 ≤ d) (hn : 126 ≤ n) (ht : isTo t) (hu : isTo u) (hw : isWk w) (hv : isWk v) {rE : Int32} {mE : Mm} (hF : Fin' X G ρ n (some .int) (some (.int rE)) (RT t u w v x) mE) {x1 : Int32} {x2 : Int32} {m : Mm} (h : f_X10_differs t u w v x1 x2 m = some (rE, mE)) : J X G ρ n 4 0 [(0, .ref 0), (1, .int x1), (2, .int x2)] [] (RT t u w v x) m := by
  unfold f_X10_differs at h
  refine J_iload_n hX dX10_differs_0 rfl 1 rfl ?_
  refine J_if_lt hX 35 dX10_differs_1 (by decide) h (fun c h => ?_) (fun c h => ?_)
  · exact t_X10_differs_J35 hX hd0 hn ht hu hw hv hF x1 x2  m h
  · refine J_iload_n hX dX10_differs_4 rfl 1 rfl ?_
    refine J_aload_n hX dX10_differs_5 rfl 0 rfl ?_
    refine J_getR hX dX10_differs_6 fl_RX10_19 (ltn ltc_0 hn) lo_0 rfl (rt_0_1 _ _ _ _ _) ?_
    refine J_getI hX dX10_differs_9 fl_RX10_245 (ltn (lt_isTo_0 ht) hn) (lo_isTo_0 ht) rfl ?_
    refine J_icmp_ge hX 35 dX10_differs_12 (by decide) h (fun c h => ?_) (fun c h => ?_)
    · refine J_iload_n hX dX10_differs_15 rfl 2 rfl ?_
      refine J_iconst hX (1 : Int32) dX10_differs_16 ic_1 ?_
      refine J_icmp_lt hX 35 dX10_differs_17 (by decide) h (fun c h => ?_) (fun c h => ?_)
      · exact t_X10_differs_J35 hX hd0 hn ht hu hw hv hF x1 x2  m h
      · refine J_iload_n hX dX10_differs_20 rfl 2 rfl ?_
        refine J_aload_n hX dX10_differs_21 rfl 0 rfl ?_
        refine J_getR hX dX10_differs_22 fl_RX10_19 (ltn ltc_0 hn) lo_0 rfl (rt_0_1 _ _ _ _ _) ?_
        refine J_getI hX dX10_differs_25 fl_RX10_98 (ltn (lt_isTo_0 ht) hn) (lo_isTo_0 ht) rfl ?_
        refine J_icmp_ge hX 35 dX10_differs_28 (by decide) h (fun c h => ?_) (fun c h => ?_)
        · refine J_iconst hX (1 : Int32) dX10_differs_31 ic_1 ?_
          refine J_goto hX 36 dX10_differs_32 (by decide) ?_
          exact t_X10_differs_J36 hX hd0 hn ht hu hw hv hF x1 x2 (1 : Int32) m h
        · exact t_X10_differs_J35 hX hd0 hn ht hu hw hv hF x1 x2  m h
    · exact t_X10_differs_J35 hX hd0 hn ht hu hw hv hF x1 x2  m h
theorem c_X10_differs {G : GG} {l : Launch} {ρ : Nat → Nat} {n : Nat} {x : Option Nat} (hn : 126 ≤ n) {t : Nat} {u : Nat} {w : Nat} {v : Nat} (ht : isTo t) (hu : isTo u) (hw : isWk w) (hv : isWk v) {x1 : Int32} {x2 : Int32} {m : Mm} {rE : Int32} {mE : Mm} (h : f_X10_differs t u w v x1 x2 m = some (rE, mE)) : CT G l yX10_differs cX10_differs 4 (some .int) 2 0 0 ρ n (RT t u w v x) [.ref 0, .int x1, .int x2] m (some (.int rE)) (RT t u w v x) mE := ct_of_J (by decide) rfl (Nat.le_of_ble_eq_true rfl) (fun X hX e1 e2 e3 e4 hQ hr hl => t_X10_differs hX (Nat.le_refl _) hn ht hu hw hv ⟨by rw [hQ, e3, e4], hr, hl⟩ h)
theorem t_X11_setOf_L4 {X : XX} {G : GG} {ρ : Nat → Nat} {n t u w v : Nat} {x : Option Nat} {d : Nat} (hX : Ok X G ρ cX11_setOf 4 RX11 d) (hd0 : 0 ≤ d) (hn : 126 ≤ n) {rE : Int32} {mE : Mm} (hF : Fin' X G ρ n (some .int) (some (.int rE)) (RT t u w v x) mE) : ∀ (k : Nat) (v1 : Int32) (v2 : Int32) (v3 : Int32) (m : Mm), f_X11_setOf_L4 k v1 v2 v3 m = some (rE, mE) → J X G ρ n 4 4 [(0, .ref 78), (1, .int v1), (2, .int v2), (3, .int v3)] [] (RT t u w v x) m := by
  intro k
  induction k with
  | zero => intro _ _ _ _ h; rw [f_X11_setOf_L4] at h; cases h
  | succ k ih =>
    intro v1 v2 v3 m h
    rw [f_X11_setOf_L4] at h
    refine J_iload_n hX dX11_setOf_4 rfl 3 rfl ?_
    refine J_aload_n hX dX11_setOf_5 rfl 0 rfl ?_
    refine J_getR hX dX11_setOf_6 fl_RX11_19 (ltn ltc_78 hn) lo_78 rfl (rt_78_12 _ _ _ _ _) ?_
    refine J_iload_n hX dX11_setOf_9 rfl 1 rfl ?_
    refine J_iaload hX dX11_setOf_10 (ltn ltc_82 hn) lay_82 h (fun h => ?_)
    refine J_icmp_ge hX 35 dX11_setOf_11 (by decide) h (fun c h => ?_) (fun c h => ?_)
    · refine J_iload_n hX dX11_setOf_14 rfl 2 rfl ?_
      refine J_iconst hX (1 : Int32) dX11_setOf_15 ic_1 ?_
      refine J_aload_n hX dX11_setOf_16 rfl 0 rfl ?_
      refine J_getR hX dX11_setOf_17 fl_RX11_22 (ltn ltc_78 hn) lo_78 rfl (rt_78_13 _ _ _ _ _) ?_
      refine J_iconst hX (5 : Int32) dX11_setOf_20 ic_5 ?_
      refine J_iload_n hX dX11_setOf_21 rfl 1 rfl ?_
      refine J_imul hX dX11_setOf_22 ?_
      refine J_iload_n hX dX11_setOf_23 rfl 3 rfl ?_
      refine J_iadd hX dX11_setOf_24 ?_
      refine J_iaload hX dX11_setOf_25 (ltn ltc_83 hn) lay_83 h (fun h => ?_)
      refine J_ishl hX dX11_setOf_26 ?_
      refine J_ior hX dX11_setOf_27 ?_
      refine J_istore_n hX [(2, .int (v2 ||| ((1 : Int32) <<< ((gI m 83 (ix (((5 : Int32) * v1) + v3))) &&& 31)))), (0, .ref 78), (1, .int v1), (3, .int v3)] dX11_setOf_28 rfl (by decide) rfl ?_
      refine J_iinc hX (v3 + (1 : Int32)) [(3, .int (v3 + (1 : Int32))), (2, .int (v2 ||| ((1 : Int32) <<< ((gI m 83 (ix (((5 : Int32) * v1) + v3))) &&& 31)))), (0, .ref 78), (1, .int v1)] dX11_setOf_29 3 rfl (congrArg (fun z => v3 + z) ic_1) (by decide) rfl ?_
      refine J_goto hX 4 dX11_setOf_32 (by decide) ?_
      refine J_sub [(0, .ref 78), (1, .int v1), (2, .int (v2 ||| ((1 : Int32) <<< ((gI m 83 (ix (((5 : Int32) * v1) + v3))) &&& 31)))), (3, .int (v3 + (1 : Int32)))] [2, 3, 1, 0] rfl ?_
      exact ih v1 (v2 ||| ((1 : Int32) <<< ((gI m 83 (ix (((5 : Int32) * v1) + v3))) &&& 31))) (v3 + (1 : Int32)) m h
    · refine J_iload_n hX dX11_setOf_35 rfl 2 rfl ?_
      exact J_ireturn hX dX11_setOf_36 h hF rfl
theorem t_X11_setOf {X : XX} {G : GG} {ρ : Nat → Nat} {n t u w v : Nat} {x : Option Nat} {d : Nat} (hX : Ok X G ρ cX11_setOf 4 RX11 d) (hd0 : 0 ≤ d) (hn : 126 ≤ n) {rE : Int32} {mE : Mm} (hF : Fin' X G ρ n (some .int) (some (.int rE)) (RT t u w v x) mE) {x1 : Int32} {m : Mm} (h : f_X11_setOf x1 m = some (rE, mE)) : J X G ρ n 4 0 [(0, .ref 78), (1, .int x1)] [] (RT t u w v x) m := by
  unfold f_X11_setOf at h
  refine J_iconst hX (0 : Int32) dX11_setOf_0 ic_0 ?_
  refine J_istore_n hX [(2, .int (0 : Int32)), (0, .ref 78), (1, .int x1)] dX11_setOf_1 rfl (by decide) rfl ?_
  refine J_iconst hX (0 : Int32) dX11_setOf_2 ic_0 ?_
  refine J_istore_n hX [(3, .int (0 : Int32)), (2, .int (0 : Int32)), (0, .ref 78), (1, .int x1)] dX11_setOf_3 rfl (by decide) rfl ?_
  refine J_sub [(0, .ref 78), (1, .int x1), (2, .int (0 : Int32)), (3, .int (0 : Int32))] [2, 3, 1, 0] rfl ?_
  exact t_X11_setOf_L4 hX hd0 hn hF FU x1 (0 : Int32) (0 : Int32)  m h
theorem c_X11_setOf {G : GG} {l : Launch} {ρ : Nat → Nat} {n t u w v : Nat} {x : Option Nat} (hn : 126 ≤ n) {x1 : Int32} {m : Mm} {rE : Int32} {mE : Mm} (h : f_X11_setOf x1 m = some (rE, mE)) : CT G l yX11_setOf cX11_setOf 4 (some .int) 0 0 0 ρ n (RT t u w v x) [.ref 78, .int x1] m (some (.int rE)) (RT t u w v x) mE := ct_of_J (by decide) rfl (Nat.le_of_ble_eq_true rfl) (fun X hX e1 e2 e3 e4 hQ hr hl => t_X11_setOf hX (Nat.le_refl _) hn ⟨by rw [hQ, e3, e4], hr, hl⟩ h)
theorem t_X11_differsBy_L5 {X : XX} {G : GG} {ρ : Nat → Nat} {n t u w v : Nat} {x : Option Nat} {d : Nat} (hX : Ok X G ρ cX11_differsBy 5 RX11 d) (hd0 : 1 ≤ d) (hn : 126 ≤ n) {rE : Int32} {mE : Mm} (hF : Fin' X G ρ n (some .int) (some (.int rE)) (RT t u w v x) mE) : ∀ (k : Nat) (v1 : Int32) (v2 : Int32) (v3 : Int32) (v4 : Int32) (m : Mm), f_X11_differsBy_L5 k v1 v2 v3 v4 m = some (rE, mE) → J X G ρ n 5 5 [(0, .ref 78), (1, .int v1), (2, .int v2), (3, .int v3), (4, .int v4)] [] (RT t u w v x) m := by
  intro k
  induction k with
  | zero => intro _ _ _ _ _ h; rw [f_X11_differsBy_L5] at h; cases h
  | succ k ih =>
    intro v1 v2 v3 v4 m h
    rw [f_X11_differsBy_L5] at h
    refine J_iload hX dX11_differsBy_5 4 rfl ?_
    refine J_aload_n hX dX11_differsBy_7 rfl 0 rfl ?_
    refine J_getR hX dX11_differsBy_8 fl_RX11_13 (ltn ltc_78 hn) lo_78 rfl (rt_78_10 _ _ _ _ _) ?_
    refine J_iconst hX (0 : Int32) dX11_differsBy_11 ic_0 ?_
    refine J_iaload0 hX dX11_differsBy_12 (ltn ltc_80 hn) lay_80 (by decide) ?_
    refine J_icmp_ge hX 57 dX11_differsBy_13 (by decide) h (fun c h => ?_) (fun c h => ?_)
    · refine J_iload_n hX dX11_differsBy_16 rfl 3 rfl ?_
      refine J_iload_n hX dX11_differsBy_17 rfl 1 rfl ?_
      refine J_iload hX dX11_differsBy_18 4 rfl ?_
      obtain ⟨r2, m1, h0, h⟩ := bd2_some h
      refine J_callSi (As := [.int v1, .int v4]) (st := [.int v3]) hX dX11_differsBy_20 cw_RX11_273 (by omega) (c_X11_isIn hn  h0) rfl rfl (Nat.le_of_ble_eq_true rfl) ?_
      clear h0
      refine J_if_eq hX 48 dX11_differsBy_23 (by decide) h (fun c h => ?_) (fun c h => ?_)
      · refine J_iconst hX (0 : Int32) dX11_differsBy_48 ic_0 ?_
        refine J_iadd hX dX11_differsBy_49 ?_
        refine J_istore_n hX [(3, .int (v3 + (0 : Int32))), (0, .ref 78), (1, .int v1), (2, .int v2), (4, .int v4)] dX11_differsBy_50 rfl (by decide) rfl ?_
        refine J_iinc hX (v4 + (1 : Int32)) [(4, .int (v4 + (1 : Int32))), (3, .int (v3 + (0 : Int32))), (0, .ref 78), (1, .int v1), (2, .int v2)] dX11_differsBy_51 4 rfl (congrArg (fun z => v4 + z) ic_1) (by decide) rfl ?_
        refine J_goto hX 5 dX11_differsBy_54 (by decide) ?_
        refine J_sub [(0, .ref 78), (1, .int v1), (2, .int v2), (3, .int (v3 + (0 : Int32))), (4, .int (v4 + (1 : Int32)))] [2, 3, 4, 1, 0] rfl ?_
        exact ih v1 v2 (v3 + (0 : Int32)) (v4 + (1 : Int32)) m1 h
      · refine J_iload_n hX dX11_differsBy_26 rfl 1 rfl ?_
        refine J_iload hX dX11_differsBy_27 4 rfl ?_
        refine J_iload_n hX dX11_differsBy_29 rfl 2 rfl ?_
        refine J_iadd hX dX11_differsBy_30 ?_
        refine J_aload_n hX dX11_differsBy_31 rfl 0 rfl ?_
        refine J_getR hX dX11_differsBy_32 fl_RX11_13 (ltn ltc_78 hn) lo_78 rfl (rt_78_10 _ _ _ _ _) ?_
        refine J_iconst hX (0 : Int32) dX11_differsBy_35 ic_0 ?_
        refine J_iaload0 hX dX11_differsBy_36 (ltn ltc_80 hn) lay_80 (by decide) ?_
        refine J_irem hX dX11_differsBy_37 h (fun h => ?_)
        obtain ⟨r4, m3, h0, h⟩ := bd2_some h
        refine J_callSi (As := [.int v1, .int ((v4 + v2) - (v4 + v2) / (gI m1 80 (ix (0 : Int32))) * (gI m1 80 (ix (0 : Int32))))]) (st := [.int v3]) hX dX11_differsBy_38 cw_RX11_273 (by omega) (c_X11_isIn hn  h0) rfl rfl (Nat.le_of_ble_eq_true rfl) ?_
        clear h0
        refine J_if_eq hX 48 dX11_differsBy_41 (by decide) h (fun c h => ?_) (fun c h => ?_)
        · refine J_iconst hX (0 : Int32) dX11_differsBy_48 ic_0 ?_
          refine J_iadd hX dX11_differsBy_49 ?_
          refine J_istore_n hX [(3, .int (v3 + (0 : Int32))), (0, .ref 78), (1, .int v1), (2, .int v2), (4, .int v4)] dX11_differsBy_50 rfl (by decide) rfl ?_
          refine J_iinc hX (v4 + (1 : Int32)) [(4, .int (v4 + (1 : Int32))), (3, .int (v3 + (0 : Int32))), (0, .ref 78), (1, .int v1), (2, .int v2)] dX11_differsBy_51 4 rfl (congrArg (fun z => v4 + z) ic_1) (by decide) rfl ?_
          refine J_goto hX 5 dX11_differsBy_54 (by decide) ?_
          refine J_sub [(0, .ref 78), (1, .int v1), (2, .int v2), (3, .int (v3 + (0 : Int32))), (4, .int (v4 + (1 : Int32)))] [2, 3, 4, 1, 0] rfl ?_
          exact ih v1 v2 (v3 + (0 : Int32)) (v4 + (1 : Int32)) m3 h
        · refine J_iconst hX (1 : Int32) dX11_differsBy_44 ic_1 ?_
          refine J_goto hX 49 dX11_differsBy_45 (by decide) ?_
          refine J_iadd hX dX11_differsBy_49 ?_
          refine J_istore_n hX [(3, .int (v3 + (1 : Int32))), (0, .ref 78), (1, .int v1), (2, .int v2), (4, .int v4)] dX11_differsBy_50 rfl (by decide) rfl ?_
          refine J_iinc hX (v4 + (1 : Int32)) [(4, .int (v4 + (1 : Int32))), (3, .int (v3 + (1 : Int32))), (0, .ref 78), (1, .int v1), (2, .int v2)] dX11_differsBy_51 4 rfl (congrArg (fun z => v4 + z) ic_1) (by decide) rfl ?_
          refine J_goto hX 5 dX11_differsBy_54 (by decide) ?_
          refine J_sub [(0, .ref 78), (1, .int v1), (2, .int v2), (3, .int (v3 + (1 : Int32))), (4, .int (v4 + (1 : Int32)))] [2, 3, 4, 1, 0] rfl ?_
          exact ih v1 v2 (v3 + (1 : Int32)) (v4 + (1 : Int32)) m3 h
    · refine J_iload_n hX dX11_differsBy_57 rfl 3 rfl ?_
      exact J_ireturn hX dX11_differsBy_58 h hF rfl
theorem t_X11_differsBy {X : XX} {G : GG} {ρ : Nat → Nat} {n t u w v : Nat} {x : Option Nat} {d : Nat} (hX : Ok X G ρ cX11_differsBy 5 RX11 d) (hd0 : 1 ≤ d) (hn : 126 ≤ n) {rE : Int32} {mE : Mm} (hF : Fin' X G ρ n (some .int) (some (.int rE)) (RT t u w v x) mE) {x1 : Int32} {x2 : Int32} {m : Mm} (h : f_X11_differsBy x1 x2 m = some (rE, mE)) : J X G ρ n 5 0 [(0, .ref 78), (1, .int x1), (2, .int x2)] [] (RT t u w v x) m := by
  unfold f_X11_differsBy at h
  refine J_iconst hX (0 : Int32) dX11_differsBy_0 ic_0 ?_
  refine J_istore_n hX [(3, .int (0 : Int32)), (0, .ref 78), (1, .int x1), (2, .int x2)] dX11_differsBy_1 rfl (by decide) rfl ?_
  refine J_iconst hX (0 : Int32) dX11_differsBy_2 ic_0 ?_
  refine J_istore hX [(4, .int (0 : Int32)), (3, .int (0 : Int32)), (0, .ref 78), (1, .int x1), (2, .int x2)] dX11_differsBy_3 (by decide) rfl ?_
  refine J_sub [(0, .ref 78), (1, .int x1), (2, .int x2), (3, .int (0 : Int32)), (4, .int (0 : Int32))] [2, 3, 4, 1, 0] rfl ?_
  exact t_X11_differsBy_L5 hX hd0 hn hF FU x1 x2 (0 : Int32) (0 : Int32)  m h
theorem c_X11_differsBy {G : GG} {l : Launch} {ρ : Nat → Nat} {n t u w v : Nat} {x : Option Nat} (hn : 126 ≤ n) {x1 : Int32} {x2 : Int32} {m : Mm} {rE : Int32} {mE : Mm} (h : f_X11_differsBy x1 x2 m = some (rE, mE)) : CT G l yX11_differsBy cX11_differsBy 5 (some .int) 1 0 0 ρ n (RT t u w v x) [.ref 78, .int x1, .int x2] m (some (.int rE)) (RT t u w v x) mE := ct_of_J (by decide) rfl (Nat.le_of_ble_eq_true rfl) (fun X hX e1 e2 e3 e4 hQ hr hl => t_X11_differsBy hX (Nat.le_refl _) hn ⟨by rw [hQ, e3, e4], hr, hl⟩ h)
theorem t_X11_differs {X : XX} {G : GG} {ρ : Nat → Nat} {n t u w v : Nat} {x : Option Nat} {d : Nat} (hX : Ok X G ρ cX11_differs 3 RX11 d) (hd0 : 2 ≤ d) (hn : 126 ≤ n) {rE : Int32} {mE : Mm} (hF : Fin' X G ρ n (some .int) (some (.int rE)) (RT t u w v x) mE) {x1 : Int32} {x2 : Int32} {m : Mm} (h : f_X11_differs x1 x2 m = some (rE, mE)) : J X G ρ n 3 0 [(0, .ref 78), (1, .int x1), (2, .int x2)] [] (RT t u w v x) m := by
  unfold f_X11_differs at h
  refine J_aload_n hX dX11_differs_0 rfl 0 rfl ?_
  refine J_iconst hX (0 : Int32) dX11_differs_1 ic_0 ?_
  refine J_putI hX dX11_differs_2 pl_RX11_152 (ltn ltc_78 hn) lo_78 rfl rfl rfl h (fun m1 h => ?_)
  refine J_iload_n hX dX11_differs_5 rfl 1 rfl ?_
  refine J_iconst hX (0 : Int32) dX11_differs_6 ic_0 ?_
  refine J_aload_n hX dX11_differs_7 rfl 0 rfl ?_
  refine J_getR hX dX11_differs_8 fl_RX11_13 (ltn ltc_78 hn) lo_78 rfl (rt_78_10 _ _ _ _ _) ?_
  refine J_iconst hX (1 : Int32) dX11_differs_11 ic_1 ?_
  refine J_iaload0 hX dX11_differs_12 (ltn ltc_80 hn) lay_80 (by decide) ?_
  refine J_iconst hX (1 : Int32) dX11_differs_13 ic_1 ?_
  refine J_isub hX dX11_differs_14 ?_
  obtain ⟨r3, m2, h0, h⟩ := bd2_some h
  refine J_callSi (As := [.int x1, .int (0 : Int32), .int ((gI m1 80 (ix (1 : Int32))) - (1 : Int32))]) (st := []) hX dX11_differs_15 cw_RX11_239 (by omega) (c_X11_within hn  h0) rfl rfl (Nat.le_of_ble_eq_true rfl) ?_
  clear h0
  refine J_if_eq hX 50 dX11_differs_18 (by decide) h (fun c h => ?_) (fun c h => ?_)
  · refine J_iconst hX (-1 : Int32) dX11_differs_50 ic_m1 ?_
    exact J_ireturn hX dX11_differs_51 h hF rfl
  · refine J_iload_n hX dX11_differs_21 rfl 2 rfl ?_
    refine J_iconst hX (1 : Int32) dX11_differs_22 ic_1 ?_
    refine J_aload_n hX dX11_differs_23 rfl 0 rfl ?_
    refine J_getR hX dX11_differs_24 fl_RX11_13 (ltn ltc_78 hn) lo_78 rfl (rt_78_10 _ _ _ _ _) ?_
    refine J_iconst hX (0 : Int32) dX11_differs_27 ic_0 ?_
    refine J_iaload0 hX dX11_differs_28 (ltn ltc_80 hn) lay_80 (by decide) ?_
    refine J_iconst hX (1 : Int32) dX11_differs_29 ic_1 ?_
    refine J_isub hX dX11_differs_30 ?_
    obtain ⟨r5, m4, h0, h⟩ := bd2_some h
    refine J_callSi (As := [.int x2, .int (1 : Int32), .int ((gI m2 80 (ix (0 : Int32))) - (1 : Int32))]) (st := []) hX dX11_differs_31 cw_RX11_239 (by omega) (c_X11_within hn  h0) rfl rfl (Nat.le_of_ble_eq_true rfl) ?_
    clear h0
    refine J_if_eq hX 50 dX11_differs_34 (by decide) h (fun c h => ?_) (fun c h => ?_)
    · refine J_iconst hX (-1 : Int32) dX11_differs_50 ic_m1 ?_
      exact J_ireturn hX dX11_differs_51 h hF rfl
    · refine J_aload_n hX dX11_differs_37 rfl 0 rfl ?_
      refine J_aload_n hX dX11_differs_38 rfl 0 rfl ?_
      refine J_iload_n hX dX11_differs_39 rfl 1 rfl ?_
      obtain ⟨r7, m6, h0, h⟩ := bd2_some h
      refine J_callVi (As := [.int x1]) (st := [.ref 78]) hX dX11_differs_40 cw_RX11_442 (by omega) (c_X11_setOf hn  h0) (ltn ltc_78 hn) lo_78 (by decide) rfl rfl rfl (Nat.le_of_ble_eq_true rfl) ?_
      clear h0
      refine J_iload_n hX dX11_differs_43 rfl 2 rfl ?_
      obtain ⟨r9, m8, h0, h⟩ := bd2_some h
      refine J_callVi (As := [.int r7, .int x2]) (st := []) hX dX11_differs_44 cw_RX11_445 (by omega) (c_X11_differsBy hn  h0) (ltn ltc_78 hn) lo_78 (by decide) rfl rfl rfl (Nat.le_of_ble_eq_true rfl) ?_
      clear h0
      refine J_goto hX 51 dX11_differs_47 (by decide) ?_
      exact J_ireturn hX dX11_differs_51 h hF rfl
theorem c_X11_differs {G : GG} {l : Launch} {ρ : Nat → Nat} {n t u w v : Nat} {x : Option Nat} (hn : 126 ≤ n) {x1 : Int32} {x2 : Int32} {m : Mm} {rE : Int32} {mE : Mm} (h : f_X11_differs x1 x2 m = some (rE, mE)) : CT G l yX11_differs cX11_differs 3 (some .int) 2 0 0 ρ n (RT t u w v x) [.ref 78, .int x1, .int x2] m (some (.int rE)) (RT t u w v x) mE := ct_of_J (by decide) rfl (Nat.le_of_ble_eq_true rfl) (fun X hX e1 e2 e3 e4 hQ hr hl => t_X11_differs hX (Nat.le_refl _) hn ⟨by rw [hQ, e3, e4], hr, hl⟩ h)
theorem t_X10_family {X : XX} {G : GG} {ρ : Nat → Nat} {n : Nat} {x : Option Nat} {d : Nat} {t : Nat} {u : Nat} {w : Nat} {v : Nat} (hX : Ok X G ρ cX10_family 1 RX10 d) (hd0 : 4 ≤ d) (hn : 126 ≤ n) (ht : isTo t) (hu : isTo u) (hw : isWk w) (hv : isWk v) {rE : Int32} {mE : Mm} (hF : Fin' X G ρ n (some .int) (some (.int rE)) (RT t u w v x) mE) {m : Mm} (h : f_X10_family t u w v m = some (rE, mE)) : J X G ρ n 1 0 [(0, .ref 0)] [] (RT t u w v x) m := by
  unfold f_X10_family at h
  refine J_aload_n hX dX10_family_0 rfl 0 rfl ?_
  refine J_getR hX dX10_family_1 fl_RX10_19 (ltn ltc_0 hn) lo_0 rfl (rt_0_1 _ _ _ _ _) ?_
  obtain ⟨r2, m1, h0, h⟩ := bd2_some h
  refine J_callSi (As := [.ref t]) (st := []) hX dX10_family_4 cw_RX10_257 (by omega) (c_X1_ofFamily hn ht h0) rfl rfl (Nat.le_of_ble_eq_true rfl) ?_
  clear h0
  exact J_ireturn hX dX10_family_7 h hF rfl
theorem c_X10_family {G : GG} {l : Launch} {ρ : Nat → Nat} {n : Nat} {x : Option Nat} (hn : 126 ≤ n) {t : Nat} {u : Nat} {w : Nat} {v : Nat} (ht : isTo t) (hu : isTo u) (hw : isWk w) (hv : isWk v) {m : Mm} {rE : Int32} {mE : Mm} (h : f_X10_family t u w v m = some (rE, mE)) : CT G l yX10_family cX10_family 1 (some .int) 4 0 0 ρ n (RT t u w v x) [.ref 0] m (some (.int rE)) (RT t u w v x) mE := ct_of_J (by decide) rfl (Nat.le_of_ble_eq_true rfl) (fun X hX e1 e2 e3 e4 hQ hr hl => t_X10_family hX (Nat.le_refl _) hn ht hu hw hv ⟨by rw [hQ, e3, e4], hr, hl⟩ h)
theorem t_X11_familyBy_L4 {X : XX} {G : GG} {ρ : Nat → Nat} {n t u w v : Nat} {x : Option Nat} {d : Nat} (hX : Ok X G ρ cX11_familyBy 4 RX11 d) (hd0 : 2 ≤ d) (hn : 126 ≤ n) {rE : Int32} {mE : Mm} (hF : Fin' X G ρ n (some .int) (some (.int rE)) (RT t u w v x) mE) : ∀ (k : Nat) (v1 : Int32) (v2 : Int32) (v3 : Int32) (m : Mm), f_X11_familyBy_L4 k v1 v2 v3 m = some (rE, mE) → J X G ρ n 4 4 [(0, .ref 78), (1, .int v1), (2, .int v2), (3, .int v3)] [] (RT t u w v x) m := by
  intro k
  induction k with
  | zero => intro _ _ _ _ h; rw [f_X11_familyBy_L4] at h; cases h
  | succ k ih =>
    intro v1 v2 v3 m h
    rw [f_X11_familyBy_L4] at h
    refine J_iload_n hX dX11_familyBy_4 rfl 3 rfl ?_
    refine J_aload_n hX dX11_familyBy_5 rfl 0 rfl ?_
    refine J_getR hX dX11_familyBy_6 fl_RX11_13 (ltn ltc_78 hn) lo_78 rfl (rt_78_10 _ _ _ _ _) ?_
    refine J_iconst hX (1 : Int32) dX11_familyBy_9 ic_1 ?_
    refine J_iaload0 hX dX11_familyBy_10 (ltn ltc_80 hn) lay_80 (by decide) ?_
    refine J_icmp_ge hX 47 dX11_familyBy_11 (by decide) h (fun c h => ?_) (fun c h => ?_)
    · refine J_iload_n hX dX11_familyBy_14 rfl 2 rfl ?_
      refine J_aload_n hX dX11_familyBy_15 rfl 0 rfl ?_
      refine J_getR hX dX11_familyBy_16 fl_RX11_16 (ltn ltc_78 hn) lo_78 rfl (rt_78_11 _ _ _ _ _) ?_
      refine J_iload_n hX dX11_familyBy_19 rfl 3 rfl ?_
      refine J_iaload hX dX11_familyBy_20 (ltn ltc_81 hn) lay_81 h (fun h => ?_)
      refine J_iconst hX (1 : Int32) dX11_familyBy_21 ic_1 ?_
      refine J_icmp_ne hX 38 dX11_familyBy_22 (by decide) h (fun c h => ?_) (fun c h => ?_)
      · refine J_aload_n hX dX11_familyBy_25 rfl 0 rfl ?_
        refine J_aload_n hX dX11_familyBy_26 rfl 0 rfl ?_
        refine J_iload_n hX dX11_familyBy_27 rfl 3 rfl ?_
        obtain ⟨r2, m1, h0, h⟩ := bd2_some h
        refine J_callVi (As := [.int v3]) (st := [.ref 78, .int v2]) hX dX11_familyBy_28 cw_RX11_442 (by omega) (c_X11_setOf hn  h0) (ltn ltc_78 hn) lo_78 (by decide) rfl rfl rfl (Nat.le_of_ble_eq_true rfl) ?_
        clear h0
        refine J_iload_n hX dX11_familyBy_31 rfl 1 rfl ?_
        obtain ⟨r4, m3, h0, h⟩ := bd2_some h
        refine J_callVi (As := [.int r2, .int v1]) (st := [.int v2]) hX dX11_familyBy_32 cw_RX11_445 (by omega) (c_X11_differsBy hn  h0) (ltn ltc_78 hn) lo_78 (by decide) rfl rfl rfl (Nat.le_of_ble_eq_true rfl) ?_
        clear h0
        refine J_goto hX 39 dX11_familyBy_35 (by decide) ?_
        refine J_iadd hX dX11_familyBy_39 ?_
        refine J_istore_n hX [(2, .int (v2 + r4)), (0, .ref 78), (1, .int v1), (3, .int v3)] dX11_familyBy_40 rfl (by decide) rfl ?_
        refine J_iinc hX (v3 + (1 : Int32)) [(3, .int (v3 + (1 : Int32))), (2, .int (v2 + r4)), (0, .ref 78), (1, .int v1)] dX11_familyBy_41 3 rfl (congrArg (fun z => v3 + z) ic_1) (by decide) rfl ?_
        refine J_goto hX 4 dX11_familyBy_44 (by decide) ?_
        refine J_sub [(0, .ref 78), (1, .int v1), (2, .int (v2 + r4)), (3, .int (v3 + (1 : Int32)))] [2, 3, 1, 0] rfl ?_
        exact ih v1 (v2 + r4) (v3 + (1 : Int32)) m3 h
      · refine J_iconst hX (0 : Int32) dX11_familyBy_38 ic_0 ?_
        refine J_iadd hX dX11_familyBy_39 ?_
        refine J_istore_n hX [(2, .int (v2 + (0 : Int32))), (0, .ref 78), (1, .int v1), (3, .int v3)] dX11_familyBy_40 rfl (by decide) rfl ?_
        refine J_iinc hX (v3 + (1 : Int32)) [(3, .int (v3 + (1 : Int32))), (2, .int (v2 + (0 : Int32))), (0, .ref 78), (1, .int v1)] dX11_familyBy_41 3 rfl (congrArg (fun z => v3 + z) ic_1) (by decide) rfl ?_
        refine J_goto hX 4 dX11_familyBy_44 (by decide) ?_
        refine J_sub [(0, .ref 78), (1, .int v1), (2, .int (v2 + (0 : Int32))), (3, .int (v3 + (1 : Int32)))] [2, 3, 1, 0] rfl ?_
        exact ih v1 (v2 + (0 : Int32)) (v3 + (1 : Int32)) m h
    · refine J_iload_n hX dX11_familyBy_47 rfl 2 rfl ?_
      exact J_ireturn hX dX11_familyBy_48 h hF rfl
theorem t_X11_familyBy {X : XX} {G : GG} {ρ : Nat → Nat} {n t u w v : Nat} {x : Option Nat} {d : Nat} (hX : Ok X G ρ cX11_familyBy 4 RX11 d) (hd0 : 2 ≤ d) (hn : 126 ≤ n) {rE : Int32} {mE : Mm} (hF : Fin' X G ρ n (some .int) (some (.int rE)) (RT t u w v x) mE) {x1 : Int32} {m : Mm} (h : f_X11_familyBy x1 m = some (rE, mE)) : J X G ρ n 4 0 [(0, .ref 78), (1, .int x1)] [] (RT t u w v x) m := by
  unfold f_X11_familyBy at h
  refine J_iconst hX (0 : Int32) dX11_familyBy_0 ic_0 ?_
  refine J_istore_n hX [(2, .int (0 : Int32)), (0, .ref 78), (1, .int x1)] dX11_familyBy_1 rfl (by decide) rfl ?_
  refine J_iconst hX (0 : Int32) dX11_familyBy_2 ic_0 ?_
  refine J_istore_n hX [(3, .int (0 : Int32)), (2, .int (0 : Int32)), (0, .ref 78), (1, .int x1)] dX11_familyBy_3 rfl (by decide) rfl ?_
  refine J_sub [(0, .ref 78), (1, .int x1), (2, .int (0 : Int32)), (3, .int (0 : Int32))] [2, 3, 1, 0] rfl ?_
  exact t_X11_familyBy_L4 hX hd0 hn hF FU x1 (0 : Int32) (0 : Int32)  m h
theorem c_X11_familyBy {G : GG} {l : Launch} {ρ : Nat → Nat} {n t u w v : Nat} {x : Option Nat} (hn : 126 ≤ n) {x1 : Int32} {m : Mm} {rE : Int32} {mE : Mm} (h : f_X11_familyBy x1 m = some (rE, mE)) : CT G l yX11_familyBy cX11_familyBy 4 (some .int) 2 0 0 ρ n (RT t u w v x) [.ref 78, .int x1] m (some (.int rE)) (RT t u w v x) mE := ct_of_J (by decide) rfl (Nat.le_of_ble_eq_true rfl) (fun X hX e1 e2 e3 e4 hQ hr hl => t_X11_familyBy hX (Nat.le_refl _) hn ⟨by rw [hQ, e3, e4], hr, hl⟩ h)
theorem t_X11_family_L51 {X : XX} {G : GG} {ρ : Nat → Nat} {n t u w v : Nat} {x : Option Nat} {d : Nat} (hX : Ok X G ρ cX11_family 3 RX11 d) (hd0 : 3 ≤ d) (hn : 126 ≤ n) {rE : Int32} {mE : Mm} (hF : Fin' X G ρ n (some .int) (some (.int rE)) (RT t u w v x) mE) : ∀ (k : Nat) (v2 : Int32) (m : Mm), f_X11_family_L51 k v2 m = some (rE, mE) → J X G ρ n 3 51 [(0, .ref 78), (2, .int v2)] [] (RT t u w v x) m := by
  intro k
  induction k with
  | zero => intro _ _ h; rw [f_X11_family_L51] at h; cases h
  | succ k ih =>
    intro v2 m h
    rw [f_X11_family_L51] at h
    refine J_iload_n hX dX11_family_51 rfl 1 rfl ?_
    refine J_aload_n hX dX11_family_52 rfl 0 rfl ?_
    refine J_getR hX dX11_family_53 fl_RX11_13 (ltn ltc_78 hn) lo_78 rfl (rt_78_10 _ _ _ _ _) ?_
    refine J_iconst hX (0 : Int32) dX11_family_56 ic_0 ?_
    refine J_iaload0 hX dX11_family_57 (ltn ltc_80 hn) lay_80 (by decide) ?_
    refine J_icmp_ge hX 82 dX11_family_58 (by decide) h (fun c h => ?_) (fun c h => ?_)
    · refine J_aload_n hX dX11_family_61 rfl 0 rfl ?_
      refine J_iload_n hX dX11_family_62 rfl 1 rfl ?_
      obtain ⟨r5, m4, h0, h⟩ := bd2_some h
      refine J_callVi (As := [.int v2]) (st := []) hX dX11_family_63 cw_RX11_448 (by omega) (c_X11_familyBy hn  h0) (ltn ltc_78 hn) lo_78 (by decide) rfl rfl rfl (Nat.le_of_ble_eq_true rfl) ?_
      clear h0
      refine J_aload_n hX dX11_family_66 rfl 0 rfl ?_
      refine J_iconst hX (1 : Int32) dX11_family_67 ic_1 ?_
      obtain ⟨r7, m6, h0, h⟩ := bd2_some h
      refine J_callVi (As := [.int (1 : Int32)]) (st := [.int r5]) hX dX11_family_68 cw_RX11_448 (by omega) (c_X11_familyBy hn  h0) (ltn ltc_78 hn) lo_78 (by decide) rfl rfl rfl (Nat.le_of_ble_eq_true rfl) ?_
      clear h0
      refine J_icmp_eq hX 76 dX11_family_71 (by decide) h (fun c h => ?_) (fun c h => ?_)
      · refine J_iinc hX (v2 + (1 : Int32)) [(2, .int (v2 + (1 : Int32))), (0, .ref 78)] dX11_family_76 1 rfl (congrArg (fun z => v2 + z) ic_1) (by decide) rfl ?_
        refine J_goto hX 51 dX11_family_79 (by decide) ?_
        refine J_sub [(0, .ref 78), (2, .int (v2 + (1 : Int32)))] [1, 0] rfl ?_
        exact ih (v2 + (1 : Int32)) m6 h
      · refine J_iconst hX (-1 : Int32) dX11_family_74 ic_m1 ?_
        exact J_ireturn hX dX11_family_75 h hF rfl
    · refine J_aload_n hX dX11_family_82 rfl 0 rfl ?_
      refine J_iconst hX (1 : Int32) dX11_family_83 ic_1 ?_
      obtain ⟨r3, m2, h0, h⟩ := bd2_some h
      refine J_callVi (As := [.int (1 : Int32)]) (st := []) hX dX11_family_84 cw_RX11_448 (by omega) (c_X11_familyBy hn  h0) (ltn ltc_78 hn) lo_78 (by decide) rfl rfl rfl (Nat.le_of_ble_eq_true rfl) ?_
      clear h0
      exact J_ireturn hX dX11_family_87 h hF rfl
theorem t_X11_family_L9 {X : XX} {G : GG} {ρ : Nat → Nat} {n t u w v : Nat} {x : Option Nat} {d : Nat} (hX : Ok X G ρ cX11_family 3 RX11 d) (hd0 : 3 ≤ d) (hn : 126 ≤ n) {rE : Int32} {mE : Mm} (hF : Fin' X G ρ n (some .int) (some (.int rE)) (RT t u w v x) mE) : ∀ (k : Nat) (v1 : Int32) (v2 : Int32) (m : Mm), f_X11_family_L9 k v1 v2 m = some (rE, mE) → J X G ρ n 3 9 [(0, .ref 78), (1, .int v1), (2, .int v2)] [] (RT t u w v x) m := by
  intro k
  induction k with
  | zero => intro _ _ _ h; rw [f_X11_family_L9] at h; cases h
  | succ k ih =>
    intro v1 v2 m h
    rw [f_X11_family_L9] at h
    refine J_iload_n hX dX11_family_9 rfl 2 rfl ?_
    refine J_aload_n hX dX11_family_10 rfl 0 rfl ?_
    refine J_getR hX dX11_family_11 fl_RX11_13 (ltn ltc_78 hn) lo_78 rfl (rt_78_10 _ _ _ _ _) ?_
    refine J_iconst hX (1 : Int32) dX11_family_14 ic_1 ?_
    refine J_iaload0 hX dX11_family_15 (ltn ltc_80 hn) lay_80 (by decide) ?_
    refine J_icmp_ge hX 43 dX11_family_16 (by decide) h (fun c h => ?_) (fun c h => ?_)
    · refine J_iload_n hX dX11_family_19 rfl 1 rfl ?_
      refine J_aload_n hX dX11_family_20 rfl 0 rfl ?_
      refine J_getR hX dX11_family_21 fl_RX11_16 (ltn ltc_78 hn) lo_78 rfl (rt_78_11 _ _ _ _ _) ?_
      refine J_iload_n hX dX11_family_24 rfl 2 rfl ?_
      refine J_iaload hX dX11_family_25 (ltn ltc_81 hn) lay_81 h (fun h => ?_)
      refine J_iconst hX (1 : Int32) dX11_family_26 ic_1 ?_
      refine J_icmp_ne hX 34 dX11_family_27 (by decide) h (fun c h => ?_) (fun c h => ?_)
      · refine J_iconst hX (1 : Int32) dX11_family_30 ic_1 ?_
        refine J_goto hX 35 dX11_family_31 (by decide) ?_
        refine J_ior hX dX11_family_35 ?_
        refine J_istore_n hX [(1, .int (v1 ||| (1 : Int32))), (0, .ref 78), (2, .int v2)] dX11_family_36 rfl (by decide) rfl ?_
        refine J_iinc hX (v2 + (1 : Int32)) [(2, .int (v2 + (1 : Int32))), (1, .int (v1 ||| (1 : Int32))), (0, .ref 78)] dX11_family_37 2 rfl (congrArg (fun z => v2 + z) ic_1) (by decide) rfl ?_
        refine J_goto hX 9 dX11_family_40 (by decide) ?_
        refine J_sub [(0, .ref 78), (1, .int (v1 ||| (1 : Int32))), (2, .int (v2 + (1 : Int32)))] [2, 1, 0] rfl ?_
        exact ih (v1 ||| (1 : Int32)) (v2 + (1 : Int32)) m h
      · refine J_iconst hX (0 : Int32) dX11_family_34 ic_0 ?_
        refine J_ior hX dX11_family_35 ?_
        refine J_istore_n hX [(1, .int (v1 ||| (0 : Int32))), (0, .ref 78), (2, .int v2)] dX11_family_36 rfl (by decide) rfl ?_
        refine J_iinc hX (v2 + (1 : Int32)) [(2, .int (v2 + (1 : Int32))), (1, .int (v1 ||| (0 : Int32))), (0, .ref 78)] dX11_family_37 2 rfl (congrArg (fun z => v2 + z) ic_1) (by decide) rfl ?_
        refine J_goto hX 9 dX11_family_40 (by decide) ?_
        refine J_sub [(0, .ref 78), (1, .int (v1 ||| (0 : Int32))), (2, .int (v2 + (1 : Int32)))] [2, 1, 0] rfl ?_
        exact ih (v1 ||| (0 : Int32)) (v2 + (1 : Int32)) m h
    · refine J_iload_n hX dX11_family_43 rfl 1 rfl ?_
      refine J_if_ne hX 49 dX11_family_44 (by decide) h (fun c h => ?_) (fun c h => ?_)
      · refine J_iconst hX (-1 : Int32) dX11_family_47 ic_m1 ?_
        exact J_ireturn hX dX11_family_48 h hF rfl
      · refine J_iconst hX (2 : Int32) dX11_family_49 ic_2 ?_
        refine J_istore_n hX [(2, .int (2 : Int32)), (0, .ref 78), (1, .int v1)] dX11_family_50 rfl (by decide) rfl ?_
        refine J_sub [(0, .ref 78), (2, .int (2 : Int32))] [1, 0] rfl ?_
        exact t_X11_family_L51 hX hd0 hn hF FU (2 : Int32)  m h
theorem t_X11_family {X : XX} {G : GG} {ρ : Nat → Nat} {n t u w v : Nat} {x : Option Nat} {d : Nat} (hX : Ok X G ρ cX11_family 3 RX11 d) (hd0 : 3 ≤ d) (hn : 126 ≤ n) {rE : Int32} {mE : Mm} (hF : Fin' X G ρ n (some .int) (some (.int rE)) (RT t u w v x) mE) {m : Mm} (h : f_X11_family m = some (rE, mE)) : J X G ρ n 3 0 [(0, .ref 78)] [] (RT t u w v x) m := by
  unfold f_X11_family at h
  refine J_aload_n hX dX11_family_0 rfl 0 rfl ?_
  refine J_iconst hX (0 : Int32) dX11_family_1 ic_0 ?_
  refine J_putI hX dX11_family_2 pl_RX11_152 (ltn ltc_78 hn) lo_78 rfl rfl rfl h (fun m1 h => ?_)
  refine J_iconst hX (0 : Int32) dX11_family_5 ic_0 ?_
  refine J_istore_n hX [(1, .int (0 : Int32)), (0, .ref 78)] dX11_family_6 rfl (by decide) rfl ?_
  refine J_iconst hX (0 : Int32) dX11_family_7 ic_0 ?_
  refine J_istore_n hX [(2, .int (0 : Int32)), (1, .int (0 : Int32)), (0, .ref 78)] dX11_family_8 rfl (by decide) rfl ?_
  refine J_sub [(0, .ref 78), (1, .int (0 : Int32)), (2, .int (0 : Int32))] [2, 1, 0] rfl ?_
  exact t_X11_family_L9 hX hd0 hn hF FU (0 : Int32) (0 : Int32)  m1 h
theorem c_X11_family {G : GG} {l : Launch} {ρ : Nat → Nat} {n t u w v : Nat} {x : Option Nat} (hn : 126 ≤ n) {m : Mm} {rE : Int32} {mE : Mm} (h : f_X11_family m = some (rE, mE)) : CT G l yX11_family cX11_family 3 (some .int) 3 0 0 ρ n (RT t u w v x) [.ref 78] m (some (.int rE)) (RT t u w v x) mE := ct_of_J (by decide) rfl (Nat.le_of_ble_eq_true rfl) (fun X hX e1 e2 e3 e4 hQ hr hl => t_X11_family hX (Nat.le_refl _) hn ⟨by rw [hQ, e3, e4], hr, hl⟩ h)
theorem t_X1_areAlike_L9 {X : XX} {G : GG} {ρ : Nat → Nat} {n t u w v : Nat} {x : Option Nat} {d : Nat} (hX : Ok X G ρ cX1_areAlike 4 RX1 d) (hd0 : 2 ≤ d) (hn : 126 ≤ n) {rE : Int32} {mE : Mm} (hF : Fin' X G ρ n (some .boolean) (some (.int rE)) (RT t u w v x) mE) : ∀ (k : Nat) (v0 : Int32) (v1 : Int32) (v2 : Int32) (v3 : Int32) (m : Mm), f_X1_areAlike_L9 k v0 v1 v2 v3 m = some (rE, mE) → J X G ρ n 4 9 [(0, .int v0), (1, .int v1), (2, .int v2), (3, .int v3)] [] (RT t u w v x) m := by
  intro k
  induction k with
  | zero => intro _ _ _ _ _ h; rw [f_X1_areAlike_L9] at h; cases h
  | succ k ih =>
    intro v0 v1 v2 v3 m h
    rw [f_X1_areAlike_L9] at h
    refine J_iload_n hX dX1_areAlike_9 rfl 3 rfl ?_
    refine J_iload_n hX dX1_areAlike_10 rfl 1 rfl ?_
    refine J_icmp_ge hX 32 dX1_areAlike_11 (by decide) h (fun c h => ?_) (fun c h => ?_)
    · refine J_iload_n hX dX1_areAlike_14 rfl 0 rfl ?_
      refine J_iload_n hX dX1_areAlike_15 rfl 3 rfl ?_
      refine J_iload_n hX dX1_areAlike_16 rfl 1 rfl ?_
      obtain ⟨r4, m3, h0, h⟩ := bd2_some h
      refine J_callSi (As := [.int v0, .int v3, .int v1]) (st := []) hX dX1_areAlike_17 cw_RX1_43 (by omega) (c_X1_ofSet hn  h0) rfl rfl (Nat.le_of_ble_eq_true rfl) ?_
      clear h0
      refine J_iload_n hX dX1_areAlike_20 rfl 2 rfl ?_
      refine J_icmp_eq hX 26 dX1_areAlike_21 (by decide) h (fun c h => ?_) (fun c h => ?_)
      · refine J_iinc hX (v3 + (1 : Int32)) [(3, .int (v3 + (1 : Int32))), (0, .int v0), (1, .int v1), (2, .int v2)] dX1_areAlike_26 3 rfl (congrArg (fun z => v3 + z) ic_1) (by decide) rfl ?_
        refine J_goto hX 9 dX1_areAlike_29 (by decide) ?_
        refine J_sub [(0, .int v0), (1, .int v1), (2, .int v2), (3, .int (v3 + (1 : Int32)))] [1, 2, 3, 0] rfl ?_
        exact ih v0 v1 v2 (v3 + (1 : Int32)) m3 h
      · refine J_iconst hX (0 : Int32) dX1_areAlike_24 ic_0 ?_
        exact J_ireturn hX dX1_areAlike_25 h hF narrow_b0
    · refine J_iconst hX (1 : Int32) dX1_areAlike_32 ic_1 ?_
      exact J_ireturn hX dX1_areAlike_33 h hF narrow_b1
theorem t_X1_areAlike {X : XX} {G : GG} {ρ : Nat → Nat} {n t u w v : Nat} {x : Option Nat} {d : Nat} (hX : Ok X G ρ cX1_areAlike 4 RX1 d) (hd0 : 2 ≤ d) (hn : 126 ≤ n) {rE : Int32} {mE : Mm} (hF : Fin' X G ρ n (some .boolean) (some (.int rE)) (RT t u w v x) mE) {x0 : Int32} {x1 : Int32} {m : Mm} (h : f_X1_areAlike x0 x1 m = some (rE, mE)) : J X G ρ n 4 0 [(0, .int x0), (1, .int x1)] [] (RT t u w v x) m := by
  unfold f_X1_areAlike at h
  refine J_iload_n hX dX1_areAlike_0 rfl 0 rfl ?_
  refine J_iconst hX (1 : Int32) dX1_areAlike_1 ic_1 ?_
  refine J_iload_n hX dX1_areAlike_2 rfl 1 rfl ?_
  obtain ⟨r2, m1, h0, h⟩ := bd2_some h
  refine J_callSi (As := [.int x0, .int (1 : Int32), .int x1]) (st := []) hX dX1_areAlike_3 cw_RX1_43 (by omega) (c_X1_ofSet hn  h0) rfl rfl (Nat.le_of_ble_eq_true rfl) ?_
  clear h0
  refine J_istore_n hX [(2, .int r2), (0, .int x0), (1, .int x1)] dX1_areAlike_6 rfl (by decide) rfl ?_
  refine J_iconst hX (2 : Int32) dX1_areAlike_7 ic_2 ?_
  refine J_istore_n hX [(3, .int (2 : Int32)), (2, .int r2), (0, .int x0), (1, .int x1)] dX1_areAlike_8 rfl (by decide) rfl ?_
  refine J_sub [(0, .int x0), (1, .int x1), (2, .int r2), (3, .int (2 : Int32))] [2, 3, 1, 0] rfl ?_
  exact t_X1_areAlike_L9 hX hd0 hn hF FU x0 x1 r2 (2 : Int32)  m1 h
theorem c_X1_areAlike {G : GG} {l : Launch} {ρ : Nat → Nat} {n t u w v : Nat} {x : Option Nat} (hn : 126 ≤ n) {x0 : Int32} {x1 : Int32} {m : Mm} {rE : Int32} {mE : Mm} (h : f_X1_areAlike x0 x1 m = some (rE, mE)) : CT G l yX1_areAlike cX1_areAlike 4 (some .boolean) 2 0 0 ρ n (RT t u w v x) [.int x0, .int x1] m (some (.int rE)) (RT t u w v x) mE := ct_of_J (by decide) rfl (Nat.le_of_ble_eq_true rfl) (fun X hX e1 e2 e3 e4 hQ hr hl => t_X1_areAlike hX (Nat.le_refl _) hn ⟨by rw [hQ, e3, e4], hr, hl⟩ h)
theorem t_X1_firstAlikeFrom_L21 {X : XX} {G : GG} {ρ : Nat → Nat} {n t u w v : Nat} {x : Option Nat} {d : Nat} {F_X1_firstAlikeFrom : Int32 → Int32 → Int32 → Int32 → Mm → Option (Int32 × Mm)} (hX : Ok X G ρ cX1_firstAlikeFrom 6 RX1 d) (hd0 : 3 ≤ d) (hn : 126 ≤ n) {dF : Nat} (hdF : dF + 1 ≤ d) (hF_X1_firstAlikeFrom : ∀ {y0 : Int32} {y1 : Int32} {y2 : Int32} {y3 : Int32} {m : Mm} {r : Int32} {mE : Mm}, F_X1_firstAlikeFrom y0 y1 y2 y3 m = some (r, mE) → CT G X.1.2.1 yX1_firstAlikeFrom cX1_firstAlikeFrom 6 (some .int) dF 0 0 ρ n (RT t u w v x) [.int y0, .int y1, .int y2, .int y3] m (some (.int r)) (RT t u w v x) mE) {rE : Int32} {mE : Mm} (hF : Fin' X G ρ n (some .int) (some (.int rE)) (RT t u w v x) mE) : ∀ (k : Nat) (v0 : Int32) (v2 : Int32) (v3 : Int32) (v4 : Int32) (m : Mm), f_X1_firstAlikeFrom_L21 F_X1_firstAlikeFrom k v0 v2 v3 v4 m = some (rE, mE) → J X G ρ n 6 21 [(0, .int v0), (2, .int v2), (3, .int v3), (4, .int v4)] [] (RT t u w v x) m := by
  intro k
  induction k with
  | zero => intro _ _ _ _ _ h; rw [f_X1_firstAlikeFrom_L21] at h; cases h
  | succ k ih =>
    intro v0 v2 v3 v4 m h
    rw [f_X1_firstAlikeFrom_L21] at h
    refine J_iload hX dX1_firstAlikeFrom_21 3 rfl ?_
    refine J_iload_n hX dX1_firstAlikeFrom_23 rfl 1 rfl ?_
    refine J_iadd hX dX1_firstAlikeFrom_24 ?_
    refine J_iload_n hX dX1_firstAlikeFrom_25 rfl 2 rfl ?_
    refine J_icmp_gt hX 63 dX1_firstAlikeFrom_26 (by decide) h (fun c h => ?_) (fun c h => ?_)
    · refine J_iconst hX (-1 : Int32) dX1_firstAlikeFrom_63 ic_m1 ?_
      exact J_ireturn hX dX1_firstAlikeFrom_64 h hF rfl
    · refine J_iload_n hX dX1_firstAlikeFrom_29 rfl 0 rfl ?_
      refine J_iconst hX (1 : Int32) dX1_firstAlikeFrom_30 ic_1 ?_
      refine J_iload hX dX1_firstAlikeFrom_31 3 rfl ?_
      refine J_ishl hX dX1_firstAlikeFrom_33 ?_
      refine J_ior hX dX1_firstAlikeFrom_34 ?_
      refine J_iload hX dX1_firstAlikeFrom_35 3 rfl ?_
      refine J_iconst hX (1 : Int32) dX1_firstAlikeFrom_37 ic_1 ?_
      refine J_iadd hX dX1_firstAlikeFrom_38 ?_
      refine J_iload_n hX dX1_firstAlikeFrom_39 rfl 1 rfl ?_
      refine J_iconst hX (1 : Int32) dX1_firstAlikeFrom_40 ic_1 ?_
      refine J_isub hX dX1_firstAlikeFrom_41 ?_
      refine J_iload_n hX dX1_firstAlikeFrom_42 rfl 2 rfl ?_
      obtain ⟨r2, m1, h0, h⟩ := bd2_some h
      refine J_callSi (As := [.int (v0 ||| ((1 : Int32) <<< (v4 &&& 31))), .int (v4 + (1 : Int32)), .int (v2 - (1 : Int32)), .int v3]) (st := []) hX dX1_firstAlikeFrom_43 cw_RX1_47 (by omega) (hF_X1_firstAlikeFrom h0) rfl rfl (Nat.le_of_ble_eq_true rfl) ?_
      clear h0
      refine J_istore hX [(5, .int r2), (0, .int v0), (2, .int v2), (3, .int v3), (4, .int v4)] dX1_firstAlikeFrom_46 (by decide) rfl ?_
      refine J_iload hX dX1_firstAlikeFrom_48 0 rfl ?_
      refine J_iconst hX (-1 : Int32) dX1_firstAlikeFrom_50 ic_m1 ?_
      refine J_icmp_eq hX 57 dX1_firstAlikeFrom_51 (by decide) h (fun c h => ?_) (fun c h => ?_)
      · refine J_iinc hX (v4 + (1 : Int32)) [(4, .int (v4 + (1 : Int32))), (5, .int r2), (0, .int v0), (2, .int v2), (3, .int v3)] dX1_firstAlikeFrom_57 4 rfl (congrArg (fun z => v4 + z) ic_1) (by decide) rfl ?_
        refine J_goto hX 21 dX1_firstAlikeFrom_60 (by decide) ?_
        refine J_sub [(0, .int v0), (2, .int v2), (3, .int v3), (4, .int (v4 + (1 : Int32)))] [2, 3, 4, 0] rfl ?_
        exact ih v0 v2 v3 (v4 + (1 : Int32)) m1 h
      · refine J_iload hX dX1_firstAlikeFrom_54 0 rfl ?_
        exact J_ireturn hX dX1_firstAlikeFrom_56 h hF rfl
theorem t_X1_firstAlikeFrom {X : XX} {G : GG} {ρ : Nat → Nat} {n t u w v : Nat} {x : Option Nat} {d : Nat} {F_X1_firstAlikeFrom : Int32 → Int32 → Int32 → Int32 → Mm → Option (Int32 × Mm)} (hX : Ok X G ρ cX1_firstAlikeFrom 6 RX1 d) (hd0 : 3 ≤ d) (hn : 126 ≤ n) {dF : Nat} (hdF : dF + 1 ≤ d) (hF_X1_firstAlikeFrom : ∀ {y0 : Int32} {y1 : Int32} {y2 : Int32} {y3 : Int32} {m : Mm} {r : Int32} {mE : Mm}, F_X1_firstAlikeFrom y0 y1 y2 y3 m = some (r, mE) → CT G X.1.2.1 yX1_firstAlikeFrom cX1_firstAlikeFrom 6 (some .int) dF 0 0 ρ n (RT t u w v x) [.int y0, .int y1, .int y2, .int y3] m (some (.int r)) (RT t u w v x) mE) {rE : Int32} {mE : Mm} (hF : Fin' X G ρ n (some .int) (some (.int rE)) (RT t u w v x) mE) {x0 : Int32} {x1 : Int32} {x2 : Int32} {x3 : Int32} {m : Mm} (h : f_X1_firstAlikeFrom F_X1_firstAlikeFrom x0 x1 x2 x3 m = some (rE, mE)) : J X G ρ n 6 0 [(0, .int x0), (1, .int x1), (2, .int x2), (3, .int x3)] [] (RT t u w v x) m := by
  unfold f_X1_firstAlikeFrom at h
  refine J_iload_n hX dX1_firstAlikeFrom_0 rfl 2 rfl ?_
  refine J_if_gt hX 18 dX1_firstAlikeFrom_1 (by decide) h (fun c h => ?_) (fun c h => ?_)
  · refine J_iload_n hX dX1_firstAlikeFrom_18 rfl 1 rfl ?_
    refine J_istore hX [(4, .int x1), (0, .int x0), (1, .int x1), (2, .int x2), (3, .int x3)] dX1_firstAlikeFrom_19 (by decide) rfl ?_
    refine J_sub [(0, .int x0), (2, .int x2), (3, .int x3), (4, .int x1)] [1, 3, 4, 0] rfl ?_
    exact t_X1_firstAlikeFrom_L21 hX hd0 hn hdF hF_X1_firstAlikeFrom hF FU x0 x2 x3 x1  m h
  · refine J_iload_n hX dX1_firstAlikeFrom_4 rfl 0 rfl ?_
    refine J_iload_n hX dX1_firstAlikeFrom_5 rfl 3 rfl ?_
    obtain ⟨r4, m3, h0, h⟩ := bd2_some h
    refine J_callSi (As := [.int x0, .int x3]) (st := []) hX dX1_firstAlikeFrom_6 cw_RX1_51 (by omega) (c_X1_areAlike hn  h0) rfl rfl (Nat.le_of_ble_eq_true rfl) ?_
    clear h0
    refine J_if_eq hX 16 dX1_firstAlikeFrom_9 (by decide) h (fun c h => ?_) (fun c h => ?_)
    · refine J_iconst hX (-1 : Int32) dX1_firstAlikeFrom_16 ic_m1 ?_
      exact J_ireturn hX dX1_firstAlikeFrom_17 h hF rfl
    · refine J_iload_n hX dX1_firstAlikeFrom_12 rfl 0 rfl ?_
      refine J_goto hX 17 dX1_firstAlikeFrom_13 (by decide) ?_
      exact J_ireturn hX dX1_firstAlikeFrom_17 h hF rfl
theorem cfr_X1_firstAlikeFrom {G : GG} {l : Launch} {ρ : Nat → Nat} {n t u w v : Nat} {x : Option Nat} (hn : 126 ≤ n) : ∀ k : Nat, (∀ {y0 : Int32} {y1 : Int32} {y2 : Int32} {y3 : Int32} {m : Mm} {r : Int32} {mE : Mm}, (fr_X1_firstAlikeFrom k) y0 y1 y2 y3 m = some (r, mE) → CT G l yX1_firstAlikeFrom cX1_firstAlikeFrom 6 (some .int) (3 + k) 0 0 ρ n (RT t u w v x) [.int y0, .int y1, .int y2, .int y3] m (some (.int r)) (RT t u w v x) mE) := by
  intro k
  induction k with
  | zero => exact fun h => by cases h
  | succ k ih => exact fun h => ct_of_J (by decide) rfl (Nat.le_of_ble_eq_true rfl) (fun X hX e1 e2 e3 e4 hQ hr hl => t_X1_firstAlikeFrom hX (by omega) hn (by show 3 + k + 1 ≤ 3 + (k + 1); omega) (fun h => by rw [e2]; exact ih h) ⟨by rw [hQ, e3, e4], hr, hl⟩ h)
theorem c_X1_firstAlikeFrom_r {G : GG} {l : Launch} {ρ : Nat → Nat} {n t u w v : Nat} {x : Option Nat} (hn : 126 ≤ n) : ∀ {y0 : Int32} {y1 : Int32} {y2 : Int32} {y3 : Int32} {m : Mm} {r : Int32} {mE : Mm}, (f_X1_firstAlikeFrom_r) y0 y1 y2 y3 m = some (r, mE) → CT G l yX1_firstAlikeFrom cX1_firstAlikeFrom 6 (some .int) 11 0 0 ρ n (RT t u w v x) [.int y0, .int y1, .int y2, .int y3] m (some (.int r)) (RT t u w v x) mE := fun h => cfr_X1_firstAlikeFrom hn 8 h
theorem t_X1_firstAlike {X : XX} {G : GG} {ρ : Nat → Nat} {n t u w v : Nat} {x : Option Nat} {d : Nat} (hX : Ok X G ρ cX1_firstAlike 2 RX1 d) (hd0 : 12 ≤ d) (hn : 126 ≤ n) {rE : Int32} {mE : Mm} (hF : Fin' X G ρ n (some .int) (some (.int rE)) (RT t u w v x) mE) {x0 : Int32} {x1 : Int32} {m : Mm} (h : f_X1_firstAlike x0 x1 m = some (rE, mE)) : J X G ρ n 2 0 [(0, .int x0), (1, .int x1)] [] (RT t u w v x) m := by
  unfold f_X1_firstAlike at h
  refine J_iload_n hX dX1_firstAlike_0 rfl 1 rfl ?_
  refine J_iconst hX (2 : Int32) dX1_firstAlike_1 ic_2 ?_
  refine J_icmp_lt hX 10 dX1_firstAlike_2 (by decide) h (fun c h => ?_) (fun c h => ?_)
  · refine J_iconst hX (-1 : Int32) dX1_firstAlike_10 ic_m1 ?_
    refine J_goto hX 23 dX1_firstAlike_11 (by decide) ?_
    exact J_ireturn hX dX1_firstAlike_23 h hF rfl
  · refine J_iload_n hX dX1_firstAlike_5 rfl 0 rfl ?_
    refine J_iload_n hX dX1_firstAlike_6 rfl 1 rfl ?_
    refine J_icmp_le hX 14 dX1_firstAlike_7 (by decide) h (fun c h => ?_) (fun c h => ?_)
    · refine J_iconst hX (-1 : Int32) dX1_firstAlike_10 ic_m1 ?_
      refine J_goto hX 23 dX1_firstAlike_11 (by decide) ?_
      exact J_ireturn hX dX1_firstAlike_23 h hF rfl
    · refine J_iconst hX (1 : Int32) dX1_firstAlike_14 ic_1 ?_
      refine J_iconst hX (1 : Int32) dX1_firstAlike_15 ic_1 ?_
      refine J_iload_n hX dX1_firstAlike_16 rfl 0 rfl ?_
      refine J_iconst hX (1 : Int32) dX1_firstAlike_17 ic_1 ?_
      refine J_isub hX dX1_firstAlike_18 ?_
      refine J_iload_n hX dX1_firstAlike_19 rfl 1 rfl ?_
      obtain ⟨r2, m1, h0, h⟩ := bd2_some h
      refine J_callSi (As := [.int (1 : Int32), .int (1 : Int32), .int (x0 - (1 : Int32)), .int x1]) (st := []) hX dX1_firstAlike_20 cw_RX1_47 (by omega) (c_X1_firstAlikeFrom_r hn  h0) rfl rfl (Nat.le_of_ble_eq_true rfl) ?_
      clear h0
      exact J_ireturn hX dX1_firstAlike_23 h hF rfl
theorem c_X1_firstAlike {G : GG} {l : Launch} {ρ : Nat → Nat} {n t u w v : Nat} {x : Option Nat} (hn : 126 ≤ n) {x0 : Int32} {x1 : Int32} {m : Mm} {rE : Int32} {mE : Mm} (h : f_X1_firstAlike x0 x1 m = some (rE, mE)) : CT G l yX1_firstAlike cX1_firstAlike 2 (some .int) 12 0 0 ρ n (RT t u w v x) [.int x0, .int x1] m (some (.int rE)) (RT t u w v x) mE := ct_of_J (by decide) rfl (Nat.le_of_ble_eq_true rfl) (fun X hX e1 e2 e3 e4 hQ hr hl => t_X1_firstAlike hX (Nat.le_refl _) hn ⟨by rw [hQ, e3, e4], hr, hl⟩ h)
theorem t_X10_seek {X : XX} {G : GG} {ρ : Nat → Nat} {n : Nat} {x : Option Nat} {d : Nat} {t : Nat} {u : Nat} {w : Nat} {v : Nat} (hX : Ok X G ρ cX10_seek 2 RX10 d) (hd0 : 13 ≤ d) (hn : 126 ≤ n) (ht : isTo t) (hu : isTo u) (hw : isWk w) (hv : isWk v) {rE : Int32} {mE : Mm} (hF : Fin' X G ρ n (some .int) (some (.int rE)) (RT t u w v x) mE) {x1 : Int32} {m : Mm} (h : f_X10_seek t u w v x1 m = some (rE, mE)) : J X G ρ n 2 0 [(0, .ref 0), (1, .int x1)] [] (RT t u w v x) m := by
  unfold f_X10_seek at h
  refine J_iload_n hX dX10_seek_0 rfl 1 rfl ?_
  refine J_iconst hX (2 : Int32) dX10_seek_1 ic_2 ?_
  refine J_icmp_lt hX 24 dX10_seek_2 (by decide) h (fun c h => ?_) (fun c h => ?_)
  · refine J_iconst hX (-1 : Int32) dX10_seek_24 ic_m1 ?_
    exact J_ireturn hX dX10_seek_25 h hF rfl
  · refine J_iload_n hX dX10_seek_5 rfl 1 rfl ?_
    refine J_iconst hX (5 : Int32) dX10_seek_6 ic_5 ?_
    refine J_icmp_gt hX 24 dX10_seek_7 (by decide) h (fun c h => ?_) (fun c h => ?_)
    · refine J_iconst hX (-1 : Int32) dX10_seek_24 ic_m1 ?_
      exact J_ireturn hX dX10_seek_25 h hF rfl
    · refine J_iload_n hX dX10_seek_10 rfl 1 rfl ?_
      refine J_aload_n hX dX10_seek_11 rfl 0 rfl ?_
      refine J_getR hX dX10_seek_12 fl_RX10_19 (ltn ltc_0 hn) lo_0 rfl (rt_0_1 _ _ _ _ _) ?_
      refine J_getI hX dX10_seek_15 fl_RX10_98 (ltn (lt_isTo_0 ht) hn) (lo_isTo_0 ht) rfl ?_
      obtain ⟨r2, m1, h0, h⟩ := bd2_some h
      refine J_callSi (As := [.int x1, .int (gI m t 0)]) (st := []) hX dX10_seek_18 cw_RX10_260 (by omega) (c_X1_firstAlike hn  h0) rfl rfl (Nat.le_of_ble_eq_true rfl) ?_
      clear h0
      refine J_goto hX 25 dX10_seek_21 (by decide) ?_
      exact J_ireturn hX dX10_seek_25 h hF rfl
theorem c_X10_seek {G : GG} {l : Launch} {ρ : Nat → Nat} {n : Nat} {x : Option Nat} (hn : 126 ≤ n) {t : Nat} {u : Nat} {w : Nat} {v : Nat} (ht : isTo t) (hu : isTo u) (hw : isWk w) (hv : isWk v) {x1 : Int32} {m : Mm} {rE : Int32} {mE : Mm} (h : f_X10_seek t u w v x1 m = some (rE, mE)) : CT G l yX10_seek cX10_seek 2 (some .int) 13 0 0 ρ n (RT t u w v x) [.ref 0, .int x1] m (some (.int rE)) (RT t u w v x) mE := ct_of_J (by decide) rfl (Nat.le_of_ble_eq_true rfl) (fun X hX e1 e2 e3 e4 hQ hr hl => t_X10_seek hX (Nat.le_refl _) hn ht hu hw hv ⟨by rw [hQ, e3, e4], hr, hl⟩ h)
theorem t_X11_isAlike_L2 {X : XX} {G : GG} {ρ : Nat → Nat} {n t u w v : Nat} {x : Option Nat} {d : Nat} (hX : Ok X G ρ cX11_isAlike 3 RX11 d) (hd0 : 2 ≤ d) (hn : 126 ≤ n) {rE : Int32} {mE : Mm} (hF : Fin' X G ρ n (some .boolean) (some (.int rE)) (RT t u w v x) mE) : ∀ (k : Nat) (v1 : Int32) (v2 : Int32) (m : Mm), f_X11_isAlike_L2 k v1 v2 m = some (rE, mE) → J X G ρ n 3 2 [(0, .ref 78), (1, .int v1), (2, .int v2)] [] (RT t u w v x) m := by
  intro k
  induction k with
  | zero => intro _ _ _ h; rw [f_X11_isAlike_L2] at h; cases h
  | succ k ih =>
    intro v1 v2 m h
    rw [f_X11_isAlike_L2] at h
    refine J_iload_n hX dX11_isAlike_2 rfl 2 rfl ?_
    refine J_aload_n hX dX11_isAlike_3 rfl 0 rfl ?_
    refine J_getR hX dX11_isAlike_4 fl_RX11_13 (ltn ltc_78 hn) lo_78 rfl (rt_78_10 _ _ _ _ _) ?_
    refine J_iconst hX (0 : Int32) dX11_isAlike_7 ic_0 ?_
    refine J_iaload0 hX dX11_isAlike_8 (ltn ltc_80 hn) lay_80 (by decide) ?_
    refine J_icmp_ge hX 35 dX11_isAlike_9 (by decide) h (fun c h => ?_) (fun c h => ?_)
    · refine J_aload_n hX dX11_isAlike_12 rfl 0 rfl ?_
      refine J_iload_n hX dX11_isAlike_13 rfl 1 rfl ?_
      refine J_iload_n hX dX11_isAlike_14 rfl 2 rfl ?_
      obtain ⟨r2, m1, h0, h⟩ := bd2_some h
      refine J_callVi (As := [.int v1, .int v2]) (st := []) hX dX11_isAlike_15 cw_RX11_445 (by omega) (c_X11_differsBy hn  h0) (ltn ltc_78 hn) lo_78 (by decide) rfl rfl rfl (Nat.le_of_ble_eq_true rfl) ?_
      clear h0
      refine J_aload_n hX dX11_isAlike_18 rfl 0 rfl ?_
      refine J_iload_n hX dX11_isAlike_19 rfl 1 rfl ?_
      refine J_iconst hX (1 : Int32) dX11_isAlike_20 ic_1 ?_
      obtain ⟨r4, m3, h0, h⟩ := bd2_some h
      refine J_callVi (As := [.int v1, .int (1 : Int32)]) (st := [.int r2]) hX dX11_isAlike_21 cw_RX11_445 (by omega) (c_X11_differsBy hn  h0) (ltn ltc_78 hn) lo_78 (by decide) rfl rfl rfl (Nat.le_of_ble_eq_true rfl) ?_
      clear h0
      refine J_icmp_eq hX 29 dX11_isAlike_24 (by decide) h (fun c h => ?_) (fun c h => ?_)
      · refine J_iinc hX (v2 + (1 : Int32)) [(2, .int (v2 + (1 : Int32))), (0, .ref 78), (1, .int v1)] dX11_isAlike_29 2 rfl (congrArg (fun z => v2 + z) ic_1) (by decide) rfl ?_
        refine J_goto hX 2 dX11_isAlike_32 (by decide) ?_
        refine J_sub [(0, .ref 78), (1, .int v1), (2, .int (v2 + (1 : Int32)))] [1, 2, 0] rfl ?_
        exact ih v1 (v2 + (1 : Int32)) m3 h
      · refine J_iconst hX (0 : Int32) dX11_isAlike_27 ic_0 ?_
        exact J_ireturn hX dX11_isAlike_28 h hF narrow_b0
    · refine J_iconst hX (1 : Int32) dX11_isAlike_35 ic_1 ?_
      exact J_ireturn hX dX11_isAlike_36 h hF narrow_b1
theorem t_X11_isAlike {X : XX} {G : GG} {ρ : Nat → Nat} {n t u w v : Nat} {x : Option Nat} {d : Nat} (hX : Ok X G ρ cX11_isAlike 3 RX11 d) (hd0 : 2 ≤ d) (hn : 126 ≤ n) {rE : Int32} {mE : Mm} (hF : Fin' X G ρ n (some .boolean) (some (.int rE)) (RT t u w v x) mE) {x1 : Int32} {m : Mm} (h : f_X11_isAlike x1 m = some (rE, mE)) : J X G ρ n 3 0 [(0, .ref 78), (1, .int x1)] [] (RT t u w v x) m := by
  unfold f_X11_isAlike at h
  refine J_iconst hX (2 : Int32) dX11_isAlike_0 ic_2 ?_
  refine J_istore_n hX [(2, .int (2 : Int32)), (0, .ref 78), (1, .int x1)] dX11_isAlike_1 rfl (by decide) rfl ?_
  refine J_sub [(0, .ref 78), (1, .int x1), (2, .int (2 : Int32))] [1, 2, 0] rfl ?_
  exact t_X11_isAlike_L2 hX hd0 hn hF FU x1 (2 : Int32)  m h
theorem c_X11_isAlike {G : GG} {l : Launch} {ρ : Nat → Nat} {n t u w v : Nat} {x : Option Nat} (hn : 126 ≤ n) {x1 : Int32} {m : Mm} {rE : Int32} {mE : Mm} (h : f_X11_isAlike x1 m = some (rE, mE)) : CT G l yX11_isAlike cX11_isAlike 3 (some .boolean) 2 0 0 ρ n (RT t u w v x) [.ref 78, .int x1] m (some (.int rE)) (RT t u w v x) mE := ct_of_J (by decide) rfl (Nat.le_of_ble_eq_true rfl) (fun X hX e1 e2 e3 e4 hQ hr hl => t_X11_isAlike hX (Nat.le_refl _) hn ⟨by rw [hQ, e3, e4], hr, hl⟩ h)
theorem t_X11_seeks_L21 {X : XX} {G : GG} {ρ : Nat → Nat} {n t u w v : Nat} {x : Option Nat} {d : Nat} {F_X11_seeks : Int32 → Int32 → Int32 → Mm → Option (Int32 × Mm)} (hX : Ok X G ρ cX11_seeks 6 RX11 d) (hd0 : 3 ≤ d) (hn : 126 ≤ n) {dF : Nat} (hdF : dF + 1 ≤ d) (hF_X11_seeks : ∀ {y0 : Int32} {y1 : Int32} {y2 : Int32} {m : Mm} {r : Int32} {mE : Mm}, F_X11_seeks y0 y1 y2 m = some (r, mE) → CT G X.1.2.1 yX11_seeks cX11_seeks 6 (some .int) dF 0 0 ρ n (RT t u w v x) [.ref 78, .int y0, .int y1, .int y2] m (some (.int r)) (RT t u w v x) mE) {rE : Int32} {mE : Mm} (hF : Fin' X G ρ n (some .int) (some (.int rE)) (RT t u w v x) mE) : ∀ (k : Nat) (v1 : Int32) (v3 : Int32) (v4 : Int32) (m : Mm), f_X11_seeks_L21 F_X11_seeks k v1 v3 v4 m = some (rE, mE) → J X G ρ n 6 21 [(0, .ref 78), (1, .int v1), (3, .int v3), (4, .int v4)] [] (RT t u w v x) m := by
  intro k
  induction k with
  | zero => intro _ _ _ _ h; rw [f_X11_seeks_L21] at h; cases h
  | succ k ih =>
    intro v1 v3 v4 m h
    rw [f_X11_seeks_L21] at h
    refine J_iload hX dX11_seeks_21 3 rfl ?_
    refine J_aload_n hX dX11_seeks_23 rfl 0 rfl ?_
    refine J_getR hX dX11_seeks_24 fl_RX11_13 (ltn ltc_78 hn) lo_78 rfl (rt_78_10 _ _ _ _ _) ?_
    refine J_iconst hX (0 : Int32) dX11_seeks_27 ic_0 ?_
    refine J_iaload0 hX dX11_seeks_28 (ltn ltc_80 hn) lay_80 (by decide) ?_
    refine J_icmp_ge hX 65 dX11_seeks_29 (by decide) h (fun c h => ?_) (fun c h => ?_)
    · refine J_aload_n hX dX11_seeks_32 rfl 0 rfl ?_
      refine J_iload_n hX dX11_seeks_33 rfl 1 rfl ?_
      refine J_iconst hX (1 : Int32) dX11_seeks_34 ic_1 ?_
      refine J_iload hX dX11_seeks_35 3 rfl ?_
      refine J_ishl hX dX11_seeks_37 ?_
      refine J_ior hX dX11_seeks_38 ?_
      refine J_iload hX dX11_seeks_39 3 rfl ?_
      refine J_iconst hX (1 : Int32) dX11_seeks_41 ic_1 ?_
      refine J_iadd hX dX11_seeks_42 ?_
      refine J_iload_n hX dX11_seeks_43 rfl 2 rfl ?_
      refine J_iconst hX (1 : Int32) dX11_seeks_44 ic_1 ?_
      refine J_isub hX dX11_seeks_45 ?_
      obtain ⟨r2, m1, h0, h⟩ := bd2_some h
      refine J_callVi (As := [.int (v1 ||| ((1 : Int32) <<< (v4 &&& 31))), .int (v4 + (1 : Int32)), .int (v3 - (1 : Int32))]) (st := []) hX dX11_seeks_46 cw_RX11_454 (by omega) (hF_X11_seeks h0) (ltn ltc_78 hn) lo_78 (by decide) rfl rfl rfl (Nat.le_of_ble_eq_true rfl) ?_
      clear h0
      refine J_istore hX [(5, .int r2), (0, .ref 78), (1, .int v1), (3, .int v3), (4, .int v4)] dX11_seeks_49 (by decide) rfl ?_
      refine J_iload hX dX11_seeks_51 0 rfl ?_
      refine J_if_eq hX 59 dX11_seeks_53 (by decide) h (fun c h => ?_) (fun c h => ?_)
      · refine J_iinc hX (v4 + (1 : Int32)) [(4, .int (v4 + (1 : Int32))), (5, .int r2), (0, .ref 78), (1, .int v1), (3, .int v3)] dX11_seeks_59 4 rfl (congrArg (fun z => v4 + z) ic_1) (by decide) rfl ?_
        refine J_goto hX 21 dX11_seeks_62 (by decide) ?_
        refine J_sub [(0, .ref 78), (1, .int v1), (3, .int v3), (4, .int (v4 + (1 : Int32)))] [2, 3, 4, 0] rfl ?_
        exact ih v1 v3 (v4 + (1 : Int32)) m1 h
      · refine J_iload hX dX11_seeks_56 0 rfl ?_
        exact J_ireturn hX dX11_seeks_58 h hF rfl
    · refine J_iconst hX (0 : Int32) dX11_seeks_65 ic_0 ?_
      exact J_ireturn hX dX11_seeks_66 h hF rfl
theorem t_X11_seeks {X : XX} {G : GG} {ρ : Nat → Nat} {n t u w v : Nat} {x : Option Nat} {d : Nat} {F_X11_seeks : Int32 → Int32 → Int32 → Mm → Option (Int32 × Mm)} (hX : Ok X G ρ cX11_seeks 6 RX11 d) (hd0 : 3 ≤ d) (hn : 126 ≤ n) {dF : Nat} (hdF : dF + 1 ≤ d) (hF_X11_seeks : ∀ {y0 : Int32} {y1 : Int32} {y2 : Int32} {m : Mm} {r : Int32} {mE : Mm}, F_X11_seeks y0 y1 y2 m = some (r, mE) → CT G X.1.2.1 yX11_seeks cX11_seeks 6 (some .int) dF 0 0 ρ n (RT t u w v x) [.ref 78, .int y0, .int y1, .int y2] m (some (.int r)) (RT t u w v x) mE) {rE : Int32} {mE : Mm} (hF : Fin' X G ρ n (some .int) (some (.int rE)) (RT t u w v x) mE) {x1 : Int32} {x2 : Int32} {x3 : Int32} {m : Mm} (h : f_X11_seeks F_X11_seeks x1 x2 x3 m = some (rE, mE)) : J X G ρ n 6 0 [(0, .ref 78), (1, .int x1), (2, .int x2), (3, .int x3)] [] (RT t u w v x) m := by
  unfold f_X11_seeks at h
  refine J_iload_n hX dX11_seeks_0 rfl 3 rfl ?_
  refine J_if_ne hX 18 dX11_seeks_1 (by decide) h (fun c h => ?_) (fun c h => ?_)
  · refine J_aload_n hX dX11_seeks_4 rfl 0 rfl ?_
    refine J_iload_n hX dX11_seeks_5 rfl 1 rfl ?_
    obtain ⟨r4, m3, h0, h⟩ := bd2_some h
    refine J_callVi (As := [.int x1]) (st := []) hX dX11_seeks_6 cw_RX11_451 (by omega) (c_X11_isAlike hn  h0) (ltn ltc_78 hn) lo_78 (by decide) rfl rfl rfl (Nat.le_of_ble_eq_true rfl) ?_
    clear h0
    refine J_if_eq hX 16 dX11_seeks_9 (by decide) h (fun c h => ?_) (fun c h => ?_)
    · refine J_iconst hX (0 : Int32) dX11_seeks_16 ic_0 ?_
      exact J_ireturn hX dX11_seeks_17 h hF rfl
    · refine J_iload_n hX dX11_seeks_12 rfl 1 rfl ?_
      refine J_goto hX 17 dX11_seeks_13 (by decide) ?_
      exact J_ireturn hX dX11_seeks_17 h hF rfl
  · refine J_iload_n hX dX11_seeks_18 rfl 2 rfl ?_
    refine J_istore hX [(4, .int x2), (0, .ref 78), (1, .int x1), (2, .int x2), (3, .int x3)] dX11_seeks_19 (by decide) rfl ?_
    refine J_sub [(0, .ref 78), (1, .int x1), (3, .int x3), (4, .int x2)] [1, 2, 4, 0] rfl ?_
    exact t_X11_seeks_L21 hX hd0 hn hdF hF_X11_seeks hF FU x1 x3 x2  m h
theorem cfr_X11_seeks {G : GG} {l : Launch} {ρ : Nat → Nat} {n t u w v : Nat} {x : Option Nat} (hn : 126 ≤ n) : ∀ k : Nat, (∀ {y0 : Int32} {y1 : Int32} {y2 : Int32} {m : Mm} {r : Int32} {mE : Mm}, (fr_X11_seeks k) y0 y1 y2 m = some (r, mE) → CT G l yX11_seeks cX11_seeks 6 (some .int) (3 + k) 0 0 ρ n (RT t u w v x) [.ref 78, .int y0, .int y1, .int y2] m (some (.int r)) (RT t u w v x) mE) := by
  intro k
  induction k with
  | zero => exact fun h => by cases h
  | succ k ih => exact fun h => ct_of_J (by decide) rfl (Nat.le_of_ble_eq_true rfl) (fun X hX e1 e2 e3 e4 hQ hr hl => t_X11_seeks hX (by omega) hn (by show 3 + k + 1 ≤ 3 + (k + 1); omega) (fun h => by rw [e2]; exact ih h) ⟨by rw [hQ, e3, e4], hr, hl⟩ h)
theorem c_X11_seeks_r {G : GG} {l : Launch} {ρ : Nat → Nat} {n t u w v : Nat} {x : Option Nat} (hn : 126 ≤ n) : ∀ {y0 : Int32} {y1 : Int32} {y2 : Int32} {m : Mm} {r : Int32} {mE : Mm}, (f_X11_seeks_r) y0 y1 y2 m = some (r, mE) → CT G l yX11_seeks cX11_seeks 6 (some .int) 11 0 0 ρ n (RT t u w v x) [.ref 78, .int y0, .int y1, .int y2] m (some (.int r)) (RT t u w v x) mE := fun h => cfr_X11_seeks hn 8 h
theorem t_X11_seek {X : XX} {G : GG} {ρ : Nat → Nat} {n t u w v : Nat} {x : Option Nat} {d : Nat} (hX : Ok X G ρ cX11_seek 3 RX11 d) (hd0 : 12 ≤ d) (hn : 126 ≤ n) {rE : Int32} {mE : Mm} (hF : Fin' X G ρ n (some .int) (some (.int rE)) (RT t u w v x) mE) {x1 : Int32} {m : Mm} (h : f_X11_seek x1 m = some (rE, mE)) : J X G ρ n 3 0 [(0, .ref 78), (1, .int x1)] [] (RT t u w v x) m := by
  unfold f_X11_seek at h
  refine J_aload_n hX dX11_seek_0 rfl 0 rfl ?_
  refine J_iconst hX (0 : Int32) dX11_seek_1 ic_0 ?_
  refine J_putI hX dX11_seek_2 pl_RX11_152 (ltn ltc_78 hn) lo_78 rfl rfl rfl h (fun m1 h => ?_)
  refine J_iload_n hX dX11_seek_5 rfl 1 rfl ?_
  refine J_iconst hX (2 : Int32) dX11_seek_6 ic_2 ?_
  refine J_iconst hX (5 : Int32) dX11_seek_7 ic_5 ?_
  obtain ⟨r3, m2, h0, h⟩ := bd2_some h
  refine J_callSi (As := [.int x1, .int (2 : Int32), .int (5 : Int32)]) (st := []) hX dX11_seek_8 cw_RX11_239 (by omega) (c_X11_within hn  h0) rfl rfl (Nat.le_of_ble_eq_true rfl) ?_
  clear h0
  refine J_if_eq hX 23 dX11_seek_11 (by decide) h (fun c h => ?_) (fun c h => ?_)
  · refine J_iconst hX (-1 : Int32) dX11_seek_23 ic_m1 ?_
    exact J_ireturn hX dX11_seek_24 h hF rfl
  · refine J_aload_n hX dX11_seek_14 rfl 0 rfl ?_
    refine J_getR hX dX11_seek_15 fl_RX11_13 (ltn ltc_78 hn) lo_78 rfl (rt_78_10 _ _ _ _ _) ?_
    refine J_iconst hX (0 : Int32) dX11_seek_18 ic_0 ?_
    refine J_iaload0 hX dX11_seek_19 (ltn ltc_80 hn) lay_80 (by decide) ?_
    refine J_if_ne hX 25 dX11_seek_20 (by decide) h (fun c h => ?_) (fun c h => ?_)
    · refine J_iconst hX (-1 : Int32) dX11_seek_23 ic_m1 ?_
      exact J_ireturn hX dX11_seek_24 h hF rfl
    · refine J_aload_n hX dX11_seek_25 rfl 0 rfl ?_
      refine J_iconst hX (1 : Int32) dX11_seek_26 ic_1 ?_
      refine J_iconst hX (1 : Int32) dX11_seek_27 ic_1 ?_
      refine J_iload_n hX dX11_seek_28 rfl 1 rfl ?_
      refine J_iconst hX (1 : Int32) dX11_seek_29 ic_1 ?_
      refine J_isub hX dX11_seek_30 ?_
      obtain ⟨r5, m4, h0, h⟩ := bd2_some h
      refine J_callVi (As := [.int (1 : Int32), .int (1 : Int32), .int (x1 - (1 : Int32))]) (st := []) hX dX11_seek_31 cw_RX11_454 (by omega) (c_X11_seeks_r hn  h0) (ltn ltc_78 hn) lo_78 (by decide) rfl rfl rfl (Nat.le_of_ble_eq_true rfl) ?_
      clear h0
      refine J_istore_n hX [(2, .int r5), (0, .ref 78), (1, .int x1)] dX11_seek_34 rfl (by decide) rfl ?_
      refine J_iload_n hX dX11_seek_35 rfl 0 rfl ?_
      refine J_if_ne hX 43 dX11_seek_36 (by decide) h (fun c h => ?_) (fun c h => ?_)
      · refine J_iconst hX (-1 : Int32) dX11_seek_39 ic_m1 ?_
        refine J_goto hX 44 dX11_seek_40 (by decide) ?_
        exact J_ireturn hX dX11_seek_44 h hF rfl
      · refine J_iload_n hX dX11_seek_43 rfl 0 rfl ?_
        exact J_ireturn hX dX11_seek_44 h hF rfl
theorem c_X11_seek {G : GG} {l : Launch} {ρ : Nat → Nat} {n t u w v : Nat} {x : Option Nat} (hn : 126 ≤ n) {x1 : Int32} {m : Mm} {rE : Int32} {mE : Mm} (h : f_X11_seek x1 m = some (rE, mE)) : CT G l yX11_seek cX11_seek 3 (some .int) 12 0 0 ρ n (RT t u w v x) [.ref 78, .int x1] m (some (.int rE)) (RT t u w v x) mE := ct_of_J (by decide) rfl (Nat.le_of_ble_eq_true rfl) (fun X hX e1 e2 e3 e4 hQ hr hl => t_X11_seek hX (Nat.le_refl _) hn ⟨by rw [hQ, e3, e4], hr, hl⟩ h)
theorem t_X10_cost {X : XX} {G : GG} {ρ : Nat → Nat} {n : Nat} {x : Option Nat} {d : Nat} {t : Nat} {u : Nat} {w : Nat} {v : Nat} (hX : Ok X G ρ cX10_cost 2 RX10 d) (hd0 : 3 ≤ d) (hn : 126 ≤ n) (ht : isTo t) (hu : isTo u) (hw : isWk w) (hv : isWk v) {rE : Int32} {mE : Mm} (hF : Fin' X G ρ n (some .int) (some (.int rE)) (RT t u w v x) mE) {x1 : Int32} {m : Mm} (h : f_X10_cost t u w v x1 m = some (rE, mE)) : J X G ρ n 2 0 [(0, .ref 0), (1, .int x1)] [] (RT t u w v x) m := by
  unfold f_X10_cost at h
  refine J_aload_n hX dX10_cost_0 rfl 0 rfl ?_
  refine J_iload_n hX dX10_cost_1 rfl 1 rfl ?_
  obtain ⟨r2, m1, h0, h⟩ := bd2_some h
  refine J_callVi (As := [.int x1]) (st := []) hX dX10_cost_2 cw_RX10_158 (by omega) (c_X10_isDatum hn ht hu hw hv h0) (ltn ltc_0 hn) lo_0 (by decide) rfl rfl rfl (Nat.le_of_ble_eq_true rfl) ?_
  clear h0
  refine J_if_eq hX 27 dX10_cost_5 (by decide) h (fun c h => ?_) (fun c h => ?_)
  · refine J_iconst hX (-1 : Int32) dX10_cost_27 ic_m1 ?_
    exact J_ireturn hX dX10_cost_28 h hF rfl
  · refine J_aload_n hX dX10_cost_8 rfl 0 rfl ?_
    refine J_getR hX dX10_cost_9 fl_RX10_62 (ltn ltc_0 hn) lo_0 rfl (rt_0_8 _ _ _ _ _) ?_
    refine J_aload_n hX dX10_cost_12 rfl 0 rfl ?_
    refine J_getR hX dX10_cost_13 fl_RX10_50 (ltn ltc_0 hn) lo_0 rfl (rt_0_6 _ _ _ _ _) ?_
    refine J_getR hX dX10_cost_16 fl_RX10_161 (ltn ltc_26 hn) lo_26 rfl (rt_26_12 _ _ _ _ _) ?_
    refine J_iload_n hX dX10_cost_19 rfl 1 rfl ?_
    refine J_iaload hX dX10_cost_20 (ltn ltc_36 hn) lay_36 h (fun h => ?_)
    obtain ⟨r4, m3, h0, h⟩ := bd2_some h
    refine J_callVi (As := [.int (gI m1 36 (ix x1))]) (st := []) hX dX10_cost_21 cw_RX10_263 (by omega) (c_X6_costOf hn p_isSt_54 h0) (ltn ltc_54 hn) lo_54 (by decide) rfl rfl rfl (Nat.le_of_ble_eq_true rfl) ?_
    clear h0
    refine J_goto hX 28 dX10_cost_24 (by decide) ?_
    exact J_ireturn hX dX10_cost_28 h hF rfl
theorem c_X10_cost {G : GG} {l : Launch} {ρ : Nat → Nat} {n : Nat} {x : Option Nat} (hn : 126 ≤ n) {t : Nat} {u : Nat} {w : Nat} {v : Nat} (ht : isTo t) (hu : isTo u) (hw : isWk w) (hv : isWk v) {x1 : Int32} {m : Mm} {rE : Int32} {mE : Mm} (h : f_X10_cost t u w v x1 m = some (rE, mE)) : CT G l yX10_cost cX10_cost 2 (some .int) 3 0 0 ρ n (RT t u w v x) [.ref 0, .int x1] m (some (.int rE)) (RT t u w v x) mE := ct_of_J (by decide) rfl (Nat.le_of_ble_eq_true rfl) (fun X hX e1 e2 e3 e4 hQ hr hl => t_X10_cost hX (Nat.le_refl _) hn ht hu hw hv ⟨by rw [hQ, e3, e4], hr, hl⟩ h)
theorem t_X11_cost {X : XX} {G : GG} {ρ : Nat → Nat} {n t u w v : Nat} {x : Option Nat} {d : Nat} (hX : Ok X G ρ cX11_cost 2 RX11 d) (hd0 : 3 ≤ d) (hn : 126 ≤ n) {rE : Int32} {mE : Mm} (hF : Fin' X G ρ n (some .int) (some (.int rE)) (RT t u w v x) mE) {x1 : Int32} {m : Mm} (h : f_X11_cost x1 m = some (rE, mE)) : J X G ρ n 2 0 [(0, .ref 78), (1, .int x1)] [] (RT t u w v x) m := by
  unfold f_X11_cost at h
  refine J_aload_n hX dX11_cost_0 rfl 0 rfl ?_
  refine J_iconst hX (0 : Int32) dX11_cost_1 ic_0 ?_
  refine J_putI hX dX11_cost_2 pl_RX11_152 (ltn ltc_78 hn) lo_78 rfl rfl rfl h (fun m1 h => ?_)
  refine J_aload_n hX dX11_cost_5 rfl 0 rfl ?_
  refine J_iload_n hX dX11_cost_6 rfl 1 rfl ?_
  obtain ⟨r3, m2, h0, h⟩ := bd2_some h
  refine J_callVi (As := [.int x1]) (st := []) hX dX11_cost_7 cw_RX11_382 (by omega) (c_X11_isDatum hn  h0) (ltn ltc_78 hn) lo_78 (by decide) rfl rfl rfl (Nat.le_of_ble_eq_true rfl) ?_
  clear h0
  refine J_if_eq hX 29 dX11_cost_10 (by decide) h (fun c h => ?_) (fun c h => ?_)
  · refine J_iconst hX (-1 : Int32) dX11_cost_29 ic_m1 ?_
    exact J_ireturn hX dX11_cost_30 h hF rfl
  · refine J_aload_n hX dX11_cost_13 rfl 0 rfl ?_
    refine J_iload_n hX dX11_cost_14 rfl 1 rfl ?_
    obtain ⟨r5, m4, h0, h⟩ := bd2_some h
    refine J_callVi (As := [.int x1]) (st := []) hX dX11_cost_15 cw_RX11_397 (by omega) (c_X11_canRead hn  h0) (ltn ltc_78 hn) lo_78 (by decide) rfl rfl rfl (Nat.le_of_ble_eq_true rfl) ?_
    clear h0
    refine J_if_eq hX 29 dX11_cost_18 (by decide) h (fun c h => ?_) (fun c h => ?_)
    · refine J_iconst hX (-1 : Int32) dX11_cost_29 ic_m1 ?_
      exact J_ireturn hX dX11_cost_30 h hF rfl
    · refine J_aload_n hX dX11_cost_21 rfl 0 rfl ?_
      refine J_iload_n hX dX11_cost_22 rfl 1 rfl ?_
      obtain ⟨r7, m6, h0, h⟩ := bd2_some h
      refine J_callVi (As := [.int x1]) (st := []) hX dX11_cost_23 cw_RX11_457 (by omega) (c_X11_costOf hn  h0) (ltn ltc_78 hn) lo_78 (by decide) rfl rfl rfl (Nat.le_of_ble_eq_true rfl) ?_
      clear h0
      refine J_goto hX 30 dX11_cost_26 (by decide) ?_
      exact J_ireturn hX dX11_cost_30 h hF rfl
theorem c_X11_cost {G : GG} {l : Launch} {ρ : Nat → Nat} {n t u w v : Nat} {x : Option Nat} (hn : 126 ≤ n) {x1 : Int32} {m : Mm} {rE : Int32} {mE : Mm} (h : f_X11_cost x1 m = some (rE, mE)) : CT G l yX11_cost cX11_cost 2 (some .int) 3 0 0 ρ n (RT t u w v x) [.ref 78, .int x1] m (some (.int rE)) (RT t u w v x) mE := ct_of_J (by decide) rfl (Nat.le_of_ble_eq_true rfl) (fun X hX e1 e2 e3 e4 hQ hr hl => t_X11_cost hX (Nat.le_refl _) hn ⟨by rw [hQ, e3, e4], hr, hl⟩ h)
theorem t_X10_price {X : XX} {G : GG} {ρ : Nat → Nat} {n : Nat} {x : Option Nat} {d : Nat} {t : Nat} {u : Nat} {w : Nat} {v : Nat} (hX : Ok X G ρ cX10_price 2 RX10 d) (hd0 : 3 ≤ d) (hn : 126 ≤ n) (ht : isTo t) (hu : isTo u) (hw : isWk w) (hv : isWk v) {rE : Int32} {mE : Mm} (hF : Fin' X G ρ n (some .int) (some (.int rE)) (RT t u w v x) mE) {x1 : Int32} {m : Mm} (h : f_X10_price t u w v x1 m = some (rE, mE)) : J X G ρ n 2 0 [(0, .ref 0), (1, .int x1)] [] (RT t u w v x) m := by
  unfold f_X10_price at h
  refine J_aload_n hX dX10_price_0 rfl 0 rfl ?_
  refine J_iload_n hX dX10_price_1 rfl 1 rfl ?_
  obtain ⟨r2, m1, h0, h⟩ := bd2_some h
  refine J_callVi (As := [.int x1]) (st := []) hX dX10_price_2 cw_RX10_158 (by omega) (c_X10_isDatum hn ht hu hw hv h0) (ltn ltc_0 hn) lo_0 (by decide) rfl rfl rfl (Nat.le_of_ble_eq_true rfl) ?_
  clear h0
  refine J_if_eq hX 27 dX10_price_5 (by decide) h (fun c h => ?_) (fun c h => ?_)
  · refine J_iconst hX (-1 : Int32) dX10_price_27 ic_m1 ?_
    exact J_ireturn hX dX10_price_28 h hF rfl
  · refine J_aload_n hX dX10_price_8 rfl 0 rfl ?_
    refine J_getR hX dX10_price_9 fl_RX10_62 (ltn ltc_0 hn) lo_0 rfl (rt_0_8 _ _ _ _ _) ?_
    refine J_aload_n hX dX10_price_12 rfl 0 rfl ?_
    refine J_getR hX dX10_price_13 fl_RX10_50 (ltn ltc_0 hn) lo_0 rfl (rt_0_6 _ _ _ _ _) ?_
    refine J_getR hX dX10_price_16 fl_RX10_161 (ltn ltc_26 hn) lo_26 rfl (rt_26_12 _ _ _ _ _) ?_
    refine J_iload_n hX dX10_price_19 rfl 1 rfl ?_
    refine J_iaload hX dX10_price_20 (ltn ltc_36 hn) lay_36 h (fun h => ?_)
    obtain ⟨r4, m3, h0, h⟩ := bd2_some h
    refine J_callVi (As := [.int (gI m1 36 (ix x1))]) (st := []) hX dX10_price_21 cw_RX10_266 (by omega) (c_X6_priceOf hn p_isSt_54 h0) (ltn ltc_54 hn) lo_54 (by decide) rfl rfl rfl (Nat.le_of_ble_eq_true rfl) ?_
    clear h0
    refine J_goto hX 28 dX10_price_24 (by decide) ?_
    exact J_ireturn hX dX10_price_28 h hF rfl
theorem c_X10_price {G : GG} {l : Launch} {ρ : Nat → Nat} {n : Nat} {x : Option Nat} (hn : 126 ≤ n) {t : Nat} {u : Nat} {w : Nat} {v : Nat} (ht : isTo t) (hu : isTo u) (hw : isWk w) (hv : isWk v) {x1 : Int32} {m : Mm} {rE : Int32} {mE : Mm} (h : f_X10_price t u w v x1 m = some (rE, mE)) : CT G l yX10_price cX10_price 2 (some .int) 3 0 0 ρ n (RT t u w v x) [.ref 0, .int x1] m (some (.int rE)) (RT t u w v x) mE := ct_of_J (by decide) rfl (Nat.le_of_ble_eq_true rfl) (fun X hX e1 e2 e3 e4 hQ hr hl => t_X10_price hX (Nat.le_refl _) hn ht hu hw hv ⟨by rw [hQ, e3, e4], hr, hl⟩ h)
theorem t_X11_price {X : XX} {G : GG} {ρ : Nat → Nat} {n t u w v : Nat} {x : Option Nat} {d : Nat} (hX : Ok X G ρ cX11_price 2 RX11 d) (hd0 : 3 ≤ d) (hn : 126 ≤ n) {rE : Int32} {mE : Mm} (hF : Fin' X G ρ n (some .int) (some (.int rE)) (RT t u w v x) mE) {x1 : Int32} {m : Mm} (h : f_X11_price x1 m = some (rE, mE)) : J X G ρ n 2 0 [(0, .ref 78), (1, .int x1)] [] (RT t u w v x) m := by
  unfold f_X11_price at h
  refine J_aload_n hX dX11_price_0 rfl 0 rfl ?_
  refine J_iconst hX (0 : Int32) dX11_price_1 ic_0 ?_
  refine J_putI hX dX11_price_2 pl_RX11_152 (ltn ltc_78 hn) lo_78 rfl rfl rfl h (fun m1 h => ?_)
  refine J_aload_n hX dX11_price_5 rfl 0 rfl ?_
  refine J_iload_n hX dX11_price_6 rfl 1 rfl ?_
  obtain ⟨r3, m2, h0, h⟩ := bd2_some h
  refine J_callVi (As := [.int x1]) (st := []) hX dX11_price_7 cw_RX11_382 (by omega) (c_X11_isDatum hn  h0) (ltn ltc_78 hn) lo_78 (by decide) rfl rfl rfl (Nat.le_of_ble_eq_true rfl) ?_
  clear h0
  refine J_if_eq hX 29 dX11_price_10 (by decide) h (fun c h => ?_) (fun c h => ?_)
  · refine J_iconst hX (-1 : Int32) dX11_price_29 ic_m1 ?_
    exact J_ireturn hX dX11_price_30 h hF rfl
  · refine J_aload_n hX dX11_price_13 rfl 0 rfl ?_
    refine J_iload_n hX dX11_price_14 rfl 1 rfl ?_
    obtain ⟨r5, m4, h0, h⟩ := bd2_some h
    refine J_callVi (As := [.int x1]) (st := []) hX dX11_price_15 cw_RX11_403 (by omega) (c_X11_canWrite hn  h0) (ltn ltc_78 hn) lo_78 (by decide) rfl rfl rfl (Nat.le_of_ble_eq_true rfl) ?_
    clear h0
    refine J_if_eq hX 29 dX11_price_18 (by decide) h (fun c h => ?_) (fun c h => ?_)
    · refine J_iconst hX (-1 : Int32) dX11_price_29 ic_m1 ?_
      exact J_ireturn hX dX11_price_30 h hF rfl
    · refine J_aload_n hX dX11_price_21 rfl 0 rfl ?_
      refine J_iload_n hX dX11_price_22 rfl 1 rfl ?_
      obtain ⟨r7, m6, h0, h⟩ := bd2_some h
      refine J_callVi (As := [.int x1]) (st := []) hX dX11_price_23 cw_RX11_367 (by omega) (c_X11_priceOf hn  h0) (ltn ltc_78 hn) lo_78 (by decide) rfl rfl rfl (Nat.le_of_ble_eq_true rfl) ?_
      clear h0
      refine J_goto hX 30 dX11_price_26 (by decide) ?_
      exact J_ireturn hX dX11_price_30 h hF rfl
theorem c_X11_price {G : GG} {l : Launch} {ρ : Nat → Nat} {n t u w v : Nat} {x : Option Nat} (hn : 126 ≤ n) {x1 : Int32} {m : Mm} {rE : Int32} {mE : Mm} (h : f_X11_price x1 m = some (rE, mE)) : CT G l yX11_price cX11_price 2 (some .int) 3 0 0 ρ n (RT t u w v x) [.ref 78, .int x1] m (some (.int rE)) (RT t u w v x) mE := ct_of_J (by decide) rfl (Nat.le_of_ble_eq_true rfl) (fun X hX e1 e2 e3 e4 hQ hr hl => t_X11_price hX (Nat.le_refl _) hn ⟨by rw [hQ, e3, e4], hr, hl⟩ h)
theorem t_X10_would {X : XX} {G : GG} {ρ : Nat → Nat} {n : Nat} {x : Option Nat} {d : Nat} {t : Nat} {u : Nat} {w : Nat} {v : Nat} (hX : Ok X G ρ cX10_would 3 RX10 d) (hd0 : 3 ≤ d) (hn : 126 ≤ n) (ht : isTo t) (hu : isTo u) (hw : isWk w) (hv : isWk v) {rE : Int32} {mE : Mm} (hF : Fin' X G ρ n (some .int) (some (.int rE)) (RT t u w v x) mE) {x1 : Int32} {x2 : Int32} {m : Mm} (h : f_X10_would t u w v x1 x2 m = some (rE, mE)) : J X G ρ n 3 0 [(0, .ref 0), (1, .int x1), (2, .int x2)] [] (RT t u w v x) m := by
  unfold f_X10_would at h
  refine J_aload_n hX dX10_would_0 rfl 0 rfl ?_
  refine J_iload_n hX dX10_would_1 rfl 1 rfl ?_
  obtain ⟨r2, m1, h0, h⟩ := bd2_some h
  refine J_callVi (As := [.int x1]) (st := []) hX dX10_would_2 cw_RX10_269 (by omega) (c_X10_isUpDisk hn ht hu hw hv h0) (ltn ltc_0 hn) lo_0 (by decide) rfl rfl rfl (Nat.le_of_ble_eq_true rfl) ?_
  clear h0
  refine J_if_eq hX 33 dX10_would_5 (by decide) h (fun c h => ?_) (fun c h => ?_)
  · refine J_iconst hX (-1 : Int32) dX10_would_33 ic_m1 ?_
    exact J_ireturn hX dX10_would_34 h hF rfl
  · refine J_aload_n hX dX10_would_8 rfl 0 rfl ?_
    refine J_iload_n hX dX10_would_9 rfl 2 rfl ?_
    obtain ⟨r4, m3, h0, h⟩ := bd2_some h
    refine J_callVi (As := [.int x2]) (st := []) hX dX10_would_10 cw_RX10_269 (by omega) (c_X10_isUpDisk hn ht hu hw hv h0) (ltn ltc_0 hn) lo_0 (by decide) rfl rfl rfl (Nat.le_of_ble_eq_true rfl) ?_
    clear h0
    refine J_if_eq hX 33 dX10_would_13 (by decide) h (fun c h => ?_) (fun c h => ?_)
    · refine J_iconst hX (-1 : Int32) dX10_would_33 ic_m1 ?_
      exact J_ireturn hX dX10_would_34 h hF rfl
    · refine J_iload_n hX dX10_would_16 rfl 1 rfl ?_
      refine J_iload_n hX dX10_would_17 rfl 2 rfl ?_
      refine J_icmp_eq hX 33 dX10_would_18 (by decide) h (fun c h => ?_) (fun c h => ?_)
      · refine J_iconst hX (-1 : Int32) dX10_would_33 ic_m1 ?_
        exact J_ireturn hX dX10_would_34 h hF rfl
      · refine J_aload_n hX dX10_would_21 rfl 0 rfl ?_
        refine J_getR hX dX10_would_22 fl_RX10_82 (ltn ltc_0 hn) lo_0 rfl (rt_0_12 _ _ _ _ _) ?_
        refine J_iload_n hX dX10_would_25 rfl 2 rfl ?_
        refine J_iload_n hX dX10_would_26 rfl 1 rfl ?_
        obtain ⟨r6, m5, h0, h⟩ := bd2_some h
        refine J_callVi (As := [.int x2, .int x1]) (st := []) hX dX10_would_27 cw_RX10_272 (by omega) (c_X5_readsFrom hn  h0) (ltn ltc_76 hn) lo_76 (by decide) rfl rfl rfl (Nat.le_of_ble_eq_true rfl) ?_
        clear h0
        refine J_goto hX 34 dX10_would_30 (by decide) ?_
        exact J_ireturn hX dX10_would_34 h hF rfl
theorem c_X10_would {G : GG} {l : Launch} {ρ : Nat → Nat} {n : Nat} {x : Option Nat} (hn : 126 ≤ n) {t : Nat} {u : Nat} {w : Nat} {v : Nat} (ht : isTo t) (hu : isTo u) (hw : isWk w) (hv : isWk v) {x1 : Int32} {x2 : Int32} {m : Mm} {rE : Int32} {mE : Mm} (h : f_X10_would t u w v x1 x2 m = some (rE, mE)) : CT G l yX10_would cX10_would 3 (some .int) 3 0 0 ρ n (RT t u w v x) [.ref 0, .int x1, .int x2] m (some (.int rE)) (RT t u w v x) mE := ct_of_J (by decide) rfl (Nat.le_of_ble_eq_true rfl) (fun X hX e1 e2 e3 e4 hQ hr hl => t_X10_would hX (Nat.le_refl _) hn ht hu hw hv ⟨by rw [hQ, e3, e4], hr, hl⟩ h)
theorem t_X11_would_L49 {X : XX} {G : GG} {ρ : Nat → Nat} {n t u w v : Nat} {x : Option Nat} {d : Nat} (hX : Ok X G ρ cX11_would 5 RX11 d) (hd0 : 2 ≤ d) (hn : 126 ≤ n) {rE : Int32} {mE : Mm} (hF : Fin' X G ρ n (some .int) (some (.int rE)) (RT t u w v x) mE) : ∀ (k : Nat) (v1 : Int32) (v2 : Int32) (v3 : Int32) (v4 : Int32) (m : Mm), f_X11_would_L49 k v1 v2 v3 v4 m = some (rE, mE) → J X G ρ n 5 49 [(0, .ref 78), (1, .int v1), (2, .int v2), (3, .int v3), (4, .int v4)] [] (RT t u w v x) m := by
  intro k
  induction k with
  | zero => intro _ _ _ _ _ h; rw [f_X11_would_L49] at h; cases h
  | succ k ih =>
    intro v1 v2 v3 v4 m h
    rw [f_X11_would_L49] at h
    refine J_iload hX dX11_would_49 4 rfl ?_
    refine J_aload_n hX dX11_would_51 rfl 0 rfl ?_
    refine J_getR hX dX11_would_52 fl_RX11_71 (ltn ltc_78 hn) lo_78 rfl (rt_78_32 _ _ _ _ _) ?_
    refine J_iconst hX (0 : Int32) dX11_would_55 ic_0 ?_
    refine J_iaload0 hX dX11_would_56 (ltn ltc_99 hn) lay_99 (by decide) ?_
    refine J_icmp_ge hX 103 dX11_would_57 (by decide) h (fun c h => ?_) (fun c h => ?_)
    · refine J_iload_n hX dX11_would_60 rfl 3 rfl ?_
      refine J_aload_n hX dX11_would_61 rfl 0 rfl ?_
      refine J_iload hX dX11_would_62 4 rfl ?_
      obtain ⟨r11, m10, h0, h⟩ := bd2_some h
      refine J_callVi (As := [.int v4]) (st := [.int v3]) hX dX11_would_64 cw_RX11_355 (by omega) (c_X11_lostIn hn  h0) (ltn ltc_78 hn) lo_78 (by decide) rfl rfl rfl (Nat.le_of_ble_eq_true rfl) ?_
      clear h0
      refine J_if_ne hX 94 dX11_would_67 (by decide) h (fun c h => ?_) (fun c h => ?_)
      · refine J_aload_n hX dX11_would_70 rfl 0 rfl ?_
        refine J_iload hX dX11_would_71 4 rfl ?_
        refine J_iload_n hX dX11_would_73 rfl 1 rfl ?_
        obtain ⟨r13, m12, h0, h⟩ := bd2_some h
        refine J_callVi (As := [.int v4, .int v1]) (st := [.int v3]) hX dX11_would_74 cw_RX11_460 (by omega) (c_X11_unitNow hn  h0) (ltn ltc_78 hn) lo_78 (by decide) rfl rfl rfl (Nat.le_of_ble_eq_true rfl) ?_
        clear h0
        refine J_if_lt hX 94 dX11_would_77 (by decide) h (fun c h => ?_) (fun c h => ?_)
        · refine J_iconst hX (0 : Int32) dX11_would_94 ic_0 ?_
          refine J_iadd hX dX11_would_95 ?_
          refine J_istore_n hX [(3, .int (v3 + (0 : Int32))), (0, .ref 78), (1, .int v1), (2, .int v2), (4, .int v4)] dX11_would_96 rfl (by decide) rfl ?_
          refine J_iinc hX (v4 + (1 : Int32)) [(4, .int (v4 + (1 : Int32))), (3, .int (v3 + (0 : Int32))), (0, .ref 78), (1, .int v1), (2, .int v2)] dX11_would_97 4 rfl (congrArg (fun z => v4 + z) ic_1) (by decide) rfl ?_
          refine J_goto hX 49 dX11_would_100 (by decide) ?_
          refine J_sub [(0, .ref 78), (1, .int v1), (2, .int v2), (3, .int (v3 + (0 : Int32))), (4, .int (v4 + (1 : Int32)))] [2, 3, 4, 1, 0] rfl ?_
          exact ih v1 v2 (v3 + (0 : Int32)) (v4 + (1 : Int32)) m12 h
        · refine J_aload_n hX dX11_would_80 rfl 0 rfl ?_
          refine J_iload hX dX11_would_81 4 rfl ?_
          refine J_iload_n hX dX11_would_83 rfl 2 rfl ?_
          obtain ⟨r15, m14, h0, h⟩ := bd2_some h
          refine J_callVi (As := [.int v4, .int v2]) (st := [.int v3]) hX dX11_would_84 cw_RX11_460 (by omega) (c_X11_unitNow hn  h0) (ltn ltc_78 hn) lo_78 (by decide) rfl rfl rfl (Nat.le_of_ble_eq_true rfl) ?_
          clear h0
          refine J_if_lt hX 94 dX11_would_87 (by decide) h (fun c h => ?_) (fun c h => ?_)
          · refine J_iconst hX (0 : Int32) dX11_would_94 ic_0 ?_
            refine J_iadd hX dX11_would_95 ?_
            refine J_istore_n hX [(3, .int (v3 + (0 : Int32))), (0, .ref 78), (1, .int v1), (2, .int v2), (4, .int v4)] dX11_would_96 rfl (by decide) rfl ?_
            refine J_iinc hX (v4 + (1 : Int32)) [(4, .int (v4 + (1 : Int32))), (3, .int (v3 + (0 : Int32))), (0, .ref 78), (1, .int v1), (2, .int v2)] dX11_would_97 4 rfl (congrArg (fun z => v4 + z) ic_1) (by decide) rfl ?_
            refine J_goto hX 49 dX11_would_100 (by decide) ?_
            refine J_sub [(0, .ref 78), (1, .int v1), (2, .int v2), (3, .int (v3 + (0 : Int32))), (4, .int (v4 + (1 : Int32)))] [2, 3, 4, 1, 0] rfl ?_
            exact ih v1 v2 (v3 + (0 : Int32)) (v4 + (1 : Int32)) m14 h
          · refine J_iconst hX (1 : Int32) dX11_would_90 ic_1 ?_
            refine J_goto hX 95 dX11_would_91 (by decide) ?_
            refine J_iadd hX dX11_would_95 ?_
            refine J_istore_n hX [(3, .int (v3 + (1 : Int32))), (0, .ref 78), (1, .int v1), (2, .int v2), (4, .int v4)] dX11_would_96 rfl (by decide) rfl ?_
            refine J_iinc hX (v4 + (1 : Int32)) [(4, .int (v4 + (1 : Int32))), (3, .int (v3 + (1 : Int32))), (0, .ref 78), (1, .int v1), (2, .int v2)] dX11_would_97 4 rfl (congrArg (fun z => v4 + z) ic_1) (by decide) rfl ?_
            refine J_goto hX 49 dX11_would_100 (by decide) ?_
            refine J_sub [(0, .ref 78), (1, .int v1), (2, .int v2), (3, .int (v3 + (1 : Int32))), (4, .int (v4 + (1 : Int32)))] [2, 3, 4, 1, 0] rfl ?_
            exact ih v1 v2 (v3 + (1 : Int32)) (v4 + (1 : Int32)) m14 h
      · refine J_iconst hX (0 : Int32) dX11_would_94 ic_0 ?_
        refine J_iadd hX dX11_would_95 ?_
        refine J_istore_n hX [(3, .int (v3 + (0 : Int32))), (0, .ref 78), (1, .int v1), (2, .int v2), (4, .int v4)] dX11_would_96 rfl (by decide) rfl ?_
        refine J_iinc hX (v4 + (1 : Int32)) [(4, .int (v4 + (1 : Int32))), (3, .int (v3 + (0 : Int32))), (0, .ref 78), (1, .int v1), (2, .int v2)] dX11_would_97 4 rfl (congrArg (fun z => v4 + z) ic_1) (by decide) rfl ?_
        refine J_goto hX 49 dX11_would_100 (by decide) ?_
        refine J_sub [(0, .ref 78), (1, .int v1), (2, .int v2), (3, .int (v3 + (0 : Int32))), (4, .int (v4 + (1 : Int32)))] [2, 3, 4, 1, 0] rfl ?_
        exact ih v1 v2 (v3 + (0 : Int32)) (v4 + (1 : Int32)) m10 h
    · refine J_iload_n hX dX11_would_103 rfl 3 rfl ?_
      exact J_ireturn hX dX11_would_104 h hF rfl
theorem t_X11_would {X : XX} {G : GG} {ρ : Nat → Nat} {n t u w v : Nat} {x : Option Nat} {d : Nat} (hX : Ok X G ρ cX11_would 5 RX11 d) (hd0 : 2 ≤ d) (hn : 126 ≤ n) {rE : Int32} {mE : Mm} (hF : Fin' X G ρ n (some .int) (some (.int rE)) (RT t u w v x) mE) {x1 : Int32} {x2 : Int32} {m : Mm} (h : f_X11_would x1 x2 m = some (rE, mE)) : J X G ρ n 5 0 [(0, .ref 78), (1, .int x1), (2, .int x2)] [] (RT t u w v x) m := by
  unfold f_X11_would at h
  refine J_aload_n hX dX11_would_0 rfl 0 rfl ?_
  refine J_iconst hX (0 : Int32) dX11_would_1 ic_0 ?_
  refine J_putI hX dX11_would_2 pl_RX11_152 (ltn ltc_78 hn) lo_78 rfl rfl rfl h (fun m1 h => ?_)
  refine J_aload_n hX dX11_would_5 rfl 0 rfl ?_
  refine J_iload_n hX dX11_would_6 rfl 1 rfl ?_
  obtain ⟨r3, m2, h0, h⟩ := bd2_some h
  refine J_callVi (As := [.int x1]) (st := []) hX dX11_would_7 cw_RX11_385 (by omega) (c_X11_isDisk hn  h0) (ltn ltc_78 hn) lo_78 (by decide) rfl rfl rfl (Nat.le_of_ble_eq_true rfl) ?_
  clear h0
  refine J_if_eq hX 42 dX11_would_10 (by decide) h (fun c h => ?_) (fun c h => ?_)
  · refine J_iconst hX (-1 : Int32) dX11_would_42 ic_m1 ?_
    exact J_ireturn hX dX11_would_43 h hF rfl
  · refine J_aload_n hX dX11_would_13 rfl 0 rfl ?_
    refine J_iload_n hX dX11_would_14 rfl 2 rfl ?_
    obtain ⟨r5, m4, h0, h⟩ := bd2_some h
    refine J_callVi (As := [.int x2]) (st := []) hX dX11_would_15 cw_RX11_385 (by omega) (c_X11_isDisk hn  h0) (ltn ltc_78 hn) lo_78 (by decide) rfl rfl rfl (Nat.le_of_ble_eq_true rfl) ?_
    clear h0
    refine J_if_eq hX 42 dX11_would_18 (by decide) h (fun c h => ?_) (fun c h => ?_)
    · refine J_iconst hX (-1 : Int32) dX11_would_42 ic_m1 ?_
      exact J_ireturn hX dX11_would_43 h hF rfl
    · refine J_iload_n hX dX11_would_21 rfl 1 rfl ?_
      refine J_iload_n hX dX11_would_22 rfl 2 rfl ?_
      refine J_icmp_eq hX 42 dX11_would_23 (by decide) h (fun c h => ?_) (fun c h => ?_)
      · refine J_iconst hX (-1 : Int32) dX11_would_42 ic_m1 ?_
        exact J_ireturn hX dX11_would_43 h hF rfl
      · refine J_aload_n hX dX11_would_26 rfl 0 rfl ?_
        refine J_iload_n hX dX11_would_27 rfl 1 rfl ?_
        obtain ⟨r7, m6, h0, h⟩ := bd2_some h
        refine J_callVi (As := [.int x1]) (st := []) hX dX11_would_28 cw_RX11_373 (by omega) (c_X11_isUp hn  h0) (ltn ltc_78 hn) lo_78 (by decide) rfl rfl rfl (Nat.le_of_ble_eq_true rfl) ?_
        clear h0
        refine J_if_eq hX 42 dX11_would_31 (by decide) h (fun c h => ?_) (fun c h => ?_)
        · refine J_iconst hX (-1 : Int32) dX11_would_42 ic_m1 ?_
          exact J_ireturn hX dX11_would_43 h hF rfl
        · refine J_aload_n hX dX11_would_34 rfl 0 rfl ?_
          refine J_iload_n hX dX11_would_35 rfl 2 rfl ?_
          obtain ⟨r9, m8, h0, h⟩ := bd2_some h
          refine J_callVi (As := [.int x2]) (st := []) hX dX11_would_36 cw_RX11_373 (by omega) (c_X11_isUp hn  h0) (ltn ltc_78 hn) lo_78 (by decide) rfl rfl rfl (Nat.le_of_ble_eq_true rfl) ?_
          clear h0
          refine J_if_ne hX 44 dX11_would_39 (by decide) h (fun c h => ?_) (fun c h => ?_)
          · refine J_iconst hX (-1 : Int32) dX11_would_42 ic_m1 ?_
            exact J_ireturn hX dX11_would_43 h hF rfl
          · refine J_iconst hX (0 : Int32) dX11_would_44 ic_0 ?_
            refine J_istore_n hX [(3, .int (0 : Int32)), (0, .ref 78), (1, .int x1), (2, .int x2)] dX11_would_45 rfl (by decide) rfl ?_
            refine J_iconst hX (0 : Int32) dX11_would_46 ic_0 ?_
            refine J_istore hX [(4, .int (0 : Int32)), (3, .int (0 : Int32)), (0, .ref 78), (1, .int x1), (2, .int x2)] dX11_would_47 (by decide) rfl ?_
            refine J_sub [(0, .ref 78), (1, .int x1), (2, .int x2), (3, .int (0 : Int32)), (4, .int (0 : Int32))] [2, 3, 4, 1, 0] rfl ?_
            exact t_X11_would_L49 hX hd0 hn hF FU x1 x2 (0 : Int32) (0 : Int32)  m8 h
theorem c_X11_would {G : GG} {l : Launch} {ρ : Nat → Nat} {n t u w v : Nat} {x : Option Nat} (hn : 126 ≤ n) {x1 : Int32} {x2 : Int32} {m : Mm} {rE : Int32} {mE : Mm} (h : f_X11_would x1 x2 m = some (rE, mE)) : CT G l yX11_would cX11_would 5 (some .int) 2 0 0 ρ n (RT t u w v x) [.ref 78, .int x1, .int x2] m (some (.int rE)) (RT t u w v x) mE := ct_of_J (by decide) rfl (Nat.le_of_ble_eq_true rfl) (fun X hX e1 e2 e3 e4 hQ hr hl => t_X11_would hX (Nat.le_refl _) hn ⟨by rw [hQ, e3, e4], hr, hl⟩ h)
theorem t_X10_time_J28 {X : XX} {G : GG} {ρ : Nat → Nat} {n : Nat} {x : Option Nat} {d : Nat} {t : Nat} {u : Nat} {w : Nat} {v : Nat} (hX : Ok X G ρ cX10_time 4 RX10 d) (hd0 : 4 ≤ d) (hn : 126 ≤ n) (ht : isTo t) (hu : isTo u) (hw : isWk w) (hv : isWk v) {rE : Int32} {mE : Mm} (hF : Fin' X G ρ n (some .int) (some (.int rE)) (RT t u w v x) mE) (v1 : Int32) (v2 : Int32) (s0 : Int32) (m : Mm) (h : f_X10_time_J28 t u w v v1 v2 s0 m = some (rE, mE)) : J X G ρ n 4 28 [(0, .ref 0), (1, .int v1), (2, .int v2)] [.int s0] (RT t u w v x) m := by
  unfold f_X10_time_J28 at h
  refine J_istore_n hX [(3, .int s0), (0, .ref 0), (1, .int v1), (2, .int v2)] dX10_time_28 rfl (by decide) rfl ?_
  refine J_iload_n hX dX10_time_29 rfl 0 rfl ?_
  refine J_if_eq hX 53 dX10_time_30 (by decide) h (fun c h => ?_) (fun c h => ?_)
  · refine J_iconst hX (-1 : Int32) dX10_time_53 ic_m1 ?_
    exact J_ireturn hX dX10_time_54 h hF rfl
  · refine J_aload_n hX dX10_time_33 rfl 1 rfl ?_
    refine J_getR hX dX10_time_34 fl_RX10_82 (ltn ltc_0 hn) lo_0 rfl (rt_0_12 _ _ _ _ _) ?_
    refine J_iload_n hX dX10_time_37 rfl 2 rfl ?_
    refine J_aload_n hX dX10_time_38 rfl 1 rfl ?_
    refine J_getR hX dX10_time_39 fl_RX10_19 (ltn ltc_0 hn) lo_0 rfl (rt_0_1 _ _ _ _ _) ?_
    obtain ⟨r4, m3, h0, h⟩ := bd2_some h
    refine J_callVi (As := []) (st := [.int v1, .ref 76]) hX dX10_time_42 cw_RX10_275 (by omega) (c_X8_pace hn ht h0) (ltn (lt_isTo_0 ht) hn) (lo_isTo_0 ht) (by decide) rfl rfl rfl (Nat.le_of_ble_eq_true rfl) ?_
    clear h0
    refine J_iload_n hX dX10_time_45 rfl 3 rfl ?_
    refine J_isub hX dX10_time_46 ?_
    obtain ⟨r6, m5, h0, h⟩ := bd2_some h
    refine J_callVi (As := [.int v1, .int (r4 - v2)]) (st := []) hX dX10_time_47 cw_RX10_278 (by omega) (c_X5_ticks hn  h0) (ltn ltc_76 hn) lo_76 (by decide) rfl rfl rfl (Nat.le_of_ble_eq_true rfl) ?_
    clear h0
    refine J_goto hX 54 dX10_time_50 (by decide) ?_
    exact J_ireturn hX dX10_time_54 h hF rfl
theorem t_X10_time_J27 {X : XX} {G : GG} {ρ : Nat → Nat} {n : Nat} {x : Option Nat} {d : Nat} {t : Nat} {u : Nat} {w : Nat} {v : Nat} (hX : Ok X G ρ cX10_time 4 RX10 d) (hd0 : 4 ≤ d) (hn : 126 ≤ n) (ht : isTo t) (hu : isTo u) (hw : isWk w) (hv : isWk v) {rE : Int32} {mE : Mm} (hF : Fin' X G ρ n (some .int) (some (.int rE)) (RT t u w v x) mE) (v1 : Int32) (v2 : Int32) (m : Mm) (h : f_X10_time_J27 t u w v v1 v2 m = some (rE, mE)) : J X G ρ n 4 27 [(0, .ref 0), (1, .int v1), (2, .int v2)] [] (RT t u w v x) m := by
  unfold f_X10_time_J27 at h
  refine J_iconst hX (0 : Int32) dX10_time_27 ic_0 ?_
  exact t_X10_time_J28 hX hd0 hn ht hu hw hv hF v1 v2 (0 : Int32) m h
theorem t_X10_time {X : XX} {G : GG} {ρ : Nat → Nat} {n : Nat} {x : Option Nat} {d : Nat} {t : Nat} {u : Nat} {w : Nat} {v : Nat} (hX : Ok X G ρ cX10_time 4 RX10 d) (hd0 : 4 ≤ d) (hn : 126 ≤ n) (ht : isTo t) (hu : isTo u) (hw : isWk w) (hv : isWk v) {rE : Int32} {mE : Mm} (hF : Fin' X G ρ n (some .int) (some (.int rE)) (RT t u w v x) mE) {x1 : Int32} {x2 : Int32} {m : Mm} (h : f_X10_time t u w v x1 x2 m = some (rE, mE)) : J X G ρ n 4 0 [(0, .ref 0), (1, .int x1), (2, .int x2)] [] (RT t u w v x) m := by
  unfold f_X10_time at h
  refine J_aload_n hX dX10_time_0 rfl 0 rfl ?_
  refine J_iload_n hX dX10_time_1 rfl 1 rfl ?_
  obtain ⟨r2, m1, h0, h⟩ := bd2_some h
  refine J_callVi (As := [.int x1]) (st := []) hX dX10_time_2 cw_RX10_269 (by omega) (c_X10_isUpDisk hn ht hu hw hv h0) (ltn ltc_0 hn) lo_0 (by decide) rfl rfl rfl (Nat.le_of_ble_eq_true rfl) ?_
  clear h0
  refine J_if_eq hX 27 dX10_time_5 (by decide) h (fun c h => ?_) (fun c h => ?_)
  · exact t_X10_time_J27 hX hd0 hn ht hu hw hv hF x1 x2  m1 h
  · refine J_iload_n hX dX10_time_8 rfl 2 rfl ?_
    refine J_if_lt hX 27 dX10_time_9 (by decide) h (fun c h => ?_) (fun c h => ?_)
    · exact t_X10_time_J27 hX hd0 hn ht hu hw hv hF x1 x2  m1 h
    · refine J_iload_n hX dX10_time_12 rfl 2 rfl ?_
      refine J_aload_n hX dX10_time_13 rfl 0 rfl ?_
      refine J_getR hX dX10_time_14 fl_RX10_19 (ltn ltc_0 hn) lo_0 rfl (rt_0_1 _ _ _ _ _) ?_
      obtain ⟨r8, m7, h0, h⟩ := bd2_some h
      refine J_callVi (As := []) (st := [.int x2]) hX dX10_time_17 cw_RX10_275 (by omega) (c_X8_pace hn ht h0) (ltn (lt_isTo_0 ht) hn) (lo_isTo_0 ht) (by decide) rfl rfl rfl (Nat.le_of_ble_eq_true rfl) ?_
      clear h0
      refine J_icmp_ge hX 27 dX10_time_20 (by decide) h (fun c h => ?_) (fun c h => ?_)
      · refine J_iconst hX (1 : Int32) dX10_time_23 ic_1 ?_
        refine J_goto hX 28 dX10_time_24 (by decide) ?_
        exact t_X10_time_J28 hX hd0 hn ht hu hw hv hF x1 x2 (1 : Int32) m7 h
      · exact t_X10_time_J27 hX hd0 hn ht hu hw hv hF x1 x2  m7 h
theorem c_X10_time {G : GG} {l : Launch} {ρ : Nat → Nat} {n : Nat} {x : Option Nat} (hn : 126 ≤ n) {t : Nat} {u : Nat} {w : Nat} {v : Nat} (ht : isTo t) (hu : isTo u) (hw : isWk w) (hv : isWk v) {x1 : Int32} {x2 : Int32} {m : Mm} {rE : Int32} {mE : Mm} (h : f_X10_time t u w v x1 x2 m = some (rE, mE)) : CT G l yX10_time cX10_time 4 (some .int) 4 0 0 ρ n (RT t u w v x) [.ref 0, .int x1, .int x2] m (some (.int rE)) (RT t u w v x) mE := ct_of_J (by decide) rfl (Nat.le_of_ble_eq_true rfl) (fun X hX e1 e2 e3 e4 hQ hr hl => t_X10_time hX (Nat.le_refl _) hn ht hu hw hv ⟨by rw [hQ, e3, e4], hr, hl⟩ h)
theorem t_X11_time_L156 {X : XX} {G : GG} {ρ : Nat → Nat} {n t u w v : Nat} {x : Option Nat} {d : Nat} (hX : Ok X G ρ cX11_time 6 RX11 d) (hd0 : 2 ≤ d) (hn : 126 ≤ n) {rE : Int32} {mE : Mm} (hF : Fin' X G ρ n (some .int) (some (.int rE)) (RT t u w v x) mE) {v1 : Int32} {v2 : Int32} {v3 : Int32} {v4 : Int32} {K : Mm → Option (Int32 × Mm)} (hK : ∀ (m : Mm), K m = some (rE, mE) → J X G ρ n 6 184 [(0, .ref 78), (1, .int v1), (2, .int v2), (3, .int v3), (4, .int v4)] [] (RT t u w v x) m) : ∀ (k : Nat) (v5 : Int32) (m : Mm), f_X11_time_L156 v1 v2 v3 v4 K k v5 m = some (rE, mE) → J X G ρ n 6 156 [(0, .ref 78), (1, .int v1), (2, .int v2), (3, .int v3), (4, .int v4), (5, .int v5)] [] (RT t u w v x) m := by
  intro k
  induction k with
  | zero => intro _ _ h; rw [f_X11_time_L156] at h; cases h
  | succ k ih =>
    intro v5 m h
    rw [f_X11_time_L156] at h
    refine J_iload hX dX11_time_156 5 rfl ?_
    refine J_bipush hX (13 : Int32) dX11_time_158 (by decide) ?_
    refine J_icmp_ge hX 184 dX11_time_160 (by decide) h (fun c h => ?_) (fun c h => ?_)
    · refine J_aload_n hX dX11_time_163 rfl 0 rfl ?_
      refine J_getR hX dX11_time_164 fl_RX11_143 (ltn ltc_78 hn) lo_78 rfl (rt_78_56 _ _ _ _ _) ?_
      refine J_iload hX dX11_time_167 5 rfl ?_
      refine J_aload_n hX dX11_time_169 rfl 0 rfl ?_
      refine J_getR hX dX11_time_170 fl_RX11_13 (ltn ltc_78 hn) lo_78 rfl (rt_78_10 _ _ _ _ _) ?_
      refine J_iconst hX (2 : Int32) dX11_time_173 ic_2 ?_
      refine J_iaload0 hX dX11_time_174 (ltn ltc_80 hn) lay_80 (by decide) ?_
      refine J_iload_n hX dX11_time_175 rfl 2 rfl ?_
      refine J_isub hX dX11_time_176 ?_
      refine J_iastore hX dX11_time_177 (ltn ltc_123 hn) lay_123 h (fun m8 h => ?_)
      refine J_iinc hX (v5 + (1 : Int32)) [(5, .int (v5 + (1 : Int32))), (0, .ref 78), (1, .int v1), (2, .int v2), (3, .int v3), (4, .int v4)] dX11_time_178 5 rfl (congrArg (fun z => v5 + z) ic_1) (by decide) rfl ?_
      refine J_goto hX 156 dX11_time_181 (by decide) ?_
      refine J_sub [(0, .ref 78), (1, .int v1), (2, .int v2), (3, .int v3), (4, .int v4), (5, .int (v5 + (1 : Int32)))] [1, 2, 3, 4, 5, 0] rfl ?_
      exact ih (v5 + (1 : Int32)) m8 h
    · refine J_sub [(0, .ref 78), (1, .int v1), (2, .int v2), (3, .int v3), (4, .int v4)] [0, 1, 2, 3, 4] rfl ?_
      exact hK  m h
theorem t_X11_time_L187 {X : XX} {G : GG} {ρ : Nat → Nat} {n t u w v : Nat} {x : Option Nat} {d : Nat} (hX : Ok X G ρ cX11_time 6 RX11 d) (hd0 : 2 ≤ d) (hn : 126 ≤ n) {rE : Int32} {mE : Mm} (hF : Fin' X G ρ n (some .int) (some (.int rE)) (RT t u w v x) mE) {v1 : Int32} {v2 : Int32} {v4 : Int32} {K : Int32 → Mm → Option (Int32 × Mm)} (hK : ∀ (w3 : Int32) (m : Mm), K w3 m = some (rE, mE) → J X G ρ n 6 238 [(0, .ref 78), (1, .int v1), (2, .int v2), (3, .int w3), (4, .int v4)] [] (RT t u w v x) m) : ∀ (k : Nat) (v3 : Int32) (v5 : Int32) (m : Mm), f_X11_time_L187 v1 v2 v4 K k v3 v5 m = some (rE, mE) → J X G ρ n 6 187 [(0, .ref 78), (1, .int v1), (2, .int v2), (3, .int v3), (4, .int v4), (5, .int v5)] [] (RT t u w v x) m := by
  intro k
  induction k with
  | zero => intro _ _ _ h; rw [f_X11_time_L187] at h; cases h
  | succ k ih =>
    intro v3 v5 m h
    rw [f_X11_time_L187] at h
    refine J_iload hX dX11_time_187 5 rfl ?_
    refine J_aload_n hX dX11_time_189 rfl 0 rfl ?_
    refine J_getR hX dX11_time_190 fl_RX11_71 (ltn ltc_78 hn) lo_78 rfl (rt_78_32 _ _ _ _ _) ?_
    refine J_iconst hX (0 : Int32) dX11_time_193 ic_0 ?_
    refine J_iaload0 hX dX11_time_194 (ltn ltc_99 hn) lay_99 (by decide) ?_
    refine J_icmp_ge hX 238 dX11_time_195 (by decide) h (fun c h => ?_) (fun c h => ?_)
    · refine J_aload_n hX dX11_time_198 rfl 0 rfl ?_
      refine J_getR hX dX11_time_199 fl_RX11_140 (ltn ltc_78 hn) lo_78 rfl (rt_78_55 _ _ _ _ _) ?_
      refine J_iload hX dX11_time_202 5 rfl ?_
      refine J_baload hX dX11_time_204 (ltn ltc_122 hn) lay_122 h (fun h => ?_)
      refine J_if_eq hX 232 dX11_time_205 (by decide) h (fun c h => ?_) (fun c h => ?_)
      · refine J_iinc hX (v5 + (1 : Int32)) [(5, .int (v5 + (1 : Int32))), (0, .ref 78), (1, .int v1), (2, .int v2), (3, .int v3), (4, .int v4)] dX11_time_232 5 rfl (congrArg (fun z => v5 + z) ic_1) (by decide) rfl ?_
        refine J_goto hX 187 dX11_time_235 (by decide) ?_
        refine J_sub [(0, .ref 78), (1, .int v1), (2, .int v2), (3, .int v3), (4, .int v4), (5, .int (v5 + (1 : Int32)))] [1, 2, 3, 4, 5, 0] rfl ?_
        exact ih v3 (v5 + (1 : Int32)) m h
      · refine J_aload_n hX dX11_time_208 rfl 0 rfl ?_
        refine J_iload hX dX11_time_209 5 rfl ?_
        refine J_iload_n hX dX11_time_211 rfl 1 rfl ?_
        obtain ⟨r11, m10, h0, h⟩ := bd2_some h
        refine J_callVi (As := [.int v5, .int v1]) (st := []) hX dX11_time_212 cw_RX11_463 (by omega) (c_X11_fitsIn hn  h0) (ltn ltc_78 hn) lo_78 (by decide) rfl rfl rfl (Nat.le_of_ble_eq_true rfl) ?_
        clear h0
        refine J_if_ne hX 221 dX11_time_215 (by decide) h (fun c h => ?_) (fun c h => ?_)
        · refine J_goto hX 232 dX11_time_218 (by decide) ?_
          refine J_iinc hX (v5 + (1 : Int32)) [(5, .int (v5 + (1 : Int32))), (0, .ref 78), (1, .int v1), (2, .int v2), (3, .int v3), (4, .int v4)] dX11_time_232 5 rfl (congrArg (fun z => v5 + z) ic_1) (by decide) rfl ?_
          refine J_goto hX 187 dX11_time_235 (by decide) ?_
          refine J_sub [(0, .ref 78), (1, .int v1), (2, .int v2), (3, .int v3), (4, .int v4), (5, .int (v5 + (1 : Int32)))] [1, 2, 3, 4, 5, 0] rfl ?_
          exact ih v3 (v5 + (1 : Int32)) m10 h
        · refine J_aload_n hX dX11_time_221 rfl 0 rfl ?_
          refine J_getR hX dX11_time_222 fl_RX11_140 (ltn ltc_78 hn) lo_78 rfl (rt_78_55 _ _ _ _ _) ?_
          refine J_iload hX dX11_time_225 5 rfl ?_
          refine J_iconst hX (0 : Int32) dX11_time_227 ic_0 ?_
          refine J_bastore hX dX11_time_228 (ltn ltc_122 hn) lay_122 vz0 h (fun m12 h => ?_)
          refine J_iinc hX (v3 + (-1 : Int32)) [(3, .int (v3 + (-1 : Int32))), (0, .ref 78), (1, .int v1), (2, .int v2), (4, .int v4), (5, .int v5)] dX11_time_229 3 rfl (congrArg (fun z => v3 + z) ic_m1) (by decide) rfl ?_
          refine J_iinc hX (v5 + (1 : Int32)) [(5, .int (v5 + (1 : Int32))), (3, .int (v3 + (-1 : Int32))), (0, .ref 78), (1, .int v1), (2, .int v2), (4, .int v4)] dX11_time_232 5 rfl (congrArg (fun z => v5 + z) ic_1) (by decide) rfl ?_
          refine J_goto hX 187 dX11_time_235 (by decide) ?_
          refine J_sub [(0, .ref 78), (1, .int v1), (2, .int v2), (3, .int (v3 + (-1 : Int32))), (4, .int v4), (5, .int (v5 + (1 : Int32)))] [2, 3, 4, 1, 5, 0] rfl ?_
          exact ih (v3 + (-1 : Int32)) (v5 + (1 : Int32)) m12 h
    · refine J_sub [(0, .ref 78), (1, .int v1), (2, .int v2), (3, .int v3), (4, .int v4)] [0, 1, 2, 3, 4] rfl ?_
      exact hK v3 m h
theorem t_X11_time_L146 {X : XX} {G : GG} {ρ : Nat → Nat} {n t u w v : Nat} {x : Option Nat} {d : Nat} (hX : Ok X G ρ cX11_time 6 RX11 d) (hd0 : 2 ≤ d) (hn : 126 ≤ n) {rE : Int32} {mE : Mm} (hF : Fin' X G ρ n (some .int) (some (.int rE)) (RT t u w v x) mE) : ∀ (k : Nat) (v1 : Int32) (v2 : Int32) (v3 : Int32) (v4 : Int32) (m : Mm), f_X11_time_L146 k v1 v2 v3 v4 m = some (rE, mE) → J X G ρ n 6 146 [(0, .ref 78), (1, .int v1), (2, .int v2), (3, .int v3), (4, .int v4)] [] (RT t u w v x) m := by
  intro k
  induction k with
  | zero => intro _ _ _ _ _ h; rw [f_X11_time_L146] at h; cases h
  | succ k ih =>
    intro v1 v2 v3 v4 m h
    rw [f_X11_time_L146] at h
    refine J_iload_n hX dX11_time_146 rfl 3 rfl ?_
    refine J_if_le hX 241 dX11_time_147 (by decide) h (fun c h => ?_) (fun c h => ?_)
    · refine J_iinc hX (v4 + (1 : Int32)) [(4, .int (v4 + (1 : Int32))), (0, .ref 78), (1, .int v1), (2, .int v2), (3, .int v3)] dX11_time_150 4 rfl (congrArg (fun z => v4 + z) ic_1) (by decide) rfl ?_
      refine J_iconst hX (0 : Int32) dX11_time_153 ic_0 ?_
      refine J_istore hX [(5, .int (0 : Int32)), (4, .int (v4 + (1 : Int32))), (0, .ref 78), (1, .int v1), (2, .int v2), (3, .int v3)] dX11_time_154 (by decide) rfl ?_
      refine J_sub [(0, .ref 78), (1, .int v1), (2, .int v2), (3, .int v3), (4, .int (v4 + (1 : Int32))), (5, .int (0 : Int32))] [2, 3, 4, 5, 1, 0] rfl ?_
      refine t_X11_time_L156 hX hd0 hn hF (fun m9 h => ?_) FU (0 : Int32) m h
      refine J_iconst hX (0 : Int32) dX11_time_184 ic_0 ?_
      refine J_istore hX [(5, .int (0 : Int32)), (0, .ref 78), (1, .int v1), (2, .int v2), (3, .int v3), (4, .int (v4 + (1 : Int32)))] dX11_time_185 (by decide) rfl ?_
      refine J_sub [(0, .ref 78), (1, .int v1), (2, .int v2), (3, .int v3), (4, .int (v4 + (1 : Int32))), (5, .int (0 : Int32))] [1, 2, 3, 4, 5, 0] rfl ?_
      refine t_X11_time_L187 hX hd0 hn hF (fun w13 m14 h => ?_) FU v3 (0 : Int32) m9 h
      refine J_goto hX 146 dX11_time_238 (by decide) ?_
      exact ih v1 v2 w13 (v4 + (1 : Int32)) m14 h
    · refine J_iload hX dX11_time_241 4 rfl ?_
      exact J_ireturn hX dX11_time_243 h hF rfl
theorem t_X11_time_J118 {X : XX} {G : GG} {ρ : Nat → Nat} {n t u w v : Nat} {x : Option Nat} {d : Nat} (hX : Ok X G ρ cX11_time 6 RX11 d) (hd0 : 2 ≤ d) (hn : 126 ≤ n) {rE : Int32} {mE : Mm} (hF : Fin' X G ρ n (some .int) (some (.int rE)) (RT t u w v x) mE) {K44 : Int32 → Int32 → Int32 → Int32 → Mm → Option (Int32 × Mm)} (v1 : Int32) (v2 : Int32) (v3 : Int32) (v4 : Int32) (s0 : Int32) (s1 : Int32) (hK44 : ∀ (w1 : Int32) (w2 : Int32) (w3 : Int32) (w4 : Int32) (m : Mm), K44 w1 w2 w3 w4 m = some (rE, mE) → J X G ρ n 6 44 [(0, .ref 78), (1, .int w1), (2, .int w2), (3, .int w3), (4, .int w4)] [] (RT t u w v x) m) (m : Mm) (h : f_X11_time_J118 K44 v1 v2 v3 v4 s0 s1 m = some (rE, mE)) : J X G ρ n 6 118 [(0, .ref 78), (1, .int v1), (2, .int v2), (3, .int v3), (4, .int v4)] [.int s0, .int s1, .ref 122] (RT t u w v x) m := by
  unfold f_X11_time_J118 at h
  obtain ⟨gB, h⟩ := gd_some h
  refine J_bastore hX dX11_time_118 (ltn ltc_122 hn) lay_122 (vzB gB) h (fun m17 h => ?_)
  refine J_iload_n hX dX11_time_119 rfl 3 rfl ?_
  refine J_aload_n hX dX11_time_120 rfl 0 rfl ?_
  refine J_getR hX dX11_time_121 fl_RX11_140 (ltn ltc_78 hn) lo_78 rfl (rt_78_55 _ _ _ _ _) ?_
  refine J_iload hX dX11_time_124 4 rfl ?_
  refine J_baload hX dX11_time_126 (ltn ltc_122 hn) lay_122 h (fun h => ?_)
  refine J_if_eq hX 134 dX11_time_127 (by decide) h (fun c h => ?_) (fun c h => ?_)
  · refine J_iconst hX (0 : Int32) dX11_time_134 ic_0 ?_
    refine J_iadd hX dX11_time_135 ?_
    refine J_istore_n hX [(3, .int (v3 + (0 : Int32))), (0, .ref 78), (1, .int v1), (2, .int v2), (4, .int v4)] dX11_time_136 rfl (by decide) rfl ?_
    refine J_iinc hX (v4 + (1 : Int32)) [(4, .int (v4 + (1 : Int32))), (3, .int (v3 + (0 : Int32))), (0, .ref 78), (1, .int v1), (2, .int v2)] dX11_time_137 4 rfl (congrArg (fun z => v4 + z) ic_1) (by decide) rfl ?_
    refine J_goto hX 44 dX11_time_140 (by decide) ?_
    refine J_sub [(0, .ref 78), (1, .int v1), (2, .int v2), (3, .int (v3 + (0 : Int32))), (4, .int (v4 + (1 : Int32)))] [2, 3, 4, 1, 0] rfl ?_
    exact hK44 v1 v2 (v3 + (0 : Int32)) (v4 + (1 : Int32)) m17 h
  · refine J_iconst hX (1 : Int32) dX11_time_130 ic_1 ?_
    refine J_goto hX 135 dX11_time_131 (by decide) ?_
    refine J_iadd hX dX11_time_135 ?_
    refine J_istore_n hX [(3, .int (v3 + (1 : Int32))), (0, .ref 78), (1, .int v1), (2, .int v2), (4, .int v4)] dX11_time_136 rfl (by decide) rfl ?_
    refine J_iinc hX (v4 + (1 : Int32)) [(4, .int (v4 + (1 : Int32))), (3, .int (v3 + (1 : Int32))), (0, .ref 78), (1, .int v1), (2, .int v2)] dX11_time_137 4 rfl (congrArg (fun z => v4 + z) ic_1) (by decide) rfl ?_
    refine J_goto hX 44 dX11_time_140 (by decide) ?_
    refine J_sub [(0, .ref 78), (1, .int v1), (2, .int v2), (3, .int (v3 + (1 : Int32))), (4, .int (v4 + (1 : Int32)))] [2, 3, 4, 1, 0] rfl ?_
    exact hK44 v1 v2 (v3 + (1 : Int32)) (v4 + (1 : Int32)) m17 h
theorem t_X11_time_J117 {X : XX} {G : GG} {ρ : Nat → Nat} {n t u w v : Nat} {x : Option Nat} {d : Nat} (hX : Ok X G ρ cX11_time 6 RX11 d) (hd0 : 2 ≤ d) (hn : 126 ≤ n) {rE : Int32} {mE : Mm} (hF : Fin' X G ρ n (some .int) (some (.int rE)) (RT t u w v x) mE) {K44 : Int32 → Int32 → Int32 → Int32 → Mm → Option (Int32 × Mm)} (v1 : Int32) (v2 : Int32) (v3 : Int32) (v4 : Int32) (s0 : Int32) (hK44 : ∀ (w1 : Int32) (w2 : Int32) (w3 : Int32) (w4 : Int32) (m : Mm), K44 w1 w2 w3 w4 m = some (rE, mE) → J X G ρ n 6 44 [(0, .ref 78), (1, .int w1), (2, .int w2), (3, .int w3), (4, .int w4)] [] (RT t u w v x) m) (m : Mm) (h : f_X11_time_J117 K44 v1 v2 v3 v4 s0 m = some (rE, mE)) : J X G ρ n 6 117 [(0, .ref 78), (1, .int v1), (2, .int v2), (3, .int v3), (4, .int v4)] [.int s0, .ref 122] (RT t u w v x) m := by
  unfold f_X11_time_J117 at h
  refine J_iconst hX (0 : Int32) dX11_time_117 ic_0 ?_
  exact t_X11_time_J118 hX hd0 hn hF v1 v2 v3 v4 (0 : Int32) s0 hK44 m h
theorem t_X11_time_L44 {X : XX} {G : GG} {ρ : Nat → Nat} {n t u w v : Nat} {x : Option Nat} {d : Nat} (hX : Ok X G ρ cX11_time 6 RX11 d) (hd0 : 2 ≤ d) (hn : 126 ≤ n) {rE : Int32} {mE : Mm} (hF : Fin' X G ρ n (some .int) (some (.int rE)) (RT t u w v x) mE) : ∀ (k : Nat) (v1 : Int32) (v2 : Int32) (v3 : Int32) (v4 : Int32) (m : Mm), f_X11_time_L44 k v1 v2 v3 v4 m = some (rE, mE) → J X G ρ n 6 44 [(0, .ref 78), (1, .int v1), (2, .int v2), (3, .int v3), (4, .int v4)] [] (RT t u w v x) m := by
  intro k
  induction k with
  | zero => intro _ _ _ _ _ h; rw [f_X11_time_L44] at h; cases h
  | succ k ih =>
    intro v1 v2 v3 v4 m h
    rw [f_X11_time_L44] at h
    refine J_iload hX dX11_time_44 4 rfl ?_
    refine J_aload_n hX dX11_time_46 rfl 0 rfl ?_
    refine J_getR hX dX11_time_47 fl_RX11_71 (ltn ltc_78 hn) lo_78 rfl (rt_78_32 _ _ _ _ _) ?_
    refine J_iconst hX (0 : Int32) dX11_time_50 ic_0 ?_
    refine J_iaload0 hX dX11_time_51 (ltn ltc_99 hn) lay_99 (by decide) ?_
    refine J_icmp_ge hX 143 dX11_time_52 (by decide) h (fun c h => ?_) (fun c h => ?_)
    · refine J_aload_n hX dX11_time_55 rfl 0 rfl ?_
      refine J_getR hX dX11_time_56 fl_RX11_140 (ltn ltc_78 hn) lo_78 rfl (rt_78_55 _ _ _ _ _) ?_
      refine J_iload hX dX11_time_59 4 rfl ?_
      refine J_aload_n hX dX11_time_61 rfl 0 rfl ?_
      refine J_iload hX dX11_time_62 4 rfl ?_
      obtain ⟨r16, m15, h0, h⟩ := bd2_some h
      refine J_callVi (As := [.int v4]) (st := [.int v4, .ref 122]) hX dX11_time_64 cw_RX11_355 (by omega) (c_X11_lostIn hn  h0) (ltn ltc_78 hn) lo_78 (by decide) rfl rfl rfl (Nat.le_of_ble_eq_true rfl) ?_
      clear h0
      refine J_if_ne hX 117 dX11_time_67 (by decide) h (fun c h => ?_) (fun c h => ?_)
      · refine J_aload_n hX dX11_time_70 rfl 0 rfl ?_
        refine J_iload hX dX11_time_71 4 rfl ?_
        obtain ⟨r19, m18, h0, h⟩ := bd2_some h
        refine J_callVi (As := [.int v4]) (st := [.int v4, .ref 122]) hX dX11_time_73 cw_RX11_376 (by omega) (c_X11_awayIn hn  h0) (ltn ltc_78 hn) lo_78 (by decide) rfl rfl rfl (Nat.le_of_ble_eq_true rfl) ?_
        clear h0
        refine J_if_ge hX 117 dX11_time_76 (by decide) h (fun c h => ?_) (fun c h => ?_)
        · refine J_aload_n hX dX11_time_79 rfl 0 rfl ?_
          refine J_iload hX dX11_time_80 4 rfl ?_
          refine J_iload_n hX dX11_time_82 rfl 1 rfl ?_
          obtain ⟨r21, m20, h0, h⟩ := bd2_some h
          refine J_callVi (As := [.int v4, .int v1]) (st := [.int v4, .ref 122]) hX dX11_time_83 cw_RX11_309 (by omega) (c_X11_unitOn hn  h0) (ltn ltc_78 hn) lo_78 (by decide) rfl rfl rfl (Nat.le_of_ble_eq_true rfl) ?_
          clear h0
          refine J_if_lt hX 117 dX11_time_86 (by decide) h (fun c h => ?_) (fun c h => ?_)
          · exact t_X11_time_J117 hX hd0 hn hF v1 v2 v3 v4 v4 (fun w1 w2 w3 w4 m h => ih w1 w2 w3 w4 m h) m20 h
          · refine J_aload_n hX dX11_time_89 rfl 0 rfl ?_
            refine J_getR hX dX11_time_90 fl_RX11_83 (ltn ltc_78 hn) lo_78 rfl (rt_78_36 _ _ _ _ _) ?_
            refine J_iload hX dX11_time_93 4 rfl ?_
            refine J_iaload hX dX11_time_95 (ltn ltc_103 hn) lay_103 h (fun h => ?_)
            refine J_if_lt hX 117 dX11_time_96 (by decide) h (fun c h => ?_) (fun c h => ?_)
            · exact t_X11_time_J117 hX hd0 hn hF v1 v2 v3 v4 v4 (fun w1 w2 w3 w4 m h => ih w1 w2 w3 w4 m h) m20 h
            · refine J_aload_n hX dX11_time_99 rfl 0 rfl ?_
              refine J_aload_n hX dX11_time_100 rfl 0 rfl ?_
              refine J_getR hX dX11_time_101 fl_RX11_83 (ltn ltc_78 hn) lo_78 rfl (rt_78_36 _ _ _ _ _) ?_
              refine J_iload hX dX11_time_104 4 rfl ?_
              refine J_iaload hX dX11_time_106 (ltn ltc_103 hn) lay_103 h (fun h => ?_)
              obtain ⟨r23, m22, h0, h⟩ := bd2_some h
              refine J_callVi (As := [.int (gI m20 103 (ix v4))]) (st := [.int v4, .ref 122]) hX dX11_time_107 cw_RX11_373 (by omega) (c_X11_isUp hn  h0) (ltn ltc_78 hn) lo_78 (by decide) rfl rfl rfl (Nat.le_of_ble_eq_true rfl) ?_
              clear h0
              refine J_if_eq hX 117 dX11_time_110 (by decide) h (fun c h => ?_) (fun c h => ?_)
              · exact t_X11_time_J117 hX hd0 hn hF v1 v2 v3 v4 v4 (fun w1 w2 w3 w4 m h => ih w1 w2 w3 w4 m h) m22 h
              · refine J_iconst hX (1 : Int32) dX11_time_113 ic_1 ?_
                refine J_goto hX 118 dX11_time_114 (by decide) ?_
                exact t_X11_time_J118 hX hd0 hn hF v1 v2 v3 v4 (1 : Int32) v4 (fun w1 w2 w3 w4 m h => ih w1 w2 w3 w4 m h) m22 h
        · exact t_X11_time_J117 hX hd0 hn hF v1 v2 v3 v4 v4 (fun w1 w2 w3 w4 m h => ih w1 w2 w3 w4 m h) m18 h
      · exact t_X11_time_J117 hX hd0 hn hF v1 v2 v3 v4 v4 (fun w1 w2 w3 w4 m h => ih w1 w2 w3 w4 m h) m15 h
    · refine J_iconst hX (0 : Int32) dX11_time_143 ic_0 ?_
      refine J_istore hX [(4, .int (0 : Int32)), (0, .ref 78), (1, .int v1), (2, .int v2), (3, .int v3)] dX11_time_144 (by decide) rfl ?_
      refine J_sub [(0, .ref 78), (1, .int v1), (2, .int v2), (3, .int v3), (4, .int (0 : Int32))] [1, 2, 3, 4, 0] rfl ?_
      exact t_X11_time_L146 hX hd0 hn hF FU v1 v2 v3 (0 : Int32)  m h
theorem t_X11_time {X : XX} {G : GG} {ρ : Nat → Nat} {n t u w v : Nat} {x : Option Nat} {d : Nat} (hX : Ok X G ρ cX11_time 6 RX11 d) (hd0 : 2 ≤ d) (hn : 126 ≤ n) {rE : Int32} {mE : Mm} (hF : Fin' X G ρ n (some .int) (some (.int rE)) (RT t u w v x) mE) {x1 : Int32} {x2 : Int32} {m : Mm} (h : f_X11_time x1 x2 m = some (rE, mE)) : J X G ρ n 6 0 [(0, .ref 78), (1, .int x1), (2, .int x2)] [] (RT t u w v x) m := by
  unfold f_X11_time at h
  refine J_aload_n hX dX11_time_0 rfl 0 rfl ?_
  refine J_iconst hX (0 : Int32) dX11_time_1 ic_0 ?_
  refine J_putI hX dX11_time_2 pl_RX11_152 (ltn ltc_78 hn) lo_78 rfl rfl rfl h (fun m1 h => ?_)
  refine J_aload_n hX dX11_time_5 rfl 0 rfl ?_
  refine J_iload_n hX dX11_time_6 rfl 1 rfl ?_
  obtain ⟨r3, m2, h0, h⟩ := bd2_some h
  refine J_callVi (As := [.int x1]) (st := []) hX dX11_time_7 cw_RX11_385 (by omega) (c_X11_isDisk hn  h0) (ltn ltc_78 hn) lo_78 (by decide) rfl rfl rfl (Nat.le_of_ble_eq_true rfl) ?_
  clear h0
  refine J_if_eq hX 37 dX11_time_10 (by decide) h (fun c h => ?_) (fun c h => ?_)
  · refine J_iconst hX (-1 : Int32) dX11_time_37 ic_m1 ?_
    exact J_ireturn hX dX11_time_38 h hF rfl
  · refine J_aload_n hX dX11_time_13 rfl 0 rfl ?_
    refine J_iload_n hX dX11_time_14 rfl 1 rfl ?_
    obtain ⟨r5, m4, h0, h⟩ := bd2_some h
    refine J_callVi (As := [.int x1]) (st := []) hX dX11_time_15 cw_RX11_373 (by omega) (c_X11_isUp hn  h0) (ltn ltc_78 hn) lo_78 (by decide) rfl rfl rfl (Nat.le_of_ble_eq_true rfl) ?_
    clear h0
    refine J_if_eq hX 37 dX11_time_18 (by decide) h (fun c h => ?_) (fun c h => ?_)
    · refine J_iconst hX (-1 : Int32) dX11_time_37 ic_m1 ?_
      exact J_ireturn hX dX11_time_38 h hF rfl
    · refine J_iload_n hX dX11_time_21 rfl 2 rfl ?_
      refine J_iconst hX (0 : Int32) dX11_time_22 ic_0 ?_
      refine J_aload_n hX dX11_time_23 rfl 0 rfl ?_
      refine J_getR hX dX11_time_24 fl_RX11_13 (ltn ltc_78 hn) lo_78 rfl (rt_78_10 _ _ _ _ _) ?_
      refine J_iconst hX (2 : Int32) dX11_time_27 ic_2 ?_
      refine J_iaload0 hX dX11_time_28 (ltn ltc_80 hn) lay_80 (by decide) ?_
      refine J_iconst hX (1 : Int32) dX11_time_29 ic_1 ?_
      refine J_isub hX dX11_time_30 ?_
      obtain ⟨r7, m6, h0, h⟩ := bd2_some h
      refine J_callSi (As := [.int x2, .int (0 : Int32), .int ((gI m4 80 (ix (2 : Int32))) - (1 : Int32))]) (st := []) hX dX11_time_31 cw_RX11_239 (by omega) (c_X11_within hn  h0) rfl rfl (Nat.le_of_ble_eq_true rfl) ?_
      clear h0
      refine J_if_ne hX 39 dX11_time_34 (by decide) h (fun c h => ?_) (fun c h => ?_)
      · refine J_iconst hX (-1 : Int32) dX11_time_37 ic_m1 ?_
        exact J_ireturn hX dX11_time_38 h hF rfl
      · refine J_iconst hX (0 : Int32) dX11_time_39 ic_0 ?_
        refine J_istore_n hX [(3, .int (0 : Int32)), (0, .ref 78), (1, .int x1), (2, .int x2)] dX11_time_40 rfl (by decide) rfl ?_
        refine J_iconst hX (0 : Int32) dX11_time_41 ic_0 ?_
        refine J_istore hX [(4, .int (0 : Int32)), (3, .int (0 : Int32)), (0, .ref 78), (1, .int x1), (2, .int x2)] dX11_time_42 (by decide) rfl ?_
        refine J_sub [(0, .ref 78), (1, .int x1), (2, .int x2), (3, .int (0 : Int32)), (4, .int (0 : Int32))] [2, 3, 4, 1, 0] rfl ?_
        exact t_X11_time_L44 hX hd0 hn hF FU x1 x2 (0 : Int32) (0 : Int32)  m6 h
theorem c_X11_time {G : GG} {l : Launch} {ρ : Nat → Nat} {n t u w v : Nat} {x : Option Nat} (hn : 126 ≤ n) {x1 : Int32} {x2 : Int32} {m : Mm} {rE : Int32} {mE : Mm} (h : f_X11_time x1 x2 m = some (rE, mE)) : CT G l yX11_time cX11_time 6 (some .int) 2 0 0 ρ n (RT t u w v x) [.ref 78, .int x1, .int x2] m (some (.int rE)) (RT t u w v x) mE := ct_of_J (by decide) rfl (Nat.le_of_ble_eq_true rfl) (fun X hX e1 e2 e3 e4 hQ hr hl => t_X11_time hX (Nat.le_refl _) hn ⟨by rw [hQ, e3, e4], hr, hl⟩ h)
theorem t_X10_bears {X : XX} {G : GG} {ρ : Nat → Nat} {n : Nat} {x : Option Nat} {d : Nat} {t : Nat} {u : Nat} {w : Nat} {v : Nat} (hX : Ok X G ρ cX10_bears 2 RX10 d) (hd0 : 3 ≤ d) (hn : 126 ≤ n) (ht : isTo t) (hu : isTo u) (hw : isWk w) (hv : isWk v) {rE : Int32} {mE : Mm} (hF : Fin' X G ρ n (some .boolean) (some (.int rE)) (RT t u w v x) mE) {x1 : Int32} {m : Mm} (h : f_X10_bears t u w v x1 m = some (rE, mE)) : J X G ρ n 2 0 [(0, .ref 0), (1, .int x1)] [] (RT t u w v x) m := by
  unfold f_X10_bears at h
  refine J_aload_n hX dX10_bears_0 rfl 0 rfl ?_
  refine J_iload_n hX dX10_bears_1 rfl 1 rfl ?_
  obtain ⟨r2, m1, h0, h⟩ := bd2_some h
  refine J_callVi (As := [.int x1]) (st := []) hX dX10_bears_2 cw_RX10_269 (by omega) (c_X10_isUpDisk hn ht hu hw hv h0) (ltn ltc_0 hn) lo_0 (by decide) rfl rfl rfl (Nat.le_of_ble_eq_true rfl) ?_
  clear h0
  refine J_if_eq hX 25 dX10_bears_5 (by decide) h (fun c h => ?_) (fun c h => ?_)
  · refine J_iconst hX (0 : Int32) dX10_bears_25 ic_0 ?_
    exact J_ireturn hX dX10_bears_26 h hF narrow_b0
  · refine J_aload_n hX dX10_bears_8 rfl 0 rfl ?_
    refine J_getR hX dX10_bears_9 fl_RX10_82 (ltn ltc_0 hn) lo_0 rfl (rt_0_12 _ _ _ _ _) ?_
    refine J_iconst hX (1 : Int32) dX10_bears_12 ic_1 ?_
    refine J_iload_n hX dX10_bears_13 rfl 1 rfl ?_
    refine J_ishl hX dX10_bears_14 ?_
    obtain ⟨r4, m3, h0, h⟩ := bd2_some h
    refine J_callVi (As := [.int ((1 : Int32) <<< (x1 &&& 31))]) (st := []) hX dX10_bears_15 cw_RX10_281 (by omega) (c_X5_kills hn  h0) (ltn ltc_76 hn) lo_76 (by decide) rfl rfl rfl (Nat.le_of_ble_eq_true rfl) ?_
    clear h0
    refine J_if_ne hX 25 dX10_bears_18 (by decide) h (fun c h => ?_) (fun c h => ?_)
    · refine J_iconst hX (1 : Int32) dX10_bears_21 ic_1 ?_
      refine J_goto hX 26 dX10_bears_22 (by decide) ?_
      exact J_ireturn hX dX10_bears_26 h hF narrow_b1
    · refine J_iconst hX (0 : Int32) dX10_bears_25 ic_0 ?_
      exact J_ireturn hX dX10_bears_26 h hF narrow_b0
theorem c_X10_bears {G : GG} {l : Launch} {ρ : Nat → Nat} {n : Nat} {x : Option Nat} (hn : 126 ≤ n) {t : Nat} {u : Nat} {w : Nat} {v : Nat} (ht : isTo t) (hu : isTo u) (hw : isWk w) (hv : isWk v) {x1 : Int32} {m : Mm} {rE : Int32} {mE : Mm} (h : f_X10_bears t u w v x1 m = some (rE, mE)) : CT G l yX10_bears cX10_bears 2 (some .boolean) 3 0 0 ρ n (RT t u w v x) [.ref 0, .int x1] m (some (.int rE)) (RT t u w v x) mE := ct_of_J (by decide) rfl (Nat.le_of_ble_eq_true rfl) (fun X hX e1 e2 e3 e4 hQ hr hl => t_X10_bears hX (Nat.le_refl _) hn ht hu hw hv ⟨by rw [hQ, e3, e4], hr, hl⟩ h)
theorem t_X11_bears {X : XX} {G : GG} {ρ : Nat → Nat} {n t u w v : Nat} {x : Option Nat} {d : Nat} (hX : Ok X G ρ cX11_bears 2 RX11 d) (hd0 : 4 ≤ d) (hn : 126 ≤ n) {rE : Int32} {mE : Mm} (hF : Fin' X G ρ n (some .boolean) (some (.int rE)) (RT t u w v x) mE) {x1 : Int32} {m : Mm} (h : f_X11_bears x1 m = some (rE, mE)) : J X G ρ n 2 0 [(0, .ref 78), (1, .int x1)] [] (RT t u w v x) m := by
  unfold f_X11_bears at h
  refine J_aload_n hX dX11_bears_0 rfl 0 rfl ?_
  refine J_iconst hX (0 : Int32) dX11_bears_1 ic_0 ?_
  refine J_putI hX dX11_bears_2 pl_RX11_152 (ltn ltc_78 hn) lo_78 rfl rfl rfl h (fun m1 h => ?_)
  refine J_aload_n hX dX11_bears_5 rfl 0 rfl ?_
  refine J_iload_n hX dX11_bears_6 rfl 1 rfl ?_
  obtain ⟨r3, m2, h0, h⟩ := bd2_some h
  refine J_callVi (As := [.int x1]) (st := []) hX dX11_bears_7 cw_RX11_385 (by omega) (c_X11_isDisk hn  h0) (ltn ltc_78 hn) lo_78 (by decide) rfl rfl rfl (Nat.le_of_ble_eq_true rfl) ?_
  clear h0
  refine J_if_eq hX 38 dX11_bears_10 (by decide) h (fun c h => ?_) (fun c h => ?_)
  · refine J_iconst hX (0 : Int32) dX11_bears_38 ic_0 ?_
    exact J_ireturn hX dX11_bears_39 h hF narrow_b0
  · refine J_aload_n hX dX11_bears_13 rfl 0 rfl ?_
    refine J_iload_n hX dX11_bears_14 rfl 1 rfl ?_
    obtain ⟨r5, m4, h0, h⟩ := bd2_some h
    refine J_callVi (As := [.int x1]) (st := []) hX dX11_bears_15 cw_RX11_373 (by omega) (c_X11_isUp hn  h0) (ltn ltc_78 hn) lo_78 (by decide) rfl rfl rfl (Nat.le_of_ble_eq_true rfl) ?_
    clear h0
    refine J_if_eq hX 38 dX11_bears_18 (by decide) h (fun c h => ?_) (fun c h => ?_)
    · refine J_iconst hX (0 : Int32) dX11_bears_38 ic_0 ?_
      exact J_ireturn hX dX11_bears_39 h hF narrow_b0
    · refine J_aload_n hX dX11_bears_21 rfl 0 rfl ?_
      refine J_iload_n hX dX11_bears_22 rfl 1 rfl ?_
      refine J_iconst hX (-1 : Int32) dX11_bears_23 ic_m1 ?_
      obtain ⟨r7, m6, h0, h⟩ := bd2_some h
      refine J_callVi (As := [.int x1, .int (-1 : Int32)]) (st := []) hX dX11_bears_24 cw_RX11_466 (by omega) (c_X11_deadBy hn  h0) (ltn ltc_78 hn) lo_78 (by decide) rfl rfl rfl (Nat.le_of_ble_eq_true rfl) ?_
      clear h0
      refine J_aload_n hX dX11_bears_27 rfl 0 rfl ?_
      obtain ⟨r9, m8, h0, h⟩ := bd2_some h
      refine J_callVi (As := []) (st := [.int r7]) hX dX11_bears_28 cw_RX11_428 (by omega) (c_X11_deadOnes hn  h0) (ltn ltc_78 hn) lo_78 (by decide) rfl rfl rfl (Nat.le_of_ble_eq_true rfl) ?_
      clear h0
      refine J_icmp_ne hX 38 dX11_bears_31 (by decide) h (fun c h => ?_) (fun c h => ?_)
      · refine J_iconst hX (1 : Int32) dX11_bears_34 ic_1 ?_
        refine J_goto hX 39 dX11_bears_35 (by decide) ?_
        exact J_ireturn hX dX11_bears_39 h hF narrow_b1
      · refine J_iconst hX (0 : Int32) dX11_bears_38 ic_0 ?_
        exact J_ireturn hX dX11_bears_39 h hF narrow_b0
theorem c_X11_bears {G : GG} {l : Launch} {ρ : Nat → Nat} {n t u w v : Nat} {x : Option Nat} (hn : 126 ≤ n) {x1 : Int32} {m : Mm} {rE : Int32} {mE : Mm} (h : f_X11_bears x1 m = some (rE, mE)) : CT G l yX11_bears cX11_bears 2 (some .boolean) 4 0 0 ρ n (RT t u w v x) [.ref 78, .int x1] m (some (.int rE)) (RT t u w v x) mE := ct_of_J (by decide) rfl (Nat.le_of_ble_eq_true rfl) (fun X hX e1 e2 e3 e4 hQ hr hl => t_X11_bears hX (Nat.le_refl _) hn ⟨by rw [hQ, e3, e4], hr, hl⟩ h)
theorem t_X10_risk {X : XX} {G : GG} {ρ : Nat → Nat} {n : Nat} {x : Option Nat} {d : Nat} {t : Nat} {u : Nat} {w : Nat} {v : Nat} (hX : Ok X G ρ cX10_risk 1 RX10 d) (hd0 : 4 ≤ d) (hn : 126 ≤ n) (ht : isTo t) (hu : isTo u) (hw : isWk w) (hv : isWk v) {rE : Int32} {mE : Mm} (hF : Fin' X G ρ n (some .int) (some (.int rE)) (RT t u w v x) mE) {m : Mm} (h : f_X10_risk t u w v m = some (rE, mE)) : J X G ρ n 1 0 [(0, .ref 0)] [] (RT t u w v x) m := by
  unfold f_X10_risk at h
  refine J_aload_n hX dX10_risk_0 rfl 0 rfl ?_
  refine J_getR hX dX10_risk_1 fl_RX10_82 (ltn ltc_0 hn) lo_0 rfl (rt_0_12 _ _ _ _ _) ?_
  obtain ⟨r2, m1, h0, h⟩ := bd2_some h
  refine J_callVi (As := []) (st := []) hX dX10_risk_4 cw_RX10_284 (by omega) (c_X5_deadlyPairs hn  h0) (ltn ltc_76 hn) lo_76 (by decide) rfl rfl rfl (Nat.le_of_ble_eq_true rfl) ?_
  clear h0
  exact J_ireturn hX dX10_risk_7 h hF rfl
theorem c_X10_risk {G : GG} {l : Launch} {ρ : Nat → Nat} {n : Nat} {x : Option Nat} (hn : 126 ≤ n) {t : Nat} {u : Nat} {w : Nat} {v : Nat} (ht : isTo t) (hu : isTo u) (hw : isWk w) (hv : isWk v) {m : Mm} {rE : Int32} {mE : Mm} (h : f_X10_risk t u w v m = some (rE, mE)) : CT G l yX10_risk cX10_risk 1 (some .int) 4 0 0 ρ n (RT t u w v x) [.ref 0] m (some (.int rE)) (RT t u w v x) mE := ct_of_J (by decide) rfl (Nat.le_of_ble_eq_true rfl) (fun X hX e1 e2 e3 e4 hQ hr hl => t_X10_risk hX (Nat.le_refl _) hn ht hu hw hv ⟨by rw [hQ, e3, e4], hr, hl⟩ h)
theorem t_X11_risk_L21 {X : XX} {G : GG} {ρ : Nat → Nat} {n t u w v : Nat} {x : Option Nat} {d : Nat} (hX : Ok X G ρ cX11_risk 4 RX11 d) (hd0 : 4 ≤ d) (hn : 126 ≤ n) {rE : Int32} {mE : Mm} (hF : Fin' X G ρ n (some .int) (some (.int rE)) (RT t u w v x) mE) {v2 : Int32} {K : Int32 → Mm → Option (Int32 × Mm)} (hK : ∀ (w1 : Int32) (m : Mm), K w1 m = some (rE, mE) → J X G ρ n 4 69 [(0, .ref 78), (1, .int w1), (2, .int v2)] [] (RT t u w v x) m) : ∀ (k : Nat) (v1 : Int32) (v3 : Int32) (m : Mm), f_X11_risk_L21 v2 K k v1 v3 m = some (rE, mE) → J X G ρ n 4 21 [(0, .ref 78), (1, .int v1), (2, .int v2), (3, .int v3)] [] (RT t u w v x) m := by
  intro k
  induction k with
  | zero => intro _ _ _ h; rw [f_X11_risk_L21] at h; cases h
  | succ k ih =>
    intro v1 v3 m h
    rw [f_X11_risk_L21] at h
    refine J_iload_n hX dX11_risk_21 rfl 3 rfl ?_
    refine J_iload_n hX dX11_risk_22 rfl 2 rfl ?_
    refine J_icmp_ge hX 69 dX11_risk_23 (by decide) h (fun c h => ?_) (fun c h => ?_)
    · refine J_iload_n hX dX11_risk_26 rfl 1 rfl ?_
      refine J_aload_n hX dX11_risk_27 rfl 0 rfl ?_
      refine J_iload_n hX dX11_risk_28 rfl 2 rfl ?_
      obtain ⟨r3, m2, h0, h⟩ := bd2_some h
      refine J_callVi (As := [.int v2]) (st := [.int v1]) hX dX11_risk_29 cw_RX11_373 (by omega) (c_X11_isUp hn  h0) (ltn ltc_78 hn) lo_78 (by decide) rfl rfl rfl (Nat.le_of_ble_eq_true rfl) ?_
      clear h0
      refine J_if_eq hX 60 dX11_risk_32 (by decide) h (fun c h => ?_) (fun c h => ?_)
      · refine J_iconst hX (0 : Int32) dX11_risk_60 ic_0 ?_
        refine J_iadd hX dX11_risk_61 ?_
        refine J_istore_n hX [(1, .int (v1 + (0 : Int32))), (0, .ref 78), (2, .int v2), (3, .int v3)] dX11_risk_62 rfl (by decide) rfl ?_
        refine J_iinc hX (v3 + (1 : Int32)) [(3, .int (v3 + (1 : Int32))), (1, .int (v1 + (0 : Int32))), (0, .ref 78), (2, .int v2)] dX11_risk_63 3 rfl (congrArg (fun z => v3 + z) ic_1) (by decide) rfl ?_
        refine J_goto hX 21 dX11_risk_66 (by decide) ?_
        refine J_sub [(0, .ref 78), (1, .int (v1 + (0 : Int32))), (2, .int v2), (3, .int (v3 + (1 : Int32)))] [2, 1, 3, 0] rfl ?_
        exact ih (v1 + (0 : Int32)) (v3 + (1 : Int32)) m2 h
      · refine J_aload_n hX dX11_risk_35 rfl 0 rfl ?_
        refine J_iload_n hX dX11_risk_36 rfl 3 rfl ?_
        obtain ⟨r5, m4, h0, h⟩ := bd2_some h
        refine J_callVi (As := [.int v3]) (st := [.int v1]) hX dX11_risk_37 cw_RX11_373 (by omega) (c_X11_isUp hn  h0) (ltn ltc_78 hn) lo_78 (by decide) rfl rfl rfl (Nat.le_of_ble_eq_true rfl) ?_
        clear h0
        refine J_if_eq hX 60 dX11_risk_40 (by decide) h (fun c h => ?_) (fun c h => ?_)
        · refine J_iconst hX (0 : Int32) dX11_risk_60 ic_0 ?_
          refine J_iadd hX dX11_risk_61 ?_
          refine J_istore_n hX [(1, .int (v1 + (0 : Int32))), (0, .ref 78), (2, .int v2), (3, .int v3)] dX11_risk_62 rfl (by decide) rfl ?_
          refine J_iinc hX (v3 + (1 : Int32)) [(3, .int (v3 + (1 : Int32))), (1, .int (v1 + (0 : Int32))), (0, .ref 78), (2, .int v2)] dX11_risk_63 3 rfl (congrArg (fun z => v3 + z) ic_1) (by decide) rfl ?_
          refine J_goto hX 21 dX11_risk_66 (by decide) ?_
          refine J_sub [(0, .ref 78), (1, .int (v1 + (0 : Int32))), (2, .int v2), (3, .int (v3 + (1 : Int32)))] [2, 1, 3, 0] rfl ?_
          exact ih (v1 + (0 : Int32)) (v3 + (1 : Int32)) m4 h
        · refine J_aload_n hX dX11_risk_43 rfl 0 rfl ?_
          refine J_iload_n hX dX11_risk_44 rfl 2 rfl ?_
          refine J_iload_n hX dX11_risk_45 rfl 3 rfl ?_
          obtain ⟨r7, m6, h0, h⟩ := bd2_some h
          refine J_callVi (As := [.int v2, .int v3]) (st := [.int v1]) hX dX11_risk_46 cw_RX11_466 (by omega) (c_X11_deadBy hn  h0) (ltn ltc_78 hn) lo_78 (by decide) rfl rfl rfl (Nat.le_of_ble_eq_true rfl) ?_
          clear h0
          refine J_aload_n hX dX11_risk_49 rfl 0 rfl ?_
          obtain ⟨r9, m8, h0, h⟩ := bd2_some h
          refine J_callVi (As := []) (st := [.int r7, .int v1]) hX dX11_risk_50 cw_RX11_428 (by omega) (c_X11_deadOnes hn  h0) (ltn ltc_78 hn) lo_78 (by decide) rfl rfl rfl (Nat.le_of_ble_eq_true rfl) ?_
          clear h0
          refine J_icmp_le hX 60 dX11_risk_53 (by decide) h (fun c h => ?_) (fun c h => ?_)
          · refine J_iconst hX (1 : Int32) dX11_risk_56 ic_1 ?_
            refine J_goto hX 61 dX11_risk_57 (by decide) ?_
            refine J_iadd hX dX11_risk_61 ?_
            refine J_istore_n hX [(1, .int (v1 + (1 : Int32))), (0, .ref 78), (2, .int v2), (3, .int v3)] dX11_risk_62 rfl (by decide) rfl ?_
            refine J_iinc hX (v3 + (1 : Int32)) [(3, .int (v3 + (1 : Int32))), (1, .int (v1 + (1 : Int32))), (0, .ref 78), (2, .int v2)] dX11_risk_63 3 rfl (congrArg (fun z => v3 + z) ic_1) (by decide) rfl ?_
            refine J_goto hX 21 dX11_risk_66 (by decide) ?_
            refine J_sub [(0, .ref 78), (1, .int (v1 + (1 : Int32))), (2, .int v2), (3, .int (v3 + (1 : Int32)))] [2, 1, 3, 0] rfl ?_
            exact ih (v1 + (1 : Int32)) (v3 + (1 : Int32)) m8 h
          · refine J_iconst hX (0 : Int32) dX11_risk_60 ic_0 ?_
            refine J_iadd hX dX11_risk_61 ?_
            refine J_istore_n hX [(1, .int (v1 + (0 : Int32))), (0, .ref 78), (2, .int v2), (3, .int v3)] dX11_risk_62 rfl (by decide) rfl ?_
            refine J_iinc hX (v3 + (1 : Int32)) [(3, .int (v3 + (1 : Int32))), (1, .int (v1 + (0 : Int32))), (0, .ref 78), (2, .int v2)] dX11_risk_63 3 rfl (congrArg (fun z => v3 + z) ic_1) (by decide) rfl ?_
            refine J_goto hX 21 dX11_risk_66 (by decide) ?_
            refine J_sub [(0, .ref 78), (1, .int (v1 + (0 : Int32))), (2, .int v2), (3, .int (v3 + (1 : Int32)))] [2, 1, 3, 0] rfl ?_
            exact ih (v1 + (0 : Int32)) (v3 + (1 : Int32)) m8 h
    · refine J_sub [(0, .ref 78), (1, .int v1), (2, .int v2)] [0, 1, 2] rfl ?_
      exact hK v1 m h
theorem t_X11_risk_L9 {X : XX} {G : GG} {ρ : Nat → Nat} {n t u w v : Nat} {x : Option Nat} {d : Nat} (hX : Ok X G ρ cX11_risk 4 RX11 d) (hd0 : 4 ≤ d) (hn : 126 ≤ n) {rE : Int32} {mE : Mm} (hF : Fin' X G ρ n (some .int) (some (.int rE)) (RT t u w v x) mE) : ∀ (k : Nat) (v1 : Int32) (v2 : Int32) (m : Mm), f_X11_risk_L9 k v1 v2 m = some (rE, mE) → J X G ρ n 4 9 [(0, .ref 78), (1, .int v1), (2, .int v2)] [] (RT t u w v x) m := by
  intro k
  induction k with
  | zero => intro _ _ _ h; rw [f_X11_risk_L9] at h; cases h
  | succ k ih =>
    intro v1 v2 m h
    rw [f_X11_risk_L9] at h
    refine J_iload_n hX dX11_risk_9 rfl 2 rfl ?_
    refine J_aload_n hX dX11_risk_10 rfl 0 rfl ?_
    refine J_getR hX dX11_risk_11 fl_RX11_13 (ltn ltc_78 hn) lo_78 rfl (rt_78_10 _ _ _ _ _) ?_
    refine J_iconst hX (0 : Int32) dX11_risk_14 ic_0 ?_
    refine J_iaload0 hX dX11_risk_15 (ltn ltc_80 hn) lay_80 (by decide) ?_
    refine J_icmp_ge hX 75 dX11_risk_16 (by decide) h (fun c h => ?_) (fun c h => ?_)
    · refine J_iconst hX (0 : Int32) dX11_risk_19 ic_0 ?_
      refine J_istore_n hX [(3, .int (0 : Int32)), (0, .ref 78), (1, .int v1), (2, .int v2)] dX11_risk_20 rfl (by decide) rfl ?_
      refine J_sub [(0, .ref 78), (1, .int v1), (2, .int v2), (3, .int (0 : Int32))] [1, 2, 3, 0] rfl ?_
      refine t_X11_risk_L21 hX hd0 hn hF (fun w10 m11 h => ?_) FU v1 (0 : Int32) m h
      refine J_iinc hX (v2 + (1 : Int32)) [(2, .int (v2 + (1 : Int32))), (0, .ref 78), (1, .int w10)] dX11_risk_69 2 rfl (congrArg (fun z => v2 + z) ic_1) (by decide) rfl ?_
      refine J_goto hX 9 dX11_risk_72 (by decide) ?_
      refine J_sub [(0, .ref 78), (1, .int w10), (2, .int (v2 + (1 : Int32)))] [1, 2, 0] rfl ?_
      exact ih w10 (v2 + (1 : Int32)) m11 h
    · refine J_iload_n hX dX11_risk_75 rfl 1 rfl ?_
      exact J_ireturn hX dX11_risk_76 h hF rfl
theorem t_X11_risk {X : XX} {G : GG} {ρ : Nat → Nat} {n t u w v : Nat} {x : Option Nat} {d : Nat} (hX : Ok X G ρ cX11_risk 4 RX11 d) (hd0 : 4 ≤ d) (hn : 126 ≤ n) {rE : Int32} {mE : Mm} (hF : Fin' X G ρ n (some .int) (some (.int rE)) (RT t u w v x) mE) {m : Mm} (h : f_X11_risk m = some (rE, mE)) : J X G ρ n 4 0 [(0, .ref 78)] [] (RT t u w v x) m := by
  unfold f_X11_risk at h
  refine J_aload_n hX dX11_risk_0 rfl 0 rfl ?_
  refine J_iconst hX (0 : Int32) dX11_risk_1 ic_0 ?_
  refine J_putI hX dX11_risk_2 pl_RX11_152 (ltn ltc_78 hn) lo_78 rfl rfl rfl h (fun m1 h => ?_)
  refine J_iconst hX (0 : Int32) dX11_risk_5 ic_0 ?_
  refine J_istore_n hX [(1, .int (0 : Int32)), (0, .ref 78)] dX11_risk_6 rfl (by decide) rfl ?_
  refine J_iconst hX (0 : Int32) dX11_risk_7 ic_0 ?_
  refine J_istore_n hX [(2, .int (0 : Int32)), (1, .int (0 : Int32)), (0, .ref 78)] dX11_risk_8 rfl (by decide) rfl ?_
  refine J_sub [(0, .ref 78), (1, .int (0 : Int32)), (2, .int (0 : Int32))] [2, 1, 0] rfl ?_
  exact t_X11_risk_L9 hX hd0 hn hF FU (0 : Int32) (0 : Int32)  m1 h
theorem c_X11_risk {G : GG} {l : Launch} {ρ : Nat → Nat} {n t u w v : Nat} {x : Option Nat} (hn : 126 ≤ n) {m : Mm} {rE : Int32} {mE : Mm} (h : f_X11_risk m = some (rE, mE)) : CT G l yX11_risk cX11_risk 4 (some .int) 4 0 0 ρ n (RT t u w v x) [.ref 78] m (some (.int rE)) (RT t u w v x) mE := ct_of_J (by decide) rfl (Nat.le_of_ble_eq_true rfl) (fun X hX e1 e2 e3 e4 hQ hr hl => t_X11_risk hX (Nat.le_refl _) hn ⟨by rw [hQ, e3, e4], hr, hl⟩ h)
theorem t_X10_grow {X : XX} {G : GG} {ρ : Nat → Nat} {n : Nat} {x : Option Nat} {d : Nat} {t : Nat} {u : Nat} {w : Nat} {v : Nat} (hX : Ok X G ρ cX10_grow 4 RX10 d) (hd0 : 5 ≤ d) (hn : 126 ≤ n) (ht : isTo t) (hu : isTo u) (hw : isWk w) (hv : isWk v) {rE : Int32} {mE : Mm} (hF : Fin' X G ρ n (some .int) (some (.int rE)) (RT t u w v x) mE) {x1 : Int32} {x2 : Int32} {m : Mm} (h : f_X10_grow t u w v x1 x2 m = some (rE, mE)) : J X G ρ n 4 0 [(0, .ref 0), (1, .int x1), (2, .int x2)] [] (RT t u w v x) m := by
  unfold f_X10_grow at h
  refine J_aload_n hX dX10_grow_0 rfl 0 rfl ?_
  refine J_getR hX dX10_grow_1 fl_RX10_50 (ltn ltc_0 hn) lo_0 rfl (rt_0_6 _ _ _ _ _) ?_
  refine J_getI hX dX10_grow_4 fl_RX10_112 (ltn ltc_26 hn) lo_26 rfl ?_
  refine J_if_eq hX 29 dX10_grow_7 (by decide) h (fun c h => ?_) (fun c h => ?_)
  · refine J_iconst hX (-1 : Int32) dX10_grow_29 ic_m1 ?_
    exact J_ireturn hX dX10_grow_30 h hF rfl
  · refine J_iload_n hX dX10_grow_10 rfl 1 rfl ?_
    refine J_iconst hX (1 : Int32) dX10_grow_11 ic_1 ?_
    refine J_icmp_lt hX 29 dX10_grow_12 (by decide) h (fun c h => ?_) (fun c h => ?_)
    · refine J_iconst hX (-1 : Int32) dX10_grow_29 ic_m1 ?_
      exact J_ireturn hX dX10_grow_30 h hF rfl
    · refine J_iload_n hX dX10_grow_15 rfl 1 rfl ?_
      refine J_iconst hX (3 : Int32) dX10_grow_16 ic_3 ?_
      refine J_icmp_gt hX 29 dX10_grow_17 (by decide) h (fun c h => ?_) (fun c h => ?_)
      · refine J_iconst hX (-1 : Int32) dX10_grow_29 ic_m1 ?_
        exact J_ireturn hX dX10_grow_30 h hF rfl
      · refine J_iload_n hX dX10_grow_20 rfl 2 rfl ?_
        refine J_if_lt hX 29 dX10_grow_21 (by decide) h (fun c h => ?_) (fun c h => ?_)
        · refine J_iconst hX (-1 : Int32) dX10_grow_29 ic_m1 ?_
          exact J_ireturn hX dX10_grow_30 h hF rfl
        · refine J_iload_n hX dX10_grow_24 rfl 2 rfl ?_
          refine J_iconst hX (1 : Int32) dX10_grow_25 ic_1 ?_
          refine J_icmp_le hX 31 dX10_grow_26 (by decide) h (fun c h => ?_) (fun c h => ?_)
          · refine J_iconst hX (-1 : Int32) dX10_grow_29 ic_m1 ?_
            exact J_ireturn hX dX10_grow_30 h hF rfl
          · refine J_aload_n hX dX10_grow_31 rfl 0 rfl ?_
            refine J_getR hX dX10_grow_32 fl_RX10_50 (ltn ltc_0 hn) lo_0 rfl (rt_0_6 _ _ _ _ _) ?_
            refine J_getI hX dX10_grow_35 fl_RX10_112 (ltn ltc_26 hn) lo_26 rfl ?_
            refine J_iload_n hX dX10_grow_38 rfl 1 rfl ?_
            refine J_iadd hX dX10_grow_39 ?_
            refine J_istore_n hX [(3, .int ((gI m 26 0) + x1)), (0, .ref 0), (1, .int x1), (2, .int x2)] dX10_grow_40 rfl (by decide) rfl ?_
            refine J_iload_n hX dX10_grow_41 rfl 0 rfl ?_
            refine J_bipush hX (13 : Int32) dX10_grow_42 (by decide) ?_
            refine J_icmp_gt hX 62 dX10_grow_44 (by decide) h (fun c h => ?_) (fun c h => ?_)
            · refine J_iconst hX (-1 : Int32) dX10_grow_62 ic_m1 ?_
              exact J_ireturn hX dX10_grow_63 h hF rfl
            · refine J_aload_n hX dX10_grow_47 rfl 1 rfl ?_
              refine J_getR hX dX10_grow_48 fl_RX10_54 (ltn ltc_0 hn) lo_0 rfl (rt_0_7 _ _ _ _ _) ?_
              refine J_aload_n hX dX10_grow_51 rfl 1 rfl ?_
              refine J_getR hX dX10_grow_52 fl_RX10_19 (ltn ltc_0 hn) lo_0 rfl (rt_0_1 _ _ _ _ _) ?_
              refine J_iload_n hX dX10_grow_55 rfl 0 rfl ?_
              obtain ⟨r2, m1, h0, h⟩ := bd2_some h
              refine J_callVi (As := [.ref t, .int ((gI m 26 0) + x1)]) (st := []) hX dX10_grow_56 cw_RX10_101 (by omega) (c_X4_build hn p_isLa_40 ht h0) (ltn ltc_40 hn) lo_40 (by decide) rfl rfl rfl (Nat.le_of_ble_eq_true rfl) ?_
              clear h0
              refine J_if_ne hX 64 dX10_grow_59 (by decide) h (fun c h => ?_) (fun c h => ?_)
              · refine J_iconst hX (-1 : Int32) dX10_grow_62 ic_m1 ?_
                exact J_ireturn hX dX10_grow_63 h hF rfl
              · refine J_iload_n hX dX10_grow_64 rfl 3 rfl ?_
                refine J_if_ne hX 82 dX10_grow_65 (by decide) h (fun c h => ?_) (fun c h => ?_)
                · refine J_aload_n hX dX10_grow_68 rfl 1 rfl ?_
                  refine J_getR hX dX10_grow_69 fl_RX10_50 (ltn ltc_0 hn) lo_0 rfl (rt_0_6 _ _ _ _ _) ?_
                  refine J_aload_n hX dX10_grow_72 rfl 1 rfl ?_
                  refine J_getR hX dX10_grow_73 fl_RX10_54 (ltn ltc_0 hn) lo_0 rfl (rt_0_7 _ _ _ _ _) ?_
                  obtain ⟨r6, m5, h0, h⟩ := bd2_some h
                  refine J_callVi (As := [.ref 40]) (st := []) hX dX10_grow_76 cw_RX10_287 (by omega) (c_X4_movedIn hn p_isLa_26 p_isLa_40 h0) (ltn ltc_26 hn) lo_26 (by decide) rfl rfl rfl (Nat.le_of_ble_eq_true rfl) ?_
                  clear h0
                  refine J_goto hX 93 dX10_grow_79 (by decide) ?_
                  exact J_ireturn hX dX10_grow_93 h hF rfl
                · refine J_aload_n hX dX10_grow_82 rfl 1 rfl ?_
                  refine J_getR hX dX10_grow_83 fl_RX10_50 (ltn ltc_0 hn) lo_0 rfl (rt_0_6 _ _ _ _ _) ?_
                  obtain ⟨r4, m3, h0, h⟩ := bd2_some h
                  refine J_callVi (As := []) (st := []) hX dX10_grow_86 cw_RX10_291 (by omega) (c_X4_allUnits hn p_isLa_26 h0) (ltn ltc_26 hn) lo_26 (by decide) rfl rfl rfl (Nat.le_of_ble_eq_true rfl) ?_
                  clear h0
                  refine J_iload_n hX dX10_grow_89 rfl 2 rfl ?_
                  refine J_imul hX dX10_grow_90 ?_
                  refine J_iload_n hX dX10_grow_91 rfl 0 rfl ?_
                  refine J_idiv hX dX10_grow_92 h (fun h => ?_)
                  exact J_ireturn hX dX10_grow_93 h hF rfl
theorem c_X10_grow {G : GG} {l : Launch} {ρ : Nat → Nat} {n : Nat} {x : Option Nat} (hn : 126 ≤ n) {t : Nat} {u : Nat} {w : Nat} {v : Nat} (ht : isTo t) (hu : isTo u) (hw : isWk w) (hv : isWk v) {x1 : Int32} {x2 : Int32} {m : Mm} {rE : Int32} {mE : Mm} (h : f_X10_grow t u w v x1 x2 m = some (rE, mE)) : CT G l yX10_grow cX10_grow 4 (some .int) 5 0 0 ρ n (RT t u w v x) [.ref 0, .int x1, .int x2] m (some (.int rE)) (RT t u w v x) mE := ct_of_J (by decide) rfl (Nat.le_of_ble_eq_true rfl) (fun X hX e1 e2 e3 e4 hQ hr hl => t_X10_grow hX (Nat.le_refl _) hn ht hu hw hv ⟨by rw [hQ, e3, e4], hr, hl⟩ h)
theorem t_X11_grow_L119 {X : XX} {G : GG} {ρ : Nat → Nat} {n t u w v : Nat} {x : Option Nat} {d : Nat} (hX : Ok X G ρ cX11_grow 6 RX11 d) (hd0 : 5 ≤ d) (hn : 126 ≤ n) {rE : Int32} {mE : Mm} (hF : Fin' X G ρ n (some .int) (some (.int rE)) (RT t u w v x) mE) : ∀ (k : Nat) (v4 : Int32) (v5 : Int32) (m : Mm), f_X11_grow_L119 k v4 v5 m = some (rE, mE) → J X G ρ n 6 119 [(0, .ref 78), (4, .int v4), (5, .int v5)] [] (RT t u w v x) m := by
  intro k
  induction k with
  | zero => intro _ _ _ h; rw [f_X11_grow_L119] at h; cases h
  | succ k ih =>
    intro v4 v5 m h
    rw [f_X11_grow_L119] at h
    refine J_iload hX dX11_grow_119 2 rfl ?_
    refine J_aload_n hX dX11_grow_121 rfl 0 rfl ?_
    refine J_getR hX dX11_grow_122 fl_RX11_98 (ltn ltc_78 hn) lo_78 rfl (rt_78_41 _ _ _ _ _) ?_
    refine J_iconst hX (0 : Int32) dX11_grow_125 ic_0 ?_
    refine J_iaload0 hX dX11_grow_126 (ltn ltc_108 hn) lay_108 (by decide) ?_
    refine J_aload_n hX dX11_grow_127 rfl 0 rfl ?_
    refine J_getR hX dX11_grow_128 fl_RX11_98 (ltn ltc_78 hn) lo_78 rfl (rt_78_41 _ _ _ _ _) ?_
    refine J_iconst hX (1 : Int32) dX11_grow_131 ic_1 ?_
    refine J_iaload0 hX dX11_grow_132 (ltn ltc_108 hn) lay_108 (by decide) ?_
    refine J_imin hX dX11_grow_133 (by omega) cm_RX11_439 (Nat.le_of_ble_eq_true rfl) ?_
    refine J_icmp_ge hX 217 dX11_grow_136 (by decide) h (fun c h => ?_) (fun c h => ?_)
    · refine J_iload hX dX11_grow_139 1 rfl ?_
      refine J_aload_n hX dX11_grow_141 rfl 0 rfl ?_
      refine J_getR hX dX11_grow_142 fl_RX11_89 (ltn ltc_78 hn) lo_78 rfl (rt_78_38 _ _ _ _ _) ?_
      refine J_aload_n hX dX11_grow_145 rfl 0 rfl ?_
      refine J_getR hX dX11_grow_146 fl_RX11_95 (ltn ltc_78 hn) lo_78 rfl (rt_78_40 _ _ _ _ _) ?_
      refine J_iload hX dX11_grow_149 2 rfl ?_
      refine J_iaload hX dX11_grow_151 (ltn ltc_107 hn) lay_107 h (fun h => ?_)
      refine J_iaload hX dX11_grow_152 (ltn ltc_105 hn) lay_105 h (fun h => ?_)
      refine J_aload_n hX dX11_grow_153 rfl 0 rfl ?_
      refine J_getR hX dX11_grow_154 fl_RX11_89 (ltn ltc_78 hn) lo_78 rfl (rt_78_38 _ _ _ _ _) ?_
      refine J_aload_n hX dX11_grow_157 rfl 0 rfl ?_
      refine J_getR hX dX11_grow_158 fl_RX11_95 (ltn ltc_78 hn) lo_78 rfl (rt_78_40 _ _ _ _ _) ?_
      refine J_sipush hX (160 : Int32) dX11_grow_161 (by decide) ?_
      refine J_iload hX dX11_grow_164 2 rfl ?_
      refine J_iadd hX dX11_grow_166 ?_
      refine J_iaload hX dX11_grow_167 (ltn ltc_107 hn) lay_107 h (fun h => ?_)
      refine J_iaload hX dX11_grow_168 (ltn ltc_105 hn) lay_105 h (fun h => ?_)
      refine J_icmp_ne hX 203 dX11_grow_169 (by decide) h (fun c h => ?_) (fun c h => ?_)
      · refine J_aload_n hX dX11_grow_172 rfl 0 rfl ?_
        refine J_getR hX dX11_grow_173 fl_RX11_92 (ltn ltc_78 hn) lo_78 rfl (rt_78_39 _ _ _ _ _) ?_
        refine J_aload_n hX dX11_grow_176 rfl 0 rfl ?_
        refine J_getR hX dX11_grow_177 fl_RX11_95 (ltn ltc_78 hn) lo_78 rfl (rt_78_40 _ _ _ _ _) ?_
        refine J_iload hX dX11_grow_180 2 rfl ?_
        refine J_iaload hX dX11_grow_182 (ltn ltc_107 hn) lay_107 h (fun h => ?_)
        refine J_iaload hX dX11_grow_183 (ltn ltc_106 hn) lay_106 h (fun h => ?_)
        refine J_aload_n hX dX11_grow_184 rfl 0 rfl ?_
        refine J_getR hX dX11_grow_185 fl_RX11_92 (ltn ltc_78 hn) lo_78 rfl (rt_78_39 _ _ _ _ _) ?_
        refine J_aload_n hX dX11_grow_188 rfl 0 rfl ?_
        refine J_getR hX dX11_grow_189 fl_RX11_95 (ltn ltc_78 hn) lo_78 rfl (rt_78_40 _ _ _ _ _) ?_
        refine J_sipush hX (160 : Int32) dX11_grow_192 (by decide) ?_
        refine J_iload hX dX11_grow_195 2 rfl ?_
        refine J_iadd hX dX11_grow_197 ?_
        refine J_iaload hX dX11_grow_198 (ltn ltc_107 hn) lay_107 h (fun h => ?_)
        refine J_iaload hX dX11_grow_199 (ltn ltc_106 hn) lay_106 h (fun h => ?_)
        refine J_icmp_eq hX 207 dX11_grow_200 (by decide) h (fun c h => ?_) (fun c h => ?_)
        · refine J_iconst hX (0 : Int32) dX11_grow_207 ic_0 ?_
          refine J_iadd hX dX11_grow_208 ?_
          refine J_istore hX [(4, .int (v4 + (0 : Int32))), (0, .ref 78), (5, .int v5)] dX11_grow_209 (by decide) rfl ?_
          refine J_iinc hX (v5 + (1 : Int32)) [(5, .int (v5 + (1 : Int32))), (4, .int (v4 + (0 : Int32))), (0, .ref 78)] dX11_grow_211 2 rfl (congrArg (fun z => v5 + z) ic_1) (by decide) rfl ?_
          refine J_goto hX 119 dX11_grow_214 (by decide) ?_
          refine J_sub [(0, .ref 78), (4, .int (v4 + (0 : Int32))), (5, .int (v5 + (1 : Int32)))] [2, 1, 0] rfl ?_
          exact ih (v4 + (0 : Int32)) (v5 + (1 : Int32)) m h
        · refine J_iconst hX (1 : Int32) dX11_grow_203 ic_1 ?_
          refine J_goto hX 208 dX11_grow_204 (by decide) ?_
          refine J_iadd hX dX11_grow_208 ?_
          refine J_istore hX [(4, .int (v4 + (1 : Int32))), (0, .ref 78), (5, .int v5)] dX11_grow_209 (by decide) rfl ?_
          refine J_iinc hX (v5 + (1 : Int32)) [(5, .int (v5 + (1 : Int32))), (4, .int (v4 + (1 : Int32))), (0, .ref 78)] dX11_grow_211 2 rfl (congrArg (fun z => v5 + z) ic_1) (by decide) rfl ?_
          refine J_goto hX 119 dX11_grow_214 (by decide) ?_
          refine J_sub [(0, .ref 78), (4, .int (v4 + (1 : Int32))), (5, .int (v5 + (1 : Int32)))] [2, 1, 0] rfl ?_
          exact ih (v4 + (1 : Int32)) (v5 + (1 : Int32)) m h
      · refine J_iconst hX (1 : Int32) dX11_grow_203 ic_1 ?_
        refine J_goto hX 208 dX11_grow_204 (by decide) ?_
        refine J_iadd hX dX11_grow_208 ?_
        refine J_istore hX [(4, .int (v4 + (1 : Int32))), (0, .ref 78), (5, .int v5)] dX11_grow_209 (by decide) rfl ?_
        refine J_iinc hX (v5 + (1 : Int32)) [(5, .int (v5 + (1 : Int32))), (4, .int (v4 + (1 : Int32))), (0, .ref 78)] dX11_grow_211 2 rfl (congrArg (fun z => v5 + z) ic_1) (by decide) rfl ?_
        refine J_goto hX 119 dX11_grow_214 (by decide) ?_
        refine J_sub [(0, .ref 78), (4, .int (v4 + (1 : Int32))), (5, .int (v5 + (1 : Int32)))] [2, 1, 0] rfl ?_
        exact ih (v4 + (1 : Int32)) (v5 + (1 : Int32)) m h
    · refine J_iload hX dX11_grow_217 1 rfl ?_
      exact J_ireturn hX dX11_grow_219 h hF rfl
theorem t_X11_grow_L71 {X : XX} {G : GG} {ρ : Nat → Nat} {n t u w v : Nat} {x : Option Nat} {d : Nat} (hX : Ok X G ρ cX11_grow 6 RX11 d) (hd0 : 5 ≤ d) (hn : 126 ≤ n) {rE : Int32} {mE : Mm} (hF : Fin' X G ρ n (some .int) (some (.int rE)) (RT t u w v x) mE) : ∀ (k : Nat) (v1 : Int32) (v3 : Int32) (v4 : Int32) (v5 : Int32) (m : Mm), f_X11_grow_L71 k v1 v3 v4 v5 m = some (rE, mE) → J X G ρ n 6 71 [(0, .ref 78), (1, .int v1), (3, .int v3), (4, .int v4), (5, .int v5)] [] (RT t u w v x) m := by
  intro k
  induction k with
  | zero => intro _ _ _ _ _ h; rw [f_X11_grow_L71] at h; cases h
  | succ k ih =>
    intro v1 v3 v4 v5 m h
    rw [f_X11_grow_L71] at h
    refine J_iload hX dX11_grow_71 4 rfl ?_
    refine J_aload_n hX dX11_grow_73 rfl 0 rfl ?_
    refine J_getR hX dX11_grow_74 fl_RX11_71 (ltn ltc_78 hn) lo_78 rfl (rt_78_32 _ _ _ _ _) ?_
    refine J_iconst hX (0 : Int32) dX11_grow_77 ic_0 ?_
    refine J_iaload0 hX dX11_grow_78 (ltn ltc_99 hn) lay_99 (by decide) ?_
    refine J_icmp_ge hX 100 dX11_grow_79 (by decide) h (fun c h => ?_) (fun c h => ?_)
    · refine J_iload hX dX11_grow_82 3 rfl ?_
      refine J_aload_n hX dX11_grow_84 rfl 0 rfl ?_
      refine J_getR hX dX11_grow_85 fl_RX11_74 (ltn ltc_78 hn) lo_78 rfl (rt_78_33 _ _ _ _ _) ?_
      refine J_iload hX dX11_grow_88 4 rfl ?_
      refine J_iaload hX dX11_grow_90 (ltn ltc_100 hn) lay_100 h (fun h => ?_)
      refine J_iadd hX dX11_grow_91 ?_
      refine J_istore hX [(4, .int (v4 + (gI m 100 (ix v5)))), (0, .ref 78), (1, .int v1), (3, .int v3), (5, .int v5)] dX11_grow_92 (by decide) rfl ?_
      refine J_iinc hX (v5 + (1 : Int32)) [(5, .int (v5 + (1 : Int32))), (4, .int (v4 + (gI m 100 (ix v5)))), (0, .ref 78), (1, .int v1), (3, .int v3)] dX11_grow_94 4 rfl (congrArg (fun z => v5 + z) ic_1) (by decide) rfl ?_
      refine J_goto hX 71 dX11_grow_97 (by decide) ?_
      refine J_sub [(0, .ref 78), (1, .int v1), (3, .int v3), (4, .int (v4 + (gI m 100 (ix v5)))), (5, .int (v5 + (1 : Int32)))] [2, 3, 4, 1, 0] rfl ?_
      exact ih v1 v3 (v4 + (gI m 100 (ix v5))) (v5 + (1 : Int32)) m h
    · refine J_iload hX dX11_grow_100 3 rfl ?_
      refine J_iload_n hX dX11_grow_102 rfl 1 rfl ?_
      refine J_imul hX dX11_grow_103 ?_
      refine J_iload_n hX dX11_grow_104 rfl 2 rfl ?_
      refine J_idiv hX dX11_grow_105 h (fun h => ?_)
      exact J_ireturn hX dX11_grow_106 h hF rfl
theorem t_X11_grow {X : XX} {G : GG} {ρ : Nat → Nat} {n t u w v : Nat} {x : Option Nat} {d : Nat} (hX : Ok X G ρ cX11_grow 6 RX11 d) (hd0 : 5 ≤ d) (hn : 126 ≤ n) {rE : Int32} {mE : Mm} (hF : Fin' X G ρ n (some .int) (some (.int rE)) (RT t u w v x) mE) {x1 : Int32} {x2 : Int32} {m : Mm} (h : f_X11_grow x1 x2 m = some (rE, mE)) : J X G ρ n 6 0 [(0, .ref 78), (1, .int x1), (2, .int x2)] [] (RT t u w v x) m := by
  unfold f_X11_grow at h
  refine J_aload_n hX dX11_grow_0 rfl 0 rfl ?_
  refine J_iconst hX (0 : Int32) dX11_grow_1 ic_0 ?_
  refine J_putI hX dX11_grow_2 pl_RX11_152 (ltn ltc_78 hn) lo_78 rfl rfl rfl h (fun m1 h => ?_)
  refine J_aload_n hX dX11_grow_5 rfl 0 rfl ?_
  refine J_getR hX dX11_grow_6 fl_RX11_13 (ltn ltc_78 hn) lo_78 rfl (rt_78_10 _ _ _ _ _) ?_
  refine J_iconst hX (0 : Int32) dX11_grow_9 ic_0 ?_
  refine J_iaload0 hX dX11_grow_10 (ltn ltc_80 hn) lay_80 (by decide) ?_
  refine J_iload_n hX dX11_grow_11 rfl 1 rfl ?_
  refine J_iadd hX dX11_grow_12 ?_
  refine J_istore_n hX [(3, .int ((gI m1 80 (ix (0 : Int32))) + x1)), (0, .ref 78), (1, .int x1), (2, .int x2)] dX11_grow_13 rfl (by decide) rfl ?_
  refine J_aload_n hX dX11_grow_14 rfl 1 rfl ?_
  refine J_getR hX dX11_grow_15 fl_RX11_13 (ltn ltc_78 hn) lo_78 rfl (rt_78_10 _ _ _ _ _) ?_
  refine J_iconst hX (0 : Int32) dX11_grow_18 ic_0 ?_
  refine J_iaload0 hX dX11_grow_19 (ltn ltc_80 hn) lay_80 (by decide) ?_
  refine J_if_eq hX 58 dX11_grow_20 (by decide) h (fun c h => ?_) (fun c h => ?_)
  · refine J_iconst hX (-1 : Int32) dX11_grow_58 ic_m1 ?_
    exact J_ireturn hX dX11_grow_59 h hF rfl
  · refine J_iload_n hX dX11_grow_23 rfl 2 rfl ?_
    refine J_iconst hX (1 : Int32) dX11_grow_24 ic_1 ?_
    refine J_iconst hX (3 : Int32) dX11_grow_25 ic_3 ?_
    obtain ⟨r3, m2, h0, h⟩ := bd2_some h
    refine J_callSi (As := [.int x1, .int (1 : Int32), .int (3 : Int32)]) (st := []) hX dX11_grow_26 cw_RX11_239 (by omega) (c_X11_within hn  h0) rfl rfl (Nat.le_of_ble_eq_true rfl) ?_
    clear h0
    refine J_if_eq hX 58 dX11_grow_29 (by decide) h (fun c h => ?_) (fun c h => ?_)
    · refine J_iconst hX (-1 : Int32) dX11_grow_58 ic_m1 ?_
      exact J_ireturn hX dX11_grow_59 h hF rfl
    · refine J_iload_n hX dX11_grow_32 rfl 3 rfl ?_
      refine J_iconst hX (0 : Int32) dX11_grow_33 ic_0 ?_
      refine J_iconst hX (1 : Int32) dX11_grow_34 ic_1 ?_
      obtain ⟨r5, m4, h0, h⟩ := bd2_some h
      refine J_callSi (As := [.int x2, .int (0 : Int32), .int (1 : Int32)]) (st := []) hX dX11_grow_35 cw_RX11_239 (by omega) (c_X11_within hn  h0) rfl rfl (Nat.le_of_ble_eq_true rfl) ?_
      clear h0
      refine J_if_eq hX 58 dX11_grow_38 (by decide) h (fun c h => ?_) (fun c h => ?_)
      · refine J_iconst hX (-1 : Int32) dX11_grow_58 ic_m1 ?_
        exact J_ireturn hX dX11_grow_59 h hF rfl
      · refine J_iload_n hX dX11_grow_41 rfl 0 rfl ?_
        refine J_bipush hX (13 : Int32) dX11_grow_42 (by decide) ?_
        refine J_icmp_gt hX 58 dX11_grow_44 (by decide) h (fun c h => ?_) (fun c h => ?_)
        · refine J_iconst hX (-1 : Int32) dX11_grow_58 ic_m1 ?_
          exact J_ireturn hX dX11_grow_59 h hF rfl
        · refine J_aload_n hX dX11_grow_47 rfl 1 rfl ?_
          refine J_iconst hX (0 : Int32) dX11_grow_48 ic_0 ?_
          refine J_iload_n hX dX11_grow_49 rfl 0 rfl ?_
          obtain ⟨r7, m6, h0, h⟩ := bd2_some h
          refine J_callVi (As := [.int (0 : Int32), .int ((gI m1 80 (ix (0 : Int32))) + x1)]) (st := []) hX dX11_grow_50 cw_RX11_276 (by omega) (c_X11_allStripes hn  h0) (ltn ltc_78 hn) lo_78 (by decide) rfl rfl rfl (Nat.le_of_ble_eq_true rfl) ?_
          clear h0
          refine J_bipush hX (40 : Int32) dX11_grow_53 (by decide) ?_
          refine J_icmp_le hX 60 dX11_grow_55 (by decide) h (fun c h => ?_) (fun c h => ?_)
          · refine J_iconst hX (-1 : Int32) dX11_grow_58 ic_m1 ?_
            exact J_ireturn hX dX11_grow_59 h hF rfl
          · refine J_iload_n hX dX11_grow_60 rfl 3 rfl ?_
            refine J_iconst hX (1 : Int32) dX11_grow_61 ic_1 ?_
            refine J_icmp_ne hX 107 dX11_grow_62 (by decide) h (fun c h => ?_) (fun c h => ?_)
            · refine J_iconst hX (0 : Int32) dX11_grow_65 ic_0 ?_
              refine J_istore hX [(4, .int (0 : Int32)), (3, .int ((gI m1 80 (ix (0 : Int32))) + x1)), (0, .ref 78), (1, .int x1), (2, .int x2)] dX11_grow_66 (by decide) rfl ?_
              refine J_iconst hX (0 : Int32) dX11_grow_68 ic_0 ?_
              refine J_istore hX [(5, .int (0 : Int32)), (4, .int (0 : Int32)), (3, .int ((gI m1 80 (ix (0 : Int32))) + x1)), (0, .ref 78), (1, .int x1), (2, .int x2)] dX11_grow_69 (by decide) rfl ?_
              refine J_sub [(0, .ref 78), (1, .int x1), (3, .int ((gI m1 80 (ix (0 : Int32))) + x1)), (4, .int (0 : Int32)), (5, .int (0 : Int32))] [3, 4, 2, 1, 0] rfl ?_
              exact t_X11_grow_L71 hX hd0 hn hF FU x1 ((gI m1 80 (ix (0 : Int32))) + x1) (0 : Int32) (0 : Int32)  m6 h
            · refine J_aload_n hX dX11_grow_107 rfl 1 rfl ?_
              refine J_iconst hX (1 : Int32) dX11_grow_108 ic_1 ?_
              refine J_iload_n hX dX11_grow_109 rfl 0 rfl ?_
              obtain ⟨m8, h0, h⟩ := bd1_some h
              refine J_callVv (As := [.int (1 : Int32), .int ((gI m1 80 (ix (0 : Int32))) + x1)]) (st := []) hX dX11_grow_110 cw_RX11_345 (by omega) (c_X11_laysAll hn  h0) (ltn ltc_78 hn) lo_78 (by decide) rfl rfl rfl (Nat.le_of_ble_eq_true rfl) ?_
              clear h0
              refine J_iconst hX (0 : Int32) dX11_grow_113 ic_0 ?_
              refine J_istore hX [(4, .int (0 : Int32)), (3, .int ((gI m1 80 (ix (0 : Int32))) + x1)), (0, .ref 78), (1, .int x1), (2, .int x2)] dX11_grow_114 (by decide) rfl ?_
              refine J_iconst hX (0 : Int32) dX11_grow_116 ic_0 ?_
              refine J_istore hX [(5, .int (0 : Int32)), (4, .int (0 : Int32)), (3, .int ((gI m1 80 (ix (0 : Int32))) + x1)), (0, .ref 78), (1, .int x1), (2, .int x2)] dX11_grow_117 (by decide) rfl ?_
              refine J_sub [(0, .ref 78), (4, .int (0 : Int32)), (5, .int (0 : Int32))] [3, 1, 0] rfl ?_
              exact t_X11_grow_L119 hX hd0 hn hF FU (0 : Int32) (0 : Int32)  m8 h
theorem c_X11_grow {G : GG} {l : Launch} {ρ : Nat → Nat} {n t u w v : Nat} {x : Option Nat} (hn : 126 ≤ n) {x1 : Int32} {x2 : Int32} {m : Mm} {rE : Int32} {mE : Mm} (h : f_X11_grow x1 x2 m = some (rE, mE)) : CT G l yX11_grow cX11_grow 6 (some .int) 5 0 0 ρ n (RT t u w v x) [.ref 78, .int x1, .int x2] m (some (.int rE)) (RT t u w v x) mE := ct_of_J (by decide) rfl (Nat.le_of_ble_eq_true rfl) (fun X hX e1 e2 e3 e4 hQ hr hl => t_X11_grow hX (Nat.le_refl _) hn ⟨by rw [hQ, e3, e4], hr, hl⟩ h)
theorem t_X6_lostAt_L18 {X : XX} {G : GG} {ρ : Nat → Nat} {n t u w v : Nat} {x : Option Nat} {d : Nat} {a : Nat} (hX : Ok X G ρ cX6_lostAt 5 RX6 d) (hd0 : 0 ≤ d) (hn : 126 ≤ n) (ha : isSt a) {rE : Int32} {mE : Mm} (hF : Fin' X G ρ n (some .int) (some (.int rE)) (RT t u w v x) mE) {v1 : Int32} {v3 : Int32} {K : Int32 → Mm → Option (Int32 × Mm)} (hK : ∀ (w2 : Int32) (m : Mm), K w2 m = some (rE, mE) → J X G ρ n 5 68 [(0, .ref a), (1, .int v1), (2, .int w2), (3, .int v3)] [] (RT t u w v x) m) : ∀ (k : Nat) (v2 : Int32) (v4 : Int32) (m : Mm), f_X6_lostAt_L18 a v1 v3 K k v2 v4 m = some (rE, mE) → J X G ρ n 5 18 [(0, .ref a), (1, .int v1), (2, .int v2), (3, .int v3), (4, .int v4)] [] (RT t u w v x) m := by
  intro k
  induction k with
  | zero => intro _ _ _ h; rw [f_X6_lostAt_L18] at h; cases h
  | succ k ih =>
    intro v2 v4 m h
    rw [f_X6_lostAt_L18] at h
    refine J_iload hX dX6_lostAt_18 4 rfl ?_
    refine J_aload_n hX dX6_lostAt_20 rfl 0 rfl ?_
    refine J_getR hX dX6_lostAt_21 fl_RX6_24 (ltn (lt_isSt_0 ha) hn) (lo_isSt_0 ha) rfl (rt_isSt_0_0 _ _ _ _ _ ha) ?_
    refine J_getR hX dX6_lostAt_24 fl_RX6_61 (ltn ltc_26 hn) lo_26 rfl (rt_26_3 _ _ _ _ _) ?_
    refine J_iload_n hX dX6_lostAt_27 rfl 3 rfl ?_
    refine J_iaload hX dX6_lostAt_28 (ltn ltc_27 hn) lay_27 h (fun h => ?_)
    refine J_icmp_ge hX 68 dX6_lostAt_29 (by decide) h (fun c h => ?_) (fun c h => ?_)
    · refine J_aload_n hX dX6_lostAt_32 rfl 0 rfl ?_
      refine J_getR hX dX6_lostAt_33 fl_RX6_9 (ltn (lt_isSt_0 ha) hn) (lo_isSt_0 ha) rfl (rt_isSt_0_2 _ _ _ _ _ ha) ?_
      refine J_iload_n hX dX6_lostAt_36 rfl 3 rfl ?_
      refine J_iconst hX (5 : Int32) dX6_lostAt_37 ic_5 ?_
      refine J_imul hX dX6_lostAt_38 ?_
      refine J_iload hX dX6_lostAt_39 4 rfl ?_
      refine J_iadd hX dX6_lostAt_41 ?_
      refine J_iaload hX dX6_lostAt_42 (ltn (lt_isSt_1 ha) hn) (lay_isSt_1 ha) h (fun h => ?_)
      refine J_iconst hX (2 : Int32) dX6_lostAt_43 ic_2 ?_
      refine J_icmp_ne hX 62 dX6_lostAt_44 (by decide) h (fun c h => ?_) (fun c h => ?_)
      · refine J_iload_n hX dX6_lostAt_47 rfl 2 rfl ?_
        refine J_iload_n hX dX6_lostAt_48 rfl 1 rfl ?_
        refine J_icmp_ne hX 59 dX6_lostAt_49 (by decide) h (fun c h => ?_) (fun c h => ?_)
        · refine J_iload_n hX dX6_lostAt_52 rfl 3 rfl ?_
          refine J_iconst hX (5 : Int32) dX6_lostAt_53 ic_5 ?_
          refine J_imul hX dX6_lostAt_54 ?_
          refine J_iload hX dX6_lostAt_55 4 rfl ?_
          refine J_iadd hX dX6_lostAt_57 ?_
          exact J_ireturn hX dX6_lostAt_58 h hF rfl
        · refine J_iinc hX (v2 + (1 : Int32)) [(2, .int (v2 + (1 : Int32))), (0, .ref a), (1, .int v1), (3, .int v3), (4, .int v4)] dX6_lostAt_59 2 rfl (congrArg (fun z => v2 + z) ic_1) (by decide) rfl ?_
          refine J_iinc hX (v4 + (1 : Int32)) [(4, .int (v4 + (1 : Int32))), (2, .int (v2 + (1 : Int32))), (0, .ref a), (1, .int v1), (3, .int v3)] dX6_lostAt_62 4 rfl (congrArg (fun z => v4 + z) ic_1) (by decide) rfl ?_
          refine J_goto hX 18 dX6_lostAt_65 (by decide) ?_
          refine J_sub [(0, .ref a), (1, .int v1), (2, .int (v2 + (1 : Int32))), (3, .int v3), (4, .int (v4 + (1 : Int32)))] [2, 3, 1, 4, 0] rfl ?_
          exact ih (v2 + (1 : Int32)) (v4 + (1 : Int32)) m h
      · refine J_iinc hX (v4 + (1 : Int32)) [(4, .int (v4 + (1 : Int32))), (0, .ref a), (1, .int v1), (2, .int v2), (3, .int v3)] dX6_lostAt_62 4 rfl (congrArg (fun z => v4 + z) ic_1) (by decide) rfl ?_
        refine J_goto hX 18 dX6_lostAt_65 (by decide) ?_
        refine J_sub [(0, .ref a), (1, .int v1), (2, .int v2), (3, .int v3), (4, .int (v4 + (1 : Int32)))] [1, 2, 3, 4, 0] rfl ?_
        exact ih v2 (v4 + (1 : Int32)) m h
    · refine J_sub [(0, .ref a), (1, .int v1), (2, .int v2), (3, .int v3)] [0, 1, 2, 3] rfl ?_
      exact hK v2 m h
theorem t_X6_lostAt_L4 {X : XX} {G : GG} {ρ : Nat → Nat} {n t u w v : Nat} {x : Option Nat} {d : Nat} {a : Nat} (hX : Ok X G ρ cX6_lostAt 5 RX6 d) (hd0 : 0 ≤ d) (hn : 126 ≤ n) (ha : isSt a) {rE : Int32} {mE : Mm} (hF : Fin' X G ρ n (some .int) (some (.int rE)) (RT t u w v x) mE) : ∀ (k : Nat) (v1 : Int32) (v2 : Int32) (v3 : Int32) (m : Mm), f_X6_lostAt_L4 a k v1 v2 v3 m = some (rE, mE) → J X G ρ n 5 4 [(0, .ref a), (1, .int v1), (2, .int v2), (3, .int v3)] [] (RT t u w v x) m := by
  intro k
  induction k with
  | zero => intro _ _ _ _ h; rw [f_X6_lostAt_L4] at h; cases h
  | succ k ih =>
    intro v1 v2 v3 m h
    rw [f_X6_lostAt_L4] at h
    refine J_iload_n hX dX6_lostAt_4 rfl 3 rfl ?_
    refine J_aload_n hX dX6_lostAt_5 rfl 0 rfl ?_
    refine J_getR hX dX6_lostAt_6 fl_RX6_24 (ltn (lt_isSt_0 ha) hn) (lo_isSt_0 ha) rfl (rt_isSt_0_0 _ _ _ _ _ ha) ?_
    refine J_getI hX dX6_lostAt_9 fl_RX6_76 (ltn ltc_26 hn) lo_26 rfl ?_
    refine J_icmp_ge hX 74 dX6_lostAt_12 (by decide) h (fun c h => ?_) (fun c h => ?_)
    · refine J_iconst hX (0 : Int32) dX6_lostAt_15 ic_0 ?_
      refine J_istore hX [(4, .int (0 : Int32)), (0, .ref a), (1, .int v1), (2, .int v2), (3, .int v3)] dX6_lostAt_16 (by decide) rfl ?_
      refine J_sub [(0, .ref a), (1, .int v1), (2, .int v2), (3, .int v3), (4, .int (0 : Int32))] [1, 2, 3, 4, 0] rfl ?_
      refine t_X6_lostAt_L18 hX hd0 hn ha hF (fun w1 m2 h => ?_) FU v2 (0 : Int32) m h
      refine J_iinc hX (v3 + (1 : Int32)) [(3, .int (v3 + (1 : Int32))), (0, .ref a), (1, .int v1), (2, .int w1)] dX6_lostAt_68 3 rfl (congrArg (fun z => v3 + z) ic_1) (by decide) rfl ?_
      refine J_goto hX 4 dX6_lostAt_71 (by decide) ?_
      refine J_sub [(0, .ref a), (1, .int v1), (2, .int w1), (3, .int (v3 + (1 : Int32)))] [1, 2, 3, 0] rfl ?_
      exact ih v1 w1 (v3 + (1 : Int32)) m2 h
    · refine J_iconst hX (-1 : Int32) dX6_lostAt_74 ic_m1 ?_
      exact J_ireturn hX dX6_lostAt_75 h hF rfl
theorem t_X6_lostAt {X : XX} {G : GG} {ρ : Nat → Nat} {n t u w v : Nat} {x : Option Nat} {d : Nat} {a : Nat} (hX : Ok X G ρ cX6_lostAt 5 RX6 d) (hd0 : 0 ≤ d) (hn : 126 ≤ n) (ha : isSt a) {rE : Int32} {mE : Mm} (hF : Fin' X G ρ n (some .int) (some (.int rE)) (RT t u w v x) mE) {x1 : Int32} {m : Mm} (h : f_X6_lostAt a x1 m = some (rE, mE)) : J X G ρ n 5 0 [(0, .ref a), (1, .int x1)] [] (RT t u w v x) m := by
  unfold f_X6_lostAt at h
  refine J_iconst hX (0 : Int32) dX6_lostAt_0 ic_0 ?_
  refine J_istore_n hX [(2, .int (0 : Int32)), (0, .ref a), (1, .int x1)] dX6_lostAt_1 rfl (by decide) rfl ?_
  refine J_iconst hX (0 : Int32) dX6_lostAt_2 ic_0 ?_
  refine J_istore_n hX [(3, .int (0 : Int32)), (2, .int (0 : Int32)), (0, .ref a), (1, .int x1)] dX6_lostAt_3 rfl (by decide) rfl ?_
  refine J_sub [(0, .ref a), (1, .int x1), (2, .int (0 : Int32)), (3, .int (0 : Int32))] [2, 3, 1, 0] rfl ?_
  exact t_X6_lostAt_L4 hX hd0 hn ha hF FU x1 (0 : Int32) (0 : Int32)  m h
theorem c_X6_lostAt {G : GG} {l : Launch} {ρ : Nat → Nat} {n t u w v : Nat} {x : Option Nat} (hn : 126 ≤ n) {a : Nat} (ha : isSt a) {x1 : Int32} {m : Mm} {rE : Int32} {mE : Mm} (h : f_X6_lostAt a x1 m = some (rE, mE)) : CT G l yX6_lostAt cX6_lostAt 5 (some .int) 0 0 0 ρ n (RT t u w v x) [.ref a, .int x1] m (some (.int rE)) (RT t u w v x) mE := ct_of_J (by decide) rfl (Nat.le_of_ble_eq_true rfl) (fun X hX e1 e2 e3 e4 hQ hr hl => t_X6_lostAt hX (Nat.le_refl _) hn ha ⟨by rw [hQ, e3, e4], hr, hl⟩ h)
theorem t_X11_lost_L26 {X : XX} {G : GG} {ρ : Nat → Nat} {n t u w v : Nat} {x : Option Nat} {d : Nat} (hX : Ok X G ρ cX11_lost 5 RX11 d) (hd0 : 0 ≤ d) (hn : 126 ≤ n) {rE : Int32} {mE : Mm} (hF : Fin' X G ρ n (some .int) (some (.int rE)) (RT t u w v x) mE) {v1 : Int32} {v3 : Int32} {K : Int32 → Mm → Option (Int32 × Mm)} (hK : ∀ (w2 : Int32) (m : Mm), K w2 m = some (rE, mE) → J X G ρ n 5 80 [(0, .ref 78), (1, .int v1), (2, .int w2), (3, .int v3)] [] (RT t u w v x) m) : ∀ (k : Nat) (v2 : Int32) (v4 : Int32) (m : Mm), f_X11_lost_L26 v1 v3 K k v2 v4 m = some (rE, mE) → J X G ρ n 5 26 [(0, .ref 78), (1, .int v1), (2, .int v2), (3, .int v3), (4, .int v4)] [] (RT t u w v x) m := by
  intro k
  induction k with
  | zero => intro _ _ _ h; rw [f_X11_lost_L26] at h; cases h
  | succ k ih =>
    intro v2 v4 m h
    rw [f_X11_lost_L26] at h
    refine J_iload hX dX11_lost_26 4 rfl ?_
    refine J_aload_n hX dX11_lost_28 rfl 0 rfl ?_
    refine J_getR hX dX11_lost_29 fl_RX11_74 (ltn ltc_78 hn) lo_78 rfl (rt_78_33 _ _ _ _ _) ?_
    refine J_iload_n hX dX11_lost_32 rfl 3 rfl ?_
    refine J_iaload hX dX11_lost_33 (ltn ltc_100 hn) lay_100 h (fun h => ?_)
    refine J_icmp_ge hX 80 dX11_lost_34 (by decide) h (fun c h => ?_) (fun c h => ?_)
    · refine J_aload_n hX dX11_lost_37 rfl 0 rfl ?_
      refine J_getR hX dX11_lost_38 fl_RX11_125 (ltn ltc_78 hn) lo_78 rfl (rt_78_50 _ _ _ _ _) ?_
      refine J_bipush hX (14 : Int32) dX11_lost_41 (by decide) ?_
      refine J_iconst hX (5 : Int32) dX11_lost_43 ic_5 ?_
      refine J_iload_n hX dX11_lost_44 rfl 3 rfl ?_
      refine J_imul hX dX11_lost_45 ?_
      refine J_iadd hX dX11_lost_46 ?_
      refine J_iload hX dX11_lost_47 4 rfl ?_
      refine J_iadd hX dX11_lost_49 ?_
      refine J_iaload hX dX11_lost_50 (ltn ltc_117 hn) lay_117 h (fun h => ?_)
      refine J_iconst hX (2 : Int32) dX11_lost_51 ic_2 ?_
      refine J_icmp_eq hX 58 dX11_lost_52 (by decide) h (fun c h => ?_) (fun c h => ?_)
      · refine J_iload_n hX dX11_lost_58 rfl 2 rfl ?_
        refine J_iload_n hX dX11_lost_59 rfl 1 rfl ?_
        refine J_icmp_ne hX 71 dX11_lost_60 (by decide) h (fun c h => ?_) (fun c h => ?_)
        · refine J_bipush hX (8 : Int32) dX11_lost_63 (by decide) ?_
          refine J_iload_n hX dX11_lost_65 rfl 3 rfl ?_
          refine J_imul hX dX11_lost_66 ?_
          refine J_iload hX dX11_lost_67 4 rfl ?_
          refine J_iadd hX dX11_lost_69 ?_
          exact J_ireturn hX dX11_lost_70 h hF rfl
        · refine J_iinc hX (v2 + (1 : Int32)) [(2, .int (v2 + (1 : Int32))), (0, .ref 78), (1, .int v1), (3, .int v3), (4, .int v4)] dX11_lost_71 2 rfl (congrArg (fun z => v2 + z) ic_1) (by decide) rfl ?_
          refine J_iinc hX (v4 + (1 : Int32)) [(4, .int (v4 + (1 : Int32))), (2, .int (v2 + (1 : Int32))), (0, .ref 78), (1, .int v1), (3, .int v3)] dX11_lost_74 4 rfl (congrArg (fun z => v4 + z) ic_1) (by decide) rfl ?_
          refine J_goto hX 26 dX11_lost_77 (by decide) ?_
          refine J_sub [(0, .ref 78), (1, .int v1), (2, .int (v2 + (1 : Int32))), (3, .int v3), (4, .int (v4 + (1 : Int32)))] [2, 3, 1, 4, 0] rfl ?_
          exact ih (v2 + (1 : Int32)) (v4 + (1 : Int32)) m h
      · refine J_goto hX 74 dX11_lost_55 (by decide) ?_
        refine J_iinc hX (v4 + (1 : Int32)) [(4, .int (v4 + (1 : Int32))), (0, .ref 78), (1, .int v1), (2, .int v2), (3, .int v3)] dX11_lost_74 4 rfl (congrArg (fun z => v4 + z) ic_1) (by decide) rfl ?_
        refine J_goto hX 26 dX11_lost_77 (by decide) ?_
        refine J_sub [(0, .ref 78), (1, .int v1), (2, .int v2), (3, .int v3), (4, .int (v4 + (1 : Int32)))] [1, 2, 3, 4, 0] rfl ?_
        exact ih v2 (v4 + (1 : Int32)) m h
    · refine J_sub [(0, .ref 78), (1, .int v1), (2, .int v2), (3, .int v3)] [0, 1, 2, 3] rfl ?_
      exact hK v2 m h
theorem t_X11_lost_L9 {X : XX} {G : GG} {ρ : Nat → Nat} {n t u w v : Nat} {x : Option Nat} {d : Nat} (hX : Ok X G ρ cX11_lost 5 RX11 d) (hd0 : 0 ≤ d) (hn : 126 ≤ n) {rE : Int32} {mE : Mm} (hF : Fin' X G ρ n (some .int) (some (.int rE)) (RT t u w v x) mE) : ∀ (k : Nat) (v1 : Int32) (v2 : Int32) (v3 : Int32) (m : Mm), f_X11_lost_L9 k v1 v2 v3 m = some (rE, mE) → J X G ρ n 5 9 [(0, .ref 78), (1, .int v1), (2, .int v2), (3, .int v3)] [] (RT t u w v x) m := by
  intro k
  induction k with
  | zero => intro _ _ _ _ h; rw [f_X11_lost_L9] at h; cases h
  | succ k ih =>
    intro v1 v2 v3 m h
    rw [f_X11_lost_L9] at h
    refine J_iload_n hX dX11_lost_9 rfl 3 rfl ?_
    refine J_aload_n hX dX11_lost_10 rfl 0 rfl ?_
    refine J_getR hX dX11_lost_11 fl_RX11_71 (ltn ltc_78 hn) lo_78 rfl (rt_78_32 _ _ _ _ _) ?_
    refine J_iconst hX (0 : Int32) dX11_lost_14 ic_0 ?_
    refine J_iaload0 hX dX11_lost_15 (ltn ltc_99 hn) lay_99 (by decide) ?_
    refine J_icmp_ge hX 86 dX11_lost_16 (by decide) h (fun c h => ?_) (fun c h => ?_)
    · refine J_iload_n hX dX11_lost_19 rfl 1 rfl ?_
      refine J_if_lt hX 86 dX11_lost_20 (by decide) h (fun c h => ?_) (fun c h => ?_)
      · refine J_aload_n hX dX11_lost_86 rfl 0 rfl ?_
        refine J_iconst hX (1 : Int32) dX11_lost_87 ic_1 ?_
        refine J_putI hX dX11_lost_88 pl_RX11_152 (ltn ltc_78 hn) lo_78 rfl rfl rfl h (fun m3 h => ?_)
        refine J_iconst hX (0 : Int32) dX11_lost_91 ic_0 ?_
        exact J_ireturn hX dX11_lost_92 h hF rfl
      · refine J_iconst hX (0 : Int32) dX11_lost_23 ic_0 ?_
        refine J_istore hX [(4, .int (0 : Int32)), (0, .ref 78), (1, .int v1), (2, .int v2), (3, .int v3)] dX11_lost_24 (by decide) rfl ?_
        refine J_sub [(0, .ref 78), (1, .int v1), (2, .int v2), (3, .int v3), (4, .int (0 : Int32))] [1, 2, 3, 4, 0] rfl ?_
        refine t_X11_lost_L26 hX hd0 hn hF (fun w4 m5 h => ?_) FU v2 (0 : Int32) m h
        refine J_iinc hX (v3 + (1 : Int32)) [(3, .int (v3 + (1 : Int32))), (0, .ref 78), (1, .int v1), (2, .int w4)] dX11_lost_80 3 rfl (congrArg (fun z => v3 + z) ic_1) (by decide) rfl ?_
        refine J_goto hX 9 dX11_lost_83 (by decide) ?_
        refine J_sub [(0, .ref 78), (1, .int v1), (2, .int w4), (3, .int (v3 + (1 : Int32)))] [1, 2, 3, 0] rfl ?_
        exact ih v1 w4 (v3 + (1 : Int32)) m5 h
    · refine J_aload_n hX dX11_lost_86 rfl 0 rfl ?_
      refine J_iconst hX (1 : Int32) dX11_lost_87 ic_1 ?_
      refine J_putI hX dX11_lost_88 pl_RX11_152 (ltn ltc_78 hn) lo_78 rfl rfl rfl h (fun m2 h => ?_)
      refine J_iconst hX (0 : Int32) dX11_lost_91 ic_0 ?_
      exact J_ireturn hX dX11_lost_92 h hF rfl
theorem t_X11_lost {X : XX} {G : GG} {ρ : Nat → Nat} {n t u w v : Nat} {x : Option Nat} {d : Nat} (hX : Ok X G ρ cX11_lost 5 RX11 d) (hd0 : 0 ≤ d) (hn : 126 ≤ n) {rE : Int32} {mE : Mm} (hF : Fin' X G ρ n (some .int) (some (.int rE)) (RT t u w v x) mE) {x1 : Int32} {m : Mm} (h : f_X11_lost x1 m = some (rE, mE)) : J X G ρ n 5 0 [(0, .ref 78), (1, .int x1)] [] (RT t u w v x) m := by
  unfold f_X11_lost at h
  refine J_aload_n hX dX11_lost_0 rfl 0 rfl ?_
  refine J_iconst hX (0 : Int32) dX11_lost_1 ic_0 ?_
  refine J_putI hX dX11_lost_2 pl_RX11_152 (ltn ltc_78 hn) lo_78 rfl rfl rfl h (fun m1 h => ?_)
  refine J_iconst hX (0 : Int32) dX11_lost_5 ic_0 ?_
  refine J_istore_n hX [(2, .int (0 : Int32)), (0, .ref 78), (1, .int x1)] dX11_lost_6 rfl (by decide) rfl ?_
  refine J_iconst hX (0 : Int32) dX11_lost_7 ic_0 ?_
  refine J_istore_n hX [(3, .int (0 : Int32)), (2, .int (0 : Int32)), (0, .ref 78), (1, .int x1)] dX11_lost_8 rfl (by decide) rfl ?_
  refine J_sub [(0, .ref 78), (1, .int x1), (2, .int (0 : Int32)), (3, .int (0 : Int32))] [2, 3, 1, 0] rfl ?_
  exact t_X11_lost_L9 hX hd0 hn hF FU x1 (0 : Int32) (0 : Int32)  m1 h
theorem c_X11_lost {G : GG} {l : Launch} {ρ : Nat → Nat} {n t u w v : Nat} {x : Option Nat} (hn : 126 ≤ n) {x1 : Int32} {m : Mm} {rE : Int32} {mE : Mm} (h : f_X11_lost x1 m = some (rE, mE)) : CT G l yX11_lost cX11_lost 5 (some .int) 0 0 0 ρ n (RT t u w v x) [.ref 78, .int x1] m (some (.int rE)) (RT t u w v x) mE := ct_of_J (by decide) rfl (Nat.le_of_ble_eq_true rfl) (fun X hX e1 e2 e3 e4 hQ hr hl => t_X11_lost hX (Nat.le_refl _) hn ⟨by rw [hQ, e3, e4], hr, hl⟩ h)
theorem t_X11_thrown {X : XX} {G : GG} {ρ : Nat → Nat} {n t u w v : Nat} {x : Option Nat} {d : Nat} (hX : Ok X G ρ cX11_thrown 1 RX11 d) (hd0 : 0 ≤ d) (hn : 126 ≤ n) {rE : Int32} {mE : Mm} (hF : Fin' X G ρ n (some .int) (some (.int rE)) (RT t u w v x) mE) {m : Mm} (h : f_X11_thrown m = some (rE, mE)) : J X G ρ n 1 0 [(0, .ref 78)] [] (RT t u w v x) m := by
  unfold f_X11_thrown at h
  refine J_aload_n hX dX11_thrown_0 rfl 0 rfl ?_
  refine J_getI hX dX11_thrown_1 fl_RX11_152 (ltn ltc_78 hn) lo_78 rfl ?_
  exact J_ireturn hX dX11_thrown_4 h hF rfl
theorem c_X11_thrown {G : GG} {l : Launch} {ρ : Nat → Nat} {n t u w v : Nat} {x : Option Nat} (hn : 126 ≤ n) {m : Mm} {rE : Int32} {mE : Mm} (h : f_X11_thrown m = some (rE, mE)) : CT G l yX11_thrown cX11_thrown 1 (some .int) 0 0 0 ρ n (RT t u w v x) [.ref 78] m (some (.int rE)) (RT t u w v x) mE := ct_of_J (by decide) rfl (Nat.le_of_ble_eq_true rfl) (fun X hX e1 e2 e3 e4 hQ hr hl => t_X11_thrown hX (Nat.le_refl _) hn ⟨by rw [hQ, e3, e4], hr, hl⟩ h)
theorem t_X6_addSeen_J40 {X : XX} {G : GG} {ρ : Nat → Nat} {n t u w v : Nat} {x : Option Nat} {d : Nat} {a : Nat} (hX : Ok X G ρ cX6_addSeen 3 RX6 d) (hd0 : 0 ≤ d) (hn : 126 ≤ n) (ha : isSt a) {rE : Int32} {mE : Mm} (hF : Fin' X G ρ n (some .boolean) (some (.int rE)) (RT t u w v x) mE) (s0 : Int32) (s1 : Int32) (m : Mm) (h : f_X6_addSeen_J40 a s0 s1 m = some (rE, mE)) : J X G ρ n 3 40 [(0, .ref a)] [.int s0, .int s1, .ref a] (RT t u w v x) m := by
  unfold f_X6_addSeen_J40 at h
  refine J_ior hX dX6_addSeen_40 ?_
  refine J_putI hX dX6_addSeen_41 pl_RX6_40 (ltn (lt_isSt_0 ha) hn) (lo_isSt_0 ha) rfl rfl rfl h (fun m2 h => ?_)
  refine J_aload_n hX dX6_addSeen_44 rfl 0 rfl ?_
  refine J_dup hX dX6_addSeen_45 rfl ?_
  refine J_getI hX dX6_addSeen_46 fl_RX6_37 (ltn (lt_isSt_0 ha) hn) (lo_isSt_0 ha) rfl ?_
  refine J_iconst hX (1 : Int32) dX6_addSeen_49 ic_1 ?_
  refine J_iadd hX dX6_addSeen_50 ?_
  refine J_putI hX dX6_addSeen_51 pl_RX6_37 (ltn (lt_isSt_0 ha) hn) (lo_isSt_0 ha) rfl rfl rfl h (fun m3 h => ?_)
  refine J_iconst hX (1 : Int32) dX6_addSeen_54 ic_1 ?_
  exact J_ireturn hX dX6_addSeen_55 h hF narrow_b1
theorem t_X6_addSeen {X : XX} {G : GG} {ρ : Nat → Nat} {n t u w v : Nat} {x : Option Nat} {d : Nat} {a : Nat} (hX : Ok X G ρ cX6_addSeen 3 RX6 d) (hd0 : 0 ≤ d) (hn : 126 ≤ n) (ha : isSt a) {rE : Int32} {mE : Mm} (hF : Fin' X G ρ n (some .boolean) (some (.int rE)) (RT t u w v x) mE) {x1 : Int32} {x2 : Int32} {m : Mm} (h : f_X6_addSeen a x1 x2 m = some (rE, mE)) : J X G ρ n 3 0 [(0, .ref a), (1, .int x1), (2, .int x2)] [] (RT t u w v x) m := by
  unfold f_X6_addSeen at h
  refine J_aload_n hX dX6_addSeen_0 rfl 0 rfl ?_
  refine J_getI hX dX6_addSeen_1 fl_RX6_37 (ltn (lt_isSt_0 ha) hn) (lo_isSt_0 ha) rfl ?_
  refine J_bipush hX (8 : Int32) dX6_addSeen_4 (by decide) ?_
  refine J_icmp_lt hX 11 dX6_addSeen_6 (by decide) h (fun c h => ?_) (fun c h => ?_)
  · refine J_aload_n hX dX6_addSeen_11 rfl 0 rfl ?_
    refine J_getR hX dX6_addSeen_12 fl_RX6_21 (ltn (lt_isSt_0 ha) hn) (lo_isSt_0 ha) rfl (rt_isSt_0_6 _ _ _ _ _ ha) ?_
    refine J_aload_n hX dX6_addSeen_15 rfl 0 rfl ?_
    refine J_getI hX dX6_addSeen_16 fl_RX6_37 (ltn (lt_isSt_0 ha) hn) (lo_isSt_0 ha) rfl ?_
    refine J_iload_n hX dX6_addSeen_19 rfl 1 rfl ?_
    refine J_iastore hX dX6_addSeen_20 (ltn (lt_isSt_4 ha) hn) (lay_isSt_4 ha) h (fun m1 h => ?_)
    refine J_aload_n hX dX6_addSeen_21 rfl 0 rfl ?_
    refine J_dup hX dX6_addSeen_22 rfl ?_
    refine J_getI hX dX6_addSeen_23 fl_RX6_40 (ltn (lt_isSt_0 ha) hn) (lo_isSt_0 ha) rfl ?_
    refine J_iload_n hX dX6_addSeen_26 rfl 2 rfl ?_
    refine J_if_eq hX 39 dX6_addSeen_27 (by decide) h (fun c h => ?_) (fun c h => ?_)
    · refine J_iconst hX (0 : Int32) dX6_addSeen_39 ic_0 ?_
      refine J_sub [(0, .ref a)] [0] rfl ?_
      exact t_X6_addSeen_J40 hX hd0 hn ha hF  (0 : Int32) (gI m1 a 7) m1 h
    · refine J_iconst hX (1 : Int32) dX6_addSeen_30 ic_1 ?_
      refine J_aload_n hX dX6_addSeen_31 rfl 0 rfl ?_
      refine J_getI hX dX6_addSeen_32 fl_RX6_37 (ltn (lt_isSt_0 ha) hn) (lo_isSt_0 ha) rfl ?_
      refine J_ishl hX dX6_addSeen_35 ?_
      refine J_goto hX 40 dX6_addSeen_36 (by decide) ?_
      refine J_sub [(0, .ref a)] [0] rfl ?_
      exact t_X6_addSeen_J40 hX hd0 hn ha hF  ((1 : Int32) <<< ((gI m1 a 5) &&& 31)) (gI m1 a 7) m1 h
  · refine J_iconst hX (0 : Int32) dX6_addSeen_9 ic_0 ?_
    exact J_ireturn hX dX6_addSeen_10 h hF narrow_b0
theorem c_X6_addSeen {G : GG} {l : Launch} {ρ : Nat → Nat} {n t u w v : Nat} {x : Option Nat} (hn : 126 ≤ n) {a : Nat} (ha : isSt a) {x1 : Int32} {x2 : Int32} {m : Mm} {rE : Int32} {mE : Mm} (h : f_X6_addSeen a x1 x2 m = some (rE, mE)) : CT G l yX6_addSeen cX6_addSeen 3 (some .boolean) 0 0 0 ρ n (RT t u w v x) [.ref a, .int x1, .int x2] m (some (.int rE)) (RT t u w v x) mE := ct_of_J (by decide) rfl (Nat.le_of_ble_eq_true rfl) (fun X hX e1 e2 e3 e4 hQ hr hl => t_X6_addSeen hX (Nat.le_refl _) hn ha ⟨by rw [hQ, e3, e4], hr, hl⟩ h)
theorem t_X10_see {X : XX} {G : GG} {ρ : Nat → Nat} {n : Nat} {x : Option Nat} {d : Nat} {t : Nat} {u : Nat} {w : Nat} {v : Nat} (hX : Ok X G ρ cX10_see 3 RX10 d) (hd0 : 1 ≤ d) (hn : 126 ≤ n) (ht : isTo t) (hu : isTo u) (hw : isWk w) (hv : isWk v) {rE : Int32} {mE : Mm} (hF : Fin' X G ρ n (some .boolean) (some (.int rE)) (RT t u w v x) mE) {x1 : Int32} {x2 : Int32} {m : Mm} (h : f_X10_see t u w v x1 x2 m = some (rE, mE)) : J X G ρ n 3 0 [(0, .ref 0), (1, .int x1), (2, .int x2)] [] (RT t u w v x) m := by
  unfold f_X10_see at h
  refine J_aload_n hX dX10_see_0 rfl 0 rfl ?_
  refine J_iload_n hX dX10_see_1 rfl 1 rfl ?_
  obtain ⟨r2, m1, h0, h⟩ := bd2_some h
  refine J_callVi (As := [.int x1]) (st := []) hX dX10_see_2 cw_RX10_158 (by omega) (c_X10_isDatum hn ht hu hw hv h0) (ltn ltc_0 hn) lo_0 (by decide) rfl rfl rfl (Nat.le_of_ble_eq_true rfl) ?_
  clear h0
  refine J_if_eq hX 24 dX10_see_5 (by decide) h (fun c h => ?_) (fun c h => ?_)
  · refine J_iconst hX (0 : Int32) dX10_see_24 ic_0 ?_
    exact J_ireturn hX dX10_see_25 h hF narrow_b0
  · refine J_aload_n hX dX10_see_8 rfl 0 rfl ?_
    refine J_getR hX dX10_see_9 fl_RX10_62 (ltn ltc_0 hn) lo_0 rfl (rt_0_8 _ _ _ _ _) ?_
    refine J_iload_n hX dX10_see_12 rfl 1 rfl ?_
    refine J_iload_n hX dX10_see_13 rfl 2 rfl ?_
    obtain ⟨r4, m3, h0, h⟩ := bd2_some h
    refine J_callVi (As := [.int x1, .int x2]) (st := []) hX dX10_see_14 cw_RX10_304 (by omega) (c_X6_addSeen hn p_isSt_54 h0) (ltn ltc_54 hn) lo_54 (by decide) rfl rfl rfl (Nat.le_of_ble_eq_true rfl) ?_
    clear h0
    refine J_if_eq hX 24 dX10_see_17 (by decide) h (fun c h => ?_) (fun c h => ?_)
    · refine J_iconst hX (0 : Int32) dX10_see_24 ic_0 ?_
      exact J_ireturn hX dX10_see_25 h hF narrow_b0
    · refine J_iconst hX (1 : Int32) dX10_see_20 ic_1 ?_
      refine J_goto hX 25 dX10_see_21 (by decide) ?_
      exact J_ireturn hX dX10_see_25 h hF narrow_b1
theorem c_X10_see {G : GG} {l : Launch} {ρ : Nat → Nat} {n : Nat} {x : Option Nat} (hn : 126 ≤ n) {t : Nat} {u : Nat} {w : Nat} {v : Nat} (ht : isTo t) (hu : isTo u) (hw : isWk w) (hv : isWk v) {x1 : Int32} {x2 : Int32} {m : Mm} {rE : Int32} {mE : Mm} (h : f_X10_see t u w v x1 x2 m = some (rE, mE)) : CT G l yX10_see cX10_see 3 (some .boolean) 1 0 0 ρ n (RT t u w v x) [.ref 0, .int x1, .int x2] m (some (.int rE)) (RT t u w v x) mE := ct_of_J (by decide) rfl (Nat.le_of_ble_eq_true rfl) (fun X hX e1 e2 e3 e4 hQ hr hl => t_X10_see hX (Nat.le_refl _) hn ht hu hw hv ⟨by rw [hQ, e3, e4], hr, hl⟩ h)
theorem t_X11_see {X : XX} {G : GG} {ρ : Nat → Nat} {n t u w v : Nat} {x : Option Nat} {d : Nat} (hX : Ok X G ρ cX11_see 3 RX11 d) (hd0 : 1 ≤ d) (hn : 126 ≤ n) {rE : Int32} {mE : Mm} (hF : Fin' X G ρ n (some .boolean) (some (.int rE)) (RT t u w v x) mE) {x1 : Int32} {x2 : Int32} {m : Mm} (h : f_X11_see x1 x2 m = some (rE, mE)) : J X G ρ n 3 0 [(0, .ref 78), (1, .int x1), (2, .int x2)] [] (RT t u w v x) m := by
  unfold f_X11_see at h
  refine J_aload_n hX dX11_see_0 rfl 0 rfl ?_
  refine J_iconst hX (0 : Int32) dX11_see_1 ic_0 ?_
  refine J_putI hX dX11_see_2 pl_RX11_152 (ltn ltc_78 hn) lo_78 rfl rfl rfl h (fun m1 h => ?_)
  refine J_aload_n hX dX11_see_5 rfl 0 rfl ?_
  refine J_iload_n hX dX11_see_6 rfl 1 rfl ?_
  obtain ⟨r3, m2, h0, h⟩ := bd2_some h
  refine J_callVi (As := [.int x1]) (st := []) hX dX11_see_7 cw_RX11_382 (by omega) (c_X11_isDatum hn  h0) (ltn ltc_78 hn) lo_78 (by decide) rfl rfl rfl (Nat.le_of_ble_eq_true rfl) ?_
  clear h0
  refine J_if_eq hX 24 dX11_see_10 (by decide) h (fun c h => ?_) (fun c h => ?_)
  · refine J_iconst hX (0 : Int32) dX11_see_24 ic_0 ?_
    exact J_ireturn hX dX11_see_25 h hF narrow_b0
  · refine J_aload_n hX dX11_see_13 rfl 0 rfl ?_
    refine J_getR hX dX11_see_14 fl_RX11_116 (ltn ltc_78 hn) lo_78 rfl (rt_78_47 _ _ _ _ _) ?_
    refine J_iconst hX (0 : Int32) dX11_see_17 ic_0 ?_
    refine J_iaload0 hX dX11_see_18 (ltn ltc_114 hn) lay_114 (by decide) ?_
    refine J_bipush hX (8 : Int32) dX11_see_19 (by decide) ?_
    refine J_icmp_ne hX 26 dX11_see_21 (by decide) h (fun c h => ?_) (fun c h => ?_)
    · refine J_iconst hX (0 : Int32) dX11_see_24 ic_0 ?_
      exact J_ireturn hX dX11_see_25 h hF narrow_b0
    · refine J_aload_n hX dX11_see_26 rfl 0 rfl ?_
      refine J_getR hX dX11_see_27 fl_RX11_119 (ltn ltc_78 hn) lo_78 rfl (rt_78_48 _ _ _ _ _) ?_
      refine J_aload_n hX dX11_see_30 rfl 0 rfl ?_
      refine J_getR hX dX11_see_31 fl_RX11_116 (ltn ltc_78 hn) lo_78 rfl (rt_78_47 _ _ _ _ _) ?_
      refine J_iconst hX (0 : Int32) dX11_see_34 ic_0 ?_
      refine J_iaload0 hX dX11_see_35 (ltn ltc_114 hn) lay_114 (by decide) ?_
      refine J_iload_n hX dX11_see_36 rfl 1 rfl ?_
      refine J_iastore hX dX11_see_37 (ltn ltc_115 hn) lay_115 h (fun m4 h => ?_)
      refine J_aload_n hX dX11_see_38 rfl 0 rfl ?_
      refine J_getR hX dX11_see_39 fl_RX11_122 (ltn ltc_78 hn) lo_78 rfl (rt_78_49 _ _ _ _ _) ?_
      refine J_aload_n hX dX11_see_42 rfl 0 rfl ?_
      refine J_getR hX dX11_see_43 fl_RX11_116 (ltn ltc_78 hn) lo_78 rfl (rt_78_47 _ _ _ _ _) ?_
      refine J_iconst hX (0 : Int32) dX11_see_46 ic_0 ?_
      refine J_iaload0 hX dX11_see_47 (ltn ltc_114 hn) lay_114 (by decide) ?_
      refine J_iload_n hX dX11_see_48 rfl 2 rfl ?_
      obtain ⟨gB, h⟩ := gd_some h
      refine J_bastore hX dX11_see_49 (ltn ltc_116 hn) lay_116 (vzB gB) h (fun m5 h => ?_)
      refine J_aload_n hX dX11_see_50 rfl 0 rfl ?_
      refine J_getR hX dX11_see_51 fl_RX11_116 (ltn ltc_78 hn) lo_78 rfl (rt_78_47 _ _ _ _ _) ?_
      refine J_iconst hX (0 : Int32) dX11_see_54 ic_0 ?_
      refine J_dup2 hX dX11_see_55 rfl rfl ?_
      refine J_iaload0 hX dX11_see_56 (ltn ltc_114 hn) lay_114 (by decide) ?_
      refine J_iconst hX (1 : Int32) dX11_see_57 ic_1 ?_
      refine J_iadd hX dX11_see_58 ?_
      refine J_iastore0 hX dX11_see_59 (ltn ltc_114 hn) lay_114 (by decide) h (fun m6 h => ?_)
      refine J_iconst hX (1 : Int32) dX11_see_60 ic_1 ?_
      exact J_ireturn hX dX11_see_61 h hF narrow_b1
theorem c_X11_see {G : GG} {l : Launch} {ρ : Nat → Nat} {n t u w v : Nat} {x : Option Nat} (hn : 126 ≤ n) {x1 : Int32} {x2 : Int32} {m : Mm} {rE : Int32} {mE : Mm} (h : f_X11_see x1 x2 m = some (rE, mE)) : CT G l yX11_see cX11_see 3 (some .boolean) 1 0 0 ρ n (RT t u w v x) [.ref 78, .int x1, .int x2] m (some (.int rE)) (RT t u w v x) mE := ct_of_J (by decide) rfl (Nat.le_of_ble_eq_true rfl) (fun X hX e1 e2 e3 e4 hQ hr hl => t_X11_see hX (Nat.le_refl _) hn ⟨by rw [hQ, e3, e4], hr, hl⟩ h)
theorem t_X10_who {X : XX} {G : GG} {ρ : Nat → Nat} {n : Nat} {x : Option Nat} {d : Nat} {t : Nat} {u : Nat} {w : Nat} {v : Nat} (hX : Ok X G ρ cX10_who 1 RX10 d) (hd0 : 5 ≤ d) (hn : 126 ≤ n) (ht : isTo t) (hu : isTo u) (hw : isWk w) (hv : isWk v) {rE : Int32} {mE : Mm} (hF : Fin' X G ρ n (some .int) (some (.int rE)) (RT t u w v x) mE) {m : Mm} (h : f_X10_who t u w v m = some (rE, mE)) : J X G ρ n 1 0 [(0, .ref 0)] [] (RT t u w v x) m := by
  unfold f_X10_who at h
  refine J_aload_n hX dX10_who_0 rfl 0 rfl ?_
  refine J_getR hX dX10_who_1 fl_RX10_82 (ltn ltc_0 hn) lo_0 rfl (rt_0_12 _ _ _ _ _) ?_
  obtain ⟨r2, m1, h0, h⟩ := bd2_some h
  refine J_callVi (As := []) (st := []) hX dX10_who_4 cw_RX10_308 (by omega) (c_X5_suspects hn  h0) (ltn ltc_76 hn) lo_76 (by decide) rfl rfl rfl (Nat.le_of_ble_eq_true rfl) ?_
  clear h0
  exact J_ireturn hX dX10_who_7 h hF rfl
theorem c_X10_who {G : GG} {l : Launch} {ρ : Nat → Nat} {n : Nat} {x : Option Nat} (hn : 126 ≤ n) {t : Nat} {u : Nat} {w : Nat} {v : Nat} (ht : isTo t) (hu : isTo u) (hw : isWk w) (hv : isWk v) {m : Mm} {rE : Int32} {mE : Mm} (h : f_X10_who t u w v m = some (rE, mE)) : CT G l yX10_who cX10_who 1 (some .int) 5 0 0 ρ n (RT t u w v x) [.ref 0] m (some (.int rE)) (RT t u w v x) mE := ct_of_J (by decide) rfl (Nat.le_of_ble_eq_true rfl) (fun X hX e1 e2 e3 e4 hQ hr hl => t_X10_who hX (Nat.le_refl _) hn ht hu hw hv ⟨by rw [hQ, e3, e4], hr, hl⟩ h)
theorem t_X10_ask {X : XX} {G : GG} {ρ : Nat → Nat} {n : Nat} {x : Option Nat} {d : Nat} {t : Nat} {u : Nat} {w : Nat} {v : Nat} (hX : Ok X G ρ cX10_ask 1 RX10 d) (hd0 : 6 ≤ d) (hn : 126 ≤ n) (ht : isTo t) (hu : isTo u) (hw : isWk w) (hv : isWk v) {rE : Int32} {mE : Mm} (hF : Fin' X G ρ n (some .int) (some (.int rE)) (RT t u w v x) mE) {m : Mm} (h : f_X10_ask t u w v m = some (rE, mE)) : J X G ρ n 1 0 [(0, .ref 0)] [] (RT t u w v x) m := by
  unfold f_X10_ask at h
  refine J_aload_n hX dX10_ask_0 rfl 0 rfl ?_
  refine J_getR hX dX10_ask_1 fl_RX10_82 (ltn ltc_0 hn) lo_0 rfl (rt_0_12 _ _ _ _ _) ?_
  obtain ⟨r2, m1, h0, h⟩ := bd2_some h
  refine J_callVi (As := []) (st := []) hX dX10_ask_4 cw_RX10_311 (by omega) (c_X5_bestQuestion hn  h0) (ltn ltc_76 hn) lo_76 (by decide) rfl rfl rfl (Nat.le_of_ble_eq_true rfl) ?_
  clear h0
  exact J_ireturn hX dX10_ask_7 h hF rfl
theorem c_X10_ask {G : GG} {l : Launch} {ρ : Nat → Nat} {n : Nat} {x : Option Nat} (hn : 126 ≤ n) {t : Nat} {u : Nat} {w : Nat} {v : Nat} (ht : isTo t) (hu : isTo u) (hw : isWk w) (hv : isWk v) {m : Mm} {rE : Int32} {mE : Mm} (h : f_X10_ask t u w v m = some (rE, mE)) : CT G l yX10_ask cX10_ask 1 (some .int) 6 0 0 ρ n (RT t u w v x) [.ref 0] m (some (.int rE)) (RT t u w v x) mE := ct_of_J (by decide) rfl (Nat.le_of_ble_eq_true rfl) (fun X hX e1 e2 e3 e4 hQ hr hl => t_X10_ask hX (Nat.le_refl _) hn ht hu hw hv ⟨by rw [hQ, e3, e4], hr, hl⟩ h)
