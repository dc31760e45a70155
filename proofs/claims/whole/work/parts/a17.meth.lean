theorem t_X11_ask_L40 {X : XX} {G : GG} {ρ : Nat → Nat} {n t u w v : Nat} {x : Option Nat} {d : Nat} (hX : Ok X G ρ cX11_ask 8 RX11 d) (hd0 : 5 ≤ d) (hn : 126 ≤ n) {rE : Int32} {mE : Mm} (hF : Fin' X G ρ n (some .int) (some (.int rE)) (RT t u w v x) mE) {v1 : Int32} {v2 : Int32} {v3 : Int32} {v4 : Int32} {v5 : Int32} {K : Int32 → Mm → Option (Int32 × Mm)} (hK : ∀ (w6 : Int32) (m : Mm), K w6 m = some (rE, mE) → J X G ρ n 8 93 [(0, .ref 78), (1, .int v1), (2, .int v2), (3, .int v3), (4, .int v4), (5, .int v5), (6, .int w6)] [] (RT t u w v x) m) : ∀ (k : Nat) (v6 : Int32) (v7 : Int32) (m : Mm), f_X11_ask_L40 v1 v2 v3 v4 v5 K k v6 v7 m = some (rE, mE) → J X G ρ n 8 40 [(0, .ref 78), (1, .int v1), (2, .int v2), (3, .int v3), (4, .int v4), (5, .int v5), (6, .int v6), (7, .int v7)] [] (RT t u w v x) m := by
  intro k
  induction k with
  | zero => intro _ _ _ h; rw [f_X11_ask_L40] at h; cases h
  | succ k ih =>
    intro v6 v7 m h
    rw [f_X11_ask_L40] at h
    refine J_iload hX dX11_ask_40 7 rfl ?_
    refine J_aload_n hX dX11_ask_42 rfl 0 rfl ?_
    refine J_getR hX dX11_ask_43 fl_RX11_13 (ltn ltc_78 hn) lo_78 rfl (rt_78_10 _ _ _ _ _) ?_
    refine J_iconst hX (0 : Int32) dX11_ask_46 ic_0 ?_
    refine J_iaload0 hX dX11_ask_47 (ltn ltc_80 hn) lay_80 (by decide) ?_
    refine J_icmp_ge hX 93 dX11_ask_48 (by decide) h (fun c h => ?_) (fun c h => ?_)
    · refine J_iload hX dX11_ask_51 6 rfl ?_
      refine J_iload_n hX dX11_ask_53 rfl 1 rfl ?_
      refine J_iload hX dX11_ask_54 7 rfl ?_
      obtain ⟨r7, m6, h0, h⟩ := bd2_some h
      refine J_callSi (As := [.int v1, .int v7]) (st := [.int v6]) hX dX11_ask_56 cw_RX11_273 (by omega) (c_X11_isIn hn  h0) rfl rfl (Nat.le_of_ble_eq_true rfl) ?_
      clear h0
      refine J_if_eq hX 83 dX11_ask_59 (by decide) h (fun c h => ?_) (fun c h => ?_)
      · refine J_iconst hX (0 : Int32) dX11_ask_83 ic_0 ?_
        refine J_iadd hX dX11_ask_84 ?_
        refine J_istore hX [(6, .int (v6 + (0 : Int32))), (0, .ref 78), (1, .int v1), (2, .int v2), (3, .int v3), (4, .int v4), (5, .int v5), (7, .int v7)] dX11_ask_85 (by decide) rfl ?_
        refine J_iinc hX (v7 + (1 : Int32)) [(7, .int (v7 + (1 : Int32))), (6, .int (v6 + (0 : Int32))), (0, .ref 78), (1, .int v1), (2, .int v2), (3, .int v3), (4, .int v4), (5, .int v5)] dX11_ask_87 7 rfl (congrArg (fun z => v7 + z) ic_1) (by decide) rfl ?_
        refine J_goto hX 40 dX11_ask_90 (by decide) ?_
        refine J_sub [(0, .ref 78), (1, .int v1), (2, .int v2), (3, .int v3), (4, .int v4), (5, .int v5), (6, .int (v6 + (0 : Int32))), (7, .int (v7 + (1 : Int32)))] [2, 3, 4, 5, 6, 7, 1, 0] rfl ?_
        exact ih (v6 + (0 : Int32)) (v7 + (1 : Int32)) m6 h
      · refine J_aload_n hX dX11_ask_62 rfl 0 rfl ?_
        refine J_getR hX dX11_ask_63 fl_RX11_146 (ltn ltc_78 hn) lo_78 rfl (rt_78_57 _ _ _ _ _) ?_
        refine J_sipush hX (160 : Int32) dX11_ask_66 (by decide) ?_
        refine J_iload hX dX11_ask_69 7 rfl ?_
        refine J_imul hX dX11_ask_71 ?_
        refine J_iload hX dX11_ask_72 5 rfl ?_
        refine J_iadd hX dX11_ask_74 ?_
        refine J_baload hX dX11_ask_75 (ltn ltc_124 hn) lay_124 h (fun h => ?_)
        refine J_if_eq hX 83 dX11_ask_76 (by decide) h (fun c h => ?_) (fun c h => ?_)
        · refine J_iconst hX (0 : Int32) dX11_ask_83 ic_0 ?_
          refine J_iadd hX dX11_ask_84 ?_
          refine J_istore hX [(6, .int (v6 + (0 : Int32))), (0, .ref 78), (1, .int v1), (2, .int v2), (3, .int v3), (4, .int v4), (5, .int v5), (7, .int v7)] dX11_ask_85 (by decide) rfl ?_
          refine J_iinc hX (v7 + (1 : Int32)) [(7, .int (v7 + (1 : Int32))), (6, .int (v6 + (0 : Int32))), (0, .ref 78), (1, .int v1), (2, .int v2), (3, .int v3), (4, .int v4), (5, .int v5)] dX11_ask_87 7 rfl (congrArg (fun z => v7 + z) ic_1) (by decide) rfl ?_
          refine J_goto hX 40 dX11_ask_90 (by decide) ?_
          refine J_sub [(0, .ref 78), (1, .int v1), (2, .int v2), (3, .int v3), (4, .int v4), (5, .int v5), (6, .int (v6 + (0 : Int32))), (7, .int (v7 + (1 : Int32)))] [2, 3, 4, 5, 6, 7, 1, 0] rfl ?_
          exact ih (v6 + (0 : Int32)) (v7 + (1 : Int32)) m6 h
        · refine J_iconst hX (1 : Int32) dX11_ask_79 ic_1 ?_
          refine J_goto hX 84 dX11_ask_80 (by decide) ?_
          refine J_iadd hX dX11_ask_84 ?_
          refine J_istore hX [(6, .int (v6 + (1 : Int32))), (0, .ref 78), (1, .int v1), (2, .int v2), (3, .int v3), (4, .int v4), (5, .int v5), (7, .int v7)] dX11_ask_85 (by decide) rfl ?_
          refine J_iinc hX (v7 + (1 : Int32)) [(7, .int (v7 + (1 : Int32))), (6, .int (v6 + (1 : Int32))), (0, .ref 78), (1, .int v1), (2, .int v2), (3, .int v3), (4, .int v4), (5, .int v5)] dX11_ask_87 7 rfl (congrArg (fun z => v7 + z) ic_1) (by decide) rfl ?_
          refine J_goto hX 40 dX11_ask_90 (by decide) ?_
          refine J_sub [(0, .ref 78), (1, .int v1), (2, .int v2), (3, .int v3), (4, .int v4), (5, .int v5), (6, .int (v6 + (1 : Int32))), (7, .int (v7 + (1 : Int32)))] [2, 3, 4, 5, 6, 7, 1, 0] rfl ?_
          exact ih (v6 + (1 : Int32)) (v7 + (1 : Int32)) m6 h
    · refine J_sub [(0, .ref 78), (1, .int v1), (2, .int v2), (3, .int v3), (4, .int v4), (5, .int v5), (6, .int v6)] [0, 1, 2, 3, 4, 5, 6] rfl ?_
      exact hK v6 m h
theorem t_X11_ask_L23 {X : XX} {G : GG} {ρ : Nat → Nat} {n t u w v : Nat} {x : Option Nat} {d : Nat} (hX : Ok X G ρ cX11_ask 8 RX11 d) (hd0 : 5 ≤ d) (hn : 126 ≤ n) {rE : Int32} {mE : Mm} (hF : Fin' X G ρ n (some .int) (some (.int rE)) (RT t u w v x) mE) : ∀ (k : Nat) (v1 : Int32) (v2 : Int32) (v3 : Int32) (v4 : Int32) (v5 : Int32) (m : Mm), f_X11_ask_L23 k v1 v2 v3 v4 v5 m = some (rE, mE) → J X G ρ n 8 23 [(0, .ref 78), (1, .int v1), (2, .int v2), (3, .int v3), (4, .int v4), (5, .int v5)] [] (RT t u w v x) m := by
  intro k
  induction k with
  | zero => intro _ _ _ _ _ _ h; rw [f_X11_ask_L23] at h; cases h
  | succ k ih =>
    intro v1 v2 v3 v4 v5 m h
    rw [f_X11_ask_L23] at h
    refine J_iload hX dX11_ask_23 5 rfl ?_
    refine J_aload_n hX dX11_ask_25 rfl 0 rfl ?_
    refine J_getR hX dX11_ask_26 fl_RX11_98 (ltn ltc_78 hn) lo_78 rfl (rt_78_41 _ _ _ _ _) ?_
    refine J_iconst hX (0 : Int32) dX11_ask_29 ic_0 ?_
    refine J_iaload0 hX dX11_ask_30 (ltn ltc_108 hn) lay_108 (by decide) ?_
    refine J_icmp_ge hX 126 dX11_ask_31 (by decide) h (fun c h => ?_) (fun c h => ?_)
    · refine J_iconst hX (0 : Int32) dX11_ask_34 ic_0 ?_
      refine J_istore hX [(6, .int (0 : Int32)), (0, .ref 78), (1, .int v1), (2, .int v2), (3, .int v3), (4, .int v4), (5, .int v5)] dX11_ask_35 (by decide) rfl ?_
      refine J_iconst hX (0 : Int32) dX11_ask_37 ic_0 ?_
      refine J_istore hX [(7, .int (0 : Int32)), (6, .int (0 : Int32)), (0, .ref 78), (1, .int v1), (2, .int v2), (3, .int v3), (4, .int v4), (5, .int v5)] dX11_ask_38 (by decide) rfl ?_
      refine J_sub [(0, .ref 78), (1, .int v1), (2, .int v2), (3, .int v3), (4, .int v4), (5, .int v5), (6, .int (0 : Int32)), (7, .int (0 : Int32))] [2, 3, 4, 5, 6, 7, 1, 0] rfl ?_
      refine t_X11_ask_L40 hX hd0 hn hF (fun w8 m9 h => ?_) FU (0 : Int32) (0 : Int32) m h
      refine J_iload hX dX11_ask_93 6 rfl ?_
      refine J_iload_n hX dX11_ask_95 rfl 2 rfl ?_
      refine J_iload hX dX11_ask_96 6 rfl ?_
      refine J_isub hX dX11_ask_98 ?_
      refine J_imax hX dX11_ask_99 (by omega) cm_RX11_434 (Nat.le_of_ble_eq_true rfl) ?_
      refine J_istore hX [(6, .int (imax w8 (v2 - w8))), (0, .ref 78), (1, .int v1), (2, .int v2), (3, .int v3), (4, .int v4), (5, .int v5)] dX11_ask_102 (by decide) rfl ?_
      refine J_iload hX dX11_ask_104 0 rfl ?_
      refine J_iload_n hX dX11_ask_106 rfl 4 rfl ?_
      refine J_icmp_lt hX 113 dX11_ask_107 (by decide) h (fun c h => ?_) (fun c h => ?_)
      · refine J_iload hX dX11_ask_113 0 rfl ?_
        refine J_istore_n hX [(3, .int (imax w8 (v2 - w8))), (6, .int (imax w8 (v2 - w8))), (0, .ref 78), (1, .int v1), (2, .int v2), (4, .int v4), (5, .int v5)] dX11_ask_115 rfl (by decide) rfl ?_
        refine J_iload hX dX11_ask_116 6 rfl ?_
        refine J_istore hX [(4, .int v5), (3, .int (imax w8 (v2 - w8))), (6, .int (imax w8 (v2 - w8))), (0, .ref 78), (1, .int v1), (2, .int v2), (5, .int v5)] dX11_ask_118 (by decide) rfl ?_
        refine J_iinc hX (v5 + (1 : Int32)) [(5, .int (v5 + (1 : Int32))), (4, .int v5), (3, .int (imax w8 (v2 - w8))), (6, .int (imax w8 (v2 - w8))), (0, .ref 78), (1, .int v1), (2, .int v2)] dX11_ask_120 6 rfl (congrArg (fun z => v5 + z) ic_1) (by decide) rfl ?_
        refine J_goto hX 23 dX11_ask_123 (by decide) ?_
        refine J_sub [(0, .ref 78), (1, .int v1), (2, .int v2), (3, .int (imax w8 (v2 - w8))), (4, .int v5), (5, .int (v5 + (1 : Int32)))] [4, 5, 6, 2, 1, 0] rfl ?_
        exact ih v1 v2 (imax w8 (v2 - w8)) v5 (v5 + (1 : Int32)) m9 h
      · refine J_goto hX 120 dX11_ask_110 (by decide) ?_
        refine J_iinc hX (v5 + (1 : Int32)) [(5, .int (v5 + (1 : Int32))), (6, .int (imax w8 (v2 - w8))), (0, .ref 78), (1, .int v1), (2, .int v2), (3, .int v3), (4, .int v4)] dX11_ask_120 6 rfl (congrArg (fun z => v5 + z) ic_1) (by decide) rfl ?_
        refine J_goto hX 23 dX11_ask_123 (by decide) ?_
        refine J_sub [(0, .ref 78), (1, .int v1), (2, .int v2), (3, .int v3), (4, .int v4), (5, .int (v5 + (1 : Int32)))] [2, 3, 4, 5, 6, 0] rfl ?_
        exact ih v1 v2 v3 v4 (v5 + (1 : Int32)) m9 h
    · refine J_iload hX dX11_ask_126 4 rfl ?_
      exact J_ireturn hX dX11_ask_128 h hF rfl
theorem t_X11_ask {X : XX} {G : GG} {ρ : Nat → Nat} {n t u w v : Nat} {x : Option Nat} {d : Nat} (hX : Ok X G ρ cX11_ask 8 RX11 d) (hd0 : 5 ≤ d) (hn : 126 ≤ n) {rE : Int32} {mE : Mm} (hF : Fin' X G ρ n (some .int) (some (.int rE)) (RT t u w v x) mE) {m : Mm} (h : f_X11_ask m = some (rE, mE)) : J X G ρ n 8 0 [(0, .ref 78)] [] (RT t u w v x) m := by
  unfold f_X11_ask at h
  refine J_aload_n hX dX11_ask_0 rfl 0 rfl ?_
  refine J_iconst hX (0 : Int32) dX11_ask_1 ic_0 ?_
  refine J_putI hX dX11_ask_2 pl_RX11_152 (ltn ltc_78 hn) lo_78 rfl rfl rfl h (fun m1 h => ?_)
  refine J_aload_n hX dX11_ask_5 rfl 0 rfl ?_
  obtain ⟨r3, m2, h0, h⟩ := bd2_some h
  refine J_callVi (As := []) (st := []) hX dX11_ask_6 cw_RX11_478 (by omega) (c_X11_who hn  h0) (ltn ltc_78 hn) lo_78 (by decide) rfl rfl rfl (Nat.le_of_ble_eq_true rfl) ?_
  clear h0
  refine J_istore_n hX [(1, .int r3), (0, .ref 78)] dX11_ask_9 rfl (by decide) rfl ?_
  refine J_iload_n hX dX11_ask_10 rfl 0 rfl ?_
  obtain ⟨r5, m4, h0, h⟩ := bd2_some h
  refine J_callSi (As := [.int r3]) (st := []) hX dX11_ask_11 cw_RX11_481 (by omega) (c_X11_bits hn  h0) rfl rfl (Nat.le_of_ble_eq_true rfl) ?_
  clear h0
  refine J_istore_n hX [(2, .int r5), (1, .int r3), (0, .ref 78)] dX11_ask_14 rfl (by decide) rfl ?_
  refine J_iload_n hX dX11_ask_15 rfl 0 rfl ?_
  refine J_istore_n hX [(3, .int r5), (2, .int r5), (1, .int r3), (0, .ref 78)] dX11_ask_16 rfl (by decide) rfl ?_
  refine J_iconst hX (-1 : Int32) dX11_ask_17 ic_m1 ?_
  refine J_istore hX [(4, .int (-1 : Int32)), (3, .int r5), (2, .int r5), (1, .int r3), (0, .ref 78)] dX11_ask_18 (by decide) rfl ?_
  refine J_iconst hX (0 : Int32) dX11_ask_20 ic_0 ?_
  refine J_istore hX [(5, .int (0 : Int32)), (4, .int (-1 : Int32)), (3, .int r5), (2, .int r5), (1, .int r3), (0, .ref 78)] dX11_ask_21 (by decide) rfl ?_
  refine J_sub [(0, .ref 78), (1, .int r3), (2, .int r5), (3, .int r5), (4, .int (-1 : Int32)), (5, .int (0 : Int32))] [5, 4, 3, 2, 1, 0] rfl ?_
  exact t_X11_ask_L23 hX hd0 hn hF FU r3 r5 r5 (-1 : Int32) (0 : Int32)  m4 h
theorem c_X11_ask {G : GG} {l : Launch} {ρ : Nat → Nat} {n t u w v : Nat} {x : Option Nat} (hn : 126 ≤ n) {m : Mm} {rE : Int32} {mE : Mm} (h : f_X11_ask m = some (rE, mE)) : CT G l yX11_ask cX11_ask 8 (some .int) 5 0 0 ρ n (RT t u w v x) [.ref 78] m (some (.int rE)) (RT t u w v x) mE := ct_of_J (by decide) rfl (Nat.le_of_ble_eq_true rfl) (fun X hX e1 e2 e3 e4 hQ hr hl => t_X11_ask hX (Nat.le_refl _) hn ⟨by rw [hQ, e3, e4], hr, hl⟩ h)
theorem t_X10_loads_J79 {X : XX} {G : GG} {ρ : Nat → Nat} {x : Option Nat} {d : Nat} {t : Nat} {u : Nat} {w : Nat} {v : Nat} (hX : Ok X G ρ cX10_loads 5 RX10 d) (hd0 : 6 ≤ d) (hn : 126 ≤ 126) (ht : isTo t) (hu : isTo u) (hw : isWk w) (hv : isWk v) {rE : Int32} {mE : Mm} (hF : Fin' X G ρ 126 (some .int) (some (.int rE)) (RT t u w v x) mE) (v3 : Int32) (m : Mm) (h : f_X10_loads_J79 t u w v v3 m = some (rE, mE)) : J X G ρ 126 5 79 [(0, .ref 0), (3, .int v3)] [] (RT t u w v x) m := by
  unfold f_X10_loads_J79 at h
  refine J_iload_n hX dX10_loads_79 rfl 1 rfl ?_
  refine J_split h (fun c0 h => ?_) (fun c0 h => ?_)
  · refine J_look hX 108 dX10_loads_80 (by decide) (by rw [c0]; decide) (by decide) ?_
    refine J_aload_n hX dX10_loads_108 rfl 0 rfl ?_
    refine J_getR hX dX10_loads_109 fl_RX10_66 (ltn ltc_0 hn) lo_0 rfl (rt_0_9 _ _ _ _ _) ?_
    obtain ⟨r3, m2, h0, h⟩ := bd2_some h
    refine J_callVi (As := []) (st := []) hX dX10_loads_112 cw_RX10_225 (by omega) (c_X6_allLoads hn p_isSt_59 h0) (ltn ltc_59 hn) lo_59 (by decide) rfl rfl rfl (Nat.le_of_ble_eq_true rfl) ?_
    clear h0
    refine J_aload_n hX dX10_loads_115 rfl 0 rfl ?_
    refine J_getR hX dX10_loads_116 fl_RX10_62 (ltn ltc_0 hn) lo_0 rfl (rt_0_8 _ _ _ _ _) ?_
    obtain ⟨r5, m4, h0, h⟩ := bd2_some h
    refine J_callVi (As := []) (st := [.int r3]) hX dX10_loads_119 cw_RX10_225 (by omega) (c_X6_allLoads hn p_isSt_54 h0) (ltn ltc_54 hn) lo_54 (by decide) rfl rfl rfl (Nat.le_of_ble_eq_true rfl) ?_
    clear h0
    refine J_isub hX dX10_loads_122 ?_
    exact J_ireturn hX dX10_loads_123 h hF rfl
  · refine J_split h (fun c1 h => ?_) (fun c1 h => ?_)
    · refine J_look hX 124 dX10_loads_80 (by decide) (by rw [c1]; decide) (by decide) ?_
      refine J_aload_n hX dX10_loads_124 rfl 0 rfl ?_
      refine J_getR hX dX10_loads_125 fl_RX10_66 (ltn ltc_0 hn) lo_0 rfl (rt_0_9 _ _ _ _ _) ?_
      obtain ⟨r7, m6, h0, h⟩ := bd2_some h
      refine J_callVi (As := []) (st := []) hX dX10_loads_128 cw_RX10_229 (by omega) (c_X6_deadStripes hn p_isSt_59 h0) (ltn ltc_59 hn) lo_59 (by decide) rfl rfl rfl (Nat.le_of_ble_eq_true rfl) ?_
      clear h0
      exact J_ireturn hX dX10_loads_131 h hF rfl
    · refine J_look hX 132 dX10_loads_80 (by decide) (by rw [lv_osw c0 (by decide)]; rw [lv_osw c1 (by decide)]; rfl) (by decide) ?_
      refine J_aload_n hX dX10_loads_132 rfl 0 rfl ?_
      refine J_getR hX dX10_loads_133 fl_RX10_66 (ltn ltc_0 hn) lo_0 rfl (rt_0_9 _ _ _ _ _) ?_
      refine J_getR hX dX10_loads_136 fl_RX10_188 (ltn ltc_59 hn) lo_59 rfl (rt_59_4 _ _ _ _ _) ?_
      refine J_aload_n hX dX10_loads_139 rfl 0 rfl ?_
      refine J_getR hX dX10_loads_140 fl_RX10_50 (ltn ltc_0 hn) lo_0 rfl (rt_0_6 _ _ _ _ _) ?_
      refine J_getI hX dX10_loads_143 fl_RX10_112 (ltn ltc_26 hn) lo_26 rfl ?_
      obtain ⟨r9, m8, h0, h⟩ := bd2_some h
      refine J_callSi (As := [.ref 62, .int (gI m 26 0)]) (st := []) hX dX10_loads_146 cw_RX10_241 (by omega) (c_X10_spreadOf hn ht hu hw hv p_isIa_62 h0) rfl rfl (Nat.le_of_ble_eq_true rfl) ?_
      clear h0
      exact J_ireturn hX dX10_loads_149 h hF rfl
theorem t_X10_loads {X : XX} {G : GG} {ρ : Nat → Nat} {x : Option Nat} {d : Nat} {t : Nat} {u : Nat} {w : Nat} {v : Nat} (hX : Ok X G ρ cX10_loads 5 RX10 d) (hd0 : 6 ≤ d) (hn : 126 ≤ 126) (hXb : Ok (bump X 1 1) G ρ cX10_loads 5 RX10 d) (hr1 : X.2.2.1 + 1 ≤ X.1.2.2.2.1.cells) (hr2 : X.2.2.2.1 + 1 ≤ X.1.2.2.2.1.slots) (hx : ∀ b, x = some b → isTo b) (ht : isTo t) (hu : isTo u) (hw : isWk w) (hv : isWk v) {rE : Int32} {mE : Mm} (hF : Fin' (bump X 1 1) G ρ 126 (some .int) (some (.int rE)) (RT t u w v x) mE) {x1 : Int32} {x2 : Int32} {x3 : Int32} {m : Mm} (h : f_X10_loads t u w v x1 x2 x3 m = some (rE, mE)) : J X G ρ 126 5 0 [(0, .ref 0), (1, .int x1), (2, .int x2), (3, .int x3)] [] (RT t u w v x) m := by
  unfold f_X10_loads at h
  refine J_iload_n hX dX10_loads_0 rfl 1 rfl ?_
  refine J_if_lt hX 26 dX10_loads_1 (by decide) h (fun c h => ?_) (fun c h => ?_)
  · refine J_iconst hX (0 : Int32) dX10_loads_26 ic_0 ?_
    refine J_istore hX [(4, .int (0 : Int32)), (0, .ref 0), (1, .int x1), (2, .int x2), (3, .int x3)] dX10_loads_27 (by decide) rfl ?_
    refine J_iload hX dX10_loads_29 0 rfl ?_
    refine J_if_eq hX 43 dX10_loads_31 (by decide) h (fun c h => ?_) (fun c h => ?_)
    · refine J_iconst hX (-1 : Int32) dX10_loads_43 ic_m1 ?_
      refine J_widen 1 1 ?_
      have hX := hXb
      exact J_ireturn hX dX10_loads_44 h hF rfl
    · refine J_iload_n hX dX10_loads_34 rfl 4 rfl ?_
      refine J_if_lt hX 43 dX10_loads_35 (by decide) h (fun c h => ?_) (fun c h => ?_)
      · refine J_iconst hX (-1 : Int32) dX10_loads_43 ic_m1 ?_
        refine J_widen 1 1 ?_
        have hX := hXb
        exact J_ireturn hX dX10_loads_44 h hF rfl
      · refine J_iload_n hX dX10_loads_38 rfl 4 rfl ?_
        refine J_iconst hX (2 : Int32) dX10_loads_39 ic_2 ?_
        refine J_icmp_le hX 45 dX10_loads_40 (by decide) h (fun c h => ?_) (fun c h => ?_)
        · refine J_iconst hX (-1 : Int32) dX10_loads_43 ic_m1 ?_
          refine J_widen 1 1 ?_
          have hX := hXb
          exact J_ireturn hX dX10_loads_44 h hF rfl
        · refine J_aload_n hX dX10_loads_45 rfl 1 rfl ?_
          refine J_getR hX dX10_loads_46 fl_RX10_66 (ltn ltc_0 hn) lo_0 rfl (rt_0_9 _ _ _ _ _) ?_
          refine J_aload_n hX dX10_loads_49 rfl 1 rfl ?_
          refine J_getR hX dX10_loads_50 fl_RX10_62 (ltn ltc_0 hn) lo_0 rfl (rt_0_8 _ _ _ _ _) ?_
          obtain ⟨m1, h0, h⟩ := bd1_some h
          refine J_callVv (As := [.ref 54]) (st := []) hX dX10_loads_53 cw_RX10_314 (by omega) (c_X6_copy hn p_isSt_59 p_isSt_54 h0) (ltn ltc_59 hn) lo_59 (by decide) rfl rfl rfl (Nat.le_of_ble_eq_true rfl) ?_
          clear h0
          refine J_aload_n hX dX10_loads_56 rfl 1 rfl ?_
          refine J_getR hX dX10_loads_57 fl_RX10_50 (ltn ltc_0 hn) lo_0 rfl (rt_0_6 _ _ _ _ _) ?_
          refine J_getI hX dX10_loads_60 fl_RX10_109 (ltn ltc_26 hn) lo_26 rfl ?_
          refine J_if_le hX 79 dX10_loads_63 (by decide) h (fun c h => ?_) (fun c h => ?_)
          · refine J_aload_n hX dX10_loads_66 rfl 1 rfl ?_
            refine J_zM ?_
            obtain ⟨m10, em10⟩ : ∃ z, z = zM m1 126 := ⟨_, rfl⟩
            have h : _ = _ := h; rw [nwM, ← em10] at h; rw [← em10]
            refine J_new hX dX10_loads_67 nw_RX10_318 lay_126 (by decide) (fun _ => rfl) (RT_no126 ht hu hw hv hx) (by rw [em10]; exact zM_zero _ _) (by simp) (by simp) (by decide) hr1 hr2 (fun q hX => ?_)
            refine J_dup hX dX10_loads_70 rfl ?_
            refine J_iload_n hX dX10_loads_71 rfl 2 rfl ?_
            obtain ⟨m11, h0, h⟩ := bd1_some h
            refine J_callIC (As := [.int x1]) (st := [.ref 126, .ref 0]) hX dX10_loads_72 ci_RX10_320 (by omega) (c_X2_init (by decide) h0) rfl rfl (Nat.le_of_ble_eq_true rfl) ?_
            clear h0
            refine J_iload_n hX dX10_loads_75 rfl 3 rfl ?_
            obtain ⟨m12, h0, h⟩ := bd1_some h
            refine J_callVv (As := [.ref 126, .int x2]) (st := []) hX dX10_loads_76 cw_RX10_323 (by omega) (c_X10_performDrawn (by decide) ht hu hw hv h0) (by decide) lo_0 (by decide) rfl rfl rfl (Nat.le_of_ble_eq_true rfl) ?_
            clear h0
            refine J_drop (RT_no126 ht hu hw hv hx) (by simp) (by simp) ?_
            have hX := Ok_drop (by decide) hX
            refine J_sub [(0, .ref 0), (3, .int x3)] [1, 4] rfl ?_
            exact t_X10_loads_J79 hX hd0 hn ht hu hw hv hF x3  m12 h
          · refine J_widen 1 1 ?_
            have hX := hXb
            refine J_sub [(0, .ref 0), (3, .int x3)] [1, 4] rfl ?_
            exact t_X10_loads_J79 hX hd0 hn ht hu hw hv hF x3  m1 h
  · refine J_iload_n hX dX10_loads_4 rfl 1 rfl ?_
    refine J_sipush hX (9999 : Int32) dX10_loads_5 (by decide) ?_
    refine J_icmp_gt hX 26 dX10_loads_8 (by decide) h (fun c h => ?_) (fun c h => ?_)
    · refine J_iconst hX (0 : Int32) dX10_loads_26 ic_0 ?_
      refine J_istore hX [(4, .int (0 : Int32)), (0, .ref 0), (1, .int x1), (2, .int x2), (3, .int x3)] dX10_loads_27 (by decide) rfl ?_
      refine J_iload hX dX10_loads_29 0 rfl ?_
      refine J_if_eq hX 43 dX10_loads_31 (by decide) h (fun c h => ?_) (fun c h => ?_)
      · refine J_iconst hX (-1 : Int32) dX10_loads_43 ic_m1 ?_
        refine J_widen 1 1 ?_
        have hX := hXb
        exact J_ireturn hX dX10_loads_44 h hF rfl
      · refine J_iload_n hX dX10_loads_34 rfl 4 rfl ?_
        refine J_if_lt hX 43 dX10_loads_35 (by decide) h (fun c h => ?_) (fun c h => ?_)
        · refine J_iconst hX (-1 : Int32) dX10_loads_43 ic_m1 ?_
          refine J_widen 1 1 ?_
          have hX := hXb
          exact J_ireturn hX dX10_loads_44 h hF rfl
        · refine J_iload_n hX dX10_loads_38 rfl 4 rfl ?_
          refine J_iconst hX (2 : Int32) dX10_loads_39 ic_2 ?_
          refine J_icmp_le hX 45 dX10_loads_40 (by decide) h (fun c h => ?_) (fun c h => ?_)
          · refine J_iconst hX (-1 : Int32) dX10_loads_43 ic_m1 ?_
            refine J_widen 1 1 ?_
            have hX := hXb
            exact J_ireturn hX dX10_loads_44 h hF rfl
          · refine J_aload_n hX dX10_loads_45 rfl 1 rfl ?_
            refine J_getR hX dX10_loads_46 fl_RX10_66 (ltn ltc_0 hn) lo_0 rfl (rt_0_9 _ _ _ _ _) ?_
            refine J_aload_n hX dX10_loads_49 rfl 1 rfl ?_
            refine J_getR hX dX10_loads_50 fl_RX10_62 (ltn ltc_0 hn) lo_0 rfl (rt_0_8 _ _ _ _ _) ?_
            obtain ⟨m13, h0, h⟩ := bd1_some h
            refine J_callVv (As := [.ref 54]) (st := []) hX dX10_loads_53 cw_RX10_314 (by omega) (c_X6_copy hn p_isSt_59 p_isSt_54 h0) (ltn ltc_59 hn) lo_59 (by decide) rfl rfl rfl (Nat.le_of_ble_eq_true rfl) ?_
            clear h0
            refine J_aload_n hX dX10_loads_56 rfl 1 rfl ?_
            refine J_getR hX dX10_loads_57 fl_RX10_50 (ltn ltc_0 hn) lo_0 rfl (rt_0_6 _ _ _ _ _) ?_
            refine J_getI hX dX10_loads_60 fl_RX10_109 (ltn ltc_26 hn) lo_26 rfl ?_
            refine J_if_le hX 79 dX10_loads_63 (by decide) h (fun c h => ?_) (fun c h => ?_)
            · refine J_aload_n hX dX10_loads_66 rfl 1 rfl ?_
              refine J_zM ?_
              obtain ⟨m14, em14⟩ : ∃ z, z = zM m13 126 := ⟨_, rfl⟩
              have h : _ = _ := h; rw [nwM, ← em14] at h; rw [← em14]
              refine J_new hX dX10_loads_67 nw_RX10_318 lay_126 (by decide) (fun _ => rfl) (RT_no126 ht hu hw hv hx) (by rw [em14]; exact zM_zero _ _) (by simp) (by simp) (by decide) hr1 hr2 (fun q hX => ?_)
              refine J_dup hX dX10_loads_70 rfl ?_
              refine J_iload_n hX dX10_loads_71 rfl 2 rfl ?_
              obtain ⟨m15, h0, h⟩ := bd1_some h
              refine J_callIC (As := [.int x1]) (st := [.ref 126, .ref 0]) hX dX10_loads_72 ci_RX10_320 (by omega) (c_X2_init (by decide) h0) rfl rfl (Nat.le_of_ble_eq_true rfl) ?_
              clear h0
              refine J_iload_n hX dX10_loads_75 rfl 3 rfl ?_
              obtain ⟨m16, h0, h⟩ := bd1_some h
              refine J_callVv (As := [.ref 126, .int x2]) (st := []) hX dX10_loads_76 cw_RX10_323 (by omega) (c_X10_performDrawn (by decide) ht hu hw hv h0) (by decide) lo_0 (by decide) rfl rfl rfl (Nat.le_of_ble_eq_true rfl) ?_
              clear h0
              refine J_drop (RT_no126 ht hu hw hv hx) (by simp) (by simp) ?_
              have hX := Ok_drop (by decide) hX
              refine J_sub [(0, .ref 0), (3, .int x3)] [1, 4] rfl ?_
              exact t_X10_loads_J79 hX hd0 hn ht hu hw hv hF x3  m16 h
            · refine J_widen 1 1 ?_
              have hX := hXb
              refine J_sub [(0, .ref 0), (3, .int x3)] [1, 4] rfl ?_
              exact t_X10_loads_J79 hX hd0 hn ht hu hw hv hF x3  m13 h
    · refine J_iload_n hX dX10_loads_11 rfl 2 rfl ?_
      refine J_iconst hX (1 : Int32) dX10_loads_12 ic_1 ?_
      refine J_icmp_lt hX 26 dX10_loads_13 (by decide) h (fun c h => ?_) (fun c h => ?_)
      · refine J_iconst hX (0 : Int32) dX10_loads_26 ic_0 ?_
        refine J_istore hX [(4, .int (0 : Int32)), (0, .ref 0), (1, .int x1), (2, .int x2), (3, .int x3)] dX10_loads_27 (by decide) rfl ?_
        refine J_iload hX dX10_loads_29 0 rfl ?_
        refine J_if_eq hX 43 dX10_loads_31 (by decide) h (fun c h => ?_) (fun c h => ?_)
        · refine J_iconst hX (-1 : Int32) dX10_loads_43 ic_m1 ?_
          refine J_widen 1 1 ?_
          have hX := hXb
          exact J_ireturn hX dX10_loads_44 h hF rfl
        · refine J_iload_n hX dX10_loads_34 rfl 4 rfl ?_
          refine J_if_lt hX 43 dX10_loads_35 (by decide) h (fun c h => ?_) (fun c h => ?_)
          · refine J_iconst hX (-1 : Int32) dX10_loads_43 ic_m1 ?_
            refine J_widen 1 1 ?_
            have hX := hXb
            exact J_ireturn hX dX10_loads_44 h hF rfl
          · refine J_iload_n hX dX10_loads_38 rfl 4 rfl ?_
            refine J_iconst hX (2 : Int32) dX10_loads_39 ic_2 ?_
            refine J_icmp_le hX 45 dX10_loads_40 (by decide) h (fun c h => ?_) (fun c h => ?_)
            · refine J_iconst hX (-1 : Int32) dX10_loads_43 ic_m1 ?_
              refine J_widen 1 1 ?_
              have hX := hXb
              exact J_ireturn hX dX10_loads_44 h hF rfl
            · refine J_aload_n hX dX10_loads_45 rfl 1 rfl ?_
              refine J_getR hX dX10_loads_46 fl_RX10_66 (ltn ltc_0 hn) lo_0 rfl (rt_0_9 _ _ _ _ _) ?_
              refine J_aload_n hX dX10_loads_49 rfl 1 rfl ?_
              refine J_getR hX dX10_loads_50 fl_RX10_62 (ltn ltc_0 hn) lo_0 rfl (rt_0_8 _ _ _ _ _) ?_
              obtain ⟨m17, h0, h⟩ := bd1_some h
              refine J_callVv (As := [.ref 54]) (st := []) hX dX10_loads_53 cw_RX10_314 (by omega) (c_X6_copy hn p_isSt_59 p_isSt_54 h0) (ltn ltc_59 hn) lo_59 (by decide) rfl rfl rfl (Nat.le_of_ble_eq_true rfl) ?_
              clear h0
              refine J_aload_n hX dX10_loads_56 rfl 1 rfl ?_
              refine J_getR hX dX10_loads_57 fl_RX10_50 (ltn ltc_0 hn) lo_0 rfl (rt_0_6 _ _ _ _ _) ?_
              refine J_getI hX dX10_loads_60 fl_RX10_109 (ltn ltc_26 hn) lo_26 rfl ?_
              refine J_if_le hX 79 dX10_loads_63 (by decide) h (fun c h => ?_) (fun c h => ?_)
              · refine J_aload_n hX dX10_loads_66 rfl 1 rfl ?_
                refine J_zM ?_
                obtain ⟨m18, em18⟩ : ∃ z, z = zM m17 126 := ⟨_, rfl⟩
                have h : _ = _ := h; rw [nwM, ← em18] at h; rw [← em18]
                refine J_new hX dX10_loads_67 nw_RX10_318 lay_126 (by decide) (fun _ => rfl) (RT_no126 ht hu hw hv hx) (by rw [em18]; exact zM_zero _ _) (by simp) (by simp) (by decide) hr1 hr2 (fun q hX => ?_)
                refine J_dup hX dX10_loads_70 rfl ?_
                refine J_iload_n hX dX10_loads_71 rfl 2 rfl ?_
                obtain ⟨m19, h0, h⟩ := bd1_some h
                refine J_callIC (As := [.int x1]) (st := [.ref 126, .ref 0]) hX dX10_loads_72 ci_RX10_320 (by omega) (c_X2_init (by decide) h0) rfl rfl (Nat.le_of_ble_eq_true rfl) ?_
                clear h0
                refine J_iload_n hX dX10_loads_75 rfl 3 rfl ?_
                obtain ⟨m20, h0, h⟩ := bd1_some h
                refine J_callVv (As := [.ref 126, .int x2]) (st := []) hX dX10_loads_76 cw_RX10_323 (by omega) (c_X10_performDrawn (by decide) ht hu hw hv h0) (by decide) lo_0 (by decide) rfl rfl rfl (Nat.le_of_ble_eq_true rfl) ?_
                clear h0
                refine J_drop (RT_no126 ht hu hw hv hx) (by simp) (by simp) ?_
                have hX := Ok_drop (by decide) hX
                refine J_sub [(0, .ref 0), (3, .int x3)] [1, 4] rfl ?_
                exact t_X10_loads_J79 hX hd0 hn ht hu hw hv hF x3  m20 h
              · refine J_widen 1 1 ?_
                have hX := hXb
                refine J_sub [(0, .ref 0), (3, .int x3)] [1, 4] rfl ?_
                exact t_X10_loads_J79 hX hd0 hn ht hu hw hv hF x3  m17 h
      · refine J_iload_n hX dX10_loads_16 rfl 2 rfl ?_
        refine J_bipush hX (99 : Int32) dX10_loads_17 (by decide) ?_
        refine J_icmp_gt hX 26 dX10_loads_19 (by decide) h (fun c h => ?_) (fun c h => ?_)
        · refine J_iconst hX (0 : Int32) dX10_loads_26 ic_0 ?_
          refine J_istore hX [(4, .int (0 : Int32)), (0, .ref 0), (1, .int x1), (2, .int x2), (3, .int x3)] dX10_loads_27 (by decide) rfl ?_
          refine J_iload hX dX10_loads_29 0 rfl ?_
          refine J_if_eq hX 43 dX10_loads_31 (by decide) h (fun c h => ?_) (fun c h => ?_)
          · refine J_iconst hX (-1 : Int32) dX10_loads_43 ic_m1 ?_
            refine J_widen 1 1 ?_
            have hX := hXb
            exact J_ireturn hX dX10_loads_44 h hF rfl
          · refine J_iload_n hX dX10_loads_34 rfl 4 rfl ?_
            refine J_if_lt hX 43 dX10_loads_35 (by decide) h (fun c h => ?_) (fun c h => ?_)
            · refine J_iconst hX (-1 : Int32) dX10_loads_43 ic_m1 ?_
              refine J_widen 1 1 ?_
              have hX := hXb
              exact J_ireturn hX dX10_loads_44 h hF rfl
            · refine J_iload_n hX dX10_loads_38 rfl 4 rfl ?_
              refine J_iconst hX (2 : Int32) dX10_loads_39 ic_2 ?_
              refine J_icmp_le hX 45 dX10_loads_40 (by decide) h (fun c h => ?_) (fun c h => ?_)
              · refine J_iconst hX (-1 : Int32) dX10_loads_43 ic_m1 ?_
                refine J_widen 1 1 ?_
                have hX := hXb
                exact J_ireturn hX dX10_loads_44 h hF rfl
              · refine J_aload_n hX dX10_loads_45 rfl 1 rfl ?_
                refine J_getR hX dX10_loads_46 fl_RX10_66 (ltn ltc_0 hn) lo_0 rfl (rt_0_9 _ _ _ _ _) ?_
                refine J_aload_n hX dX10_loads_49 rfl 1 rfl ?_
                refine J_getR hX dX10_loads_50 fl_RX10_62 (ltn ltc_0 hn) lo_0 rfl (rt_0_8 _ _ _ _ _) ?_
                obtain ⟨m21, h0, h⟩ := bd1_some h
                refine J_callVv (As := [.ref 54]) (st := []) hX dX10_loads_53 cw_RX10_314 (by omega) (c_X6_copy hn p_isSt_59 p_isSt_54 h0) (ltn ltc_59 hn) lo_59 (by decide) rfl rfl rfl (Nat.le_of_ble_eq_true rfl) ?_
                clear h0
                refine J_aload_n hX dX10_loads_56 rfl 1 rfl ?_
                refine J_getR hX dX10_loads_57 fl_RX10_50 (ltn ltc_0 hn) lo_0 rfl (rt_0_6 _ _ _ _ _) ?_
                refine J_getI hX dX10_loads_60 fl_RX10_109 (ltn ltc_26 hn) lo_26 rfl ?_
                refine J_if_le hX 79 dX10_loads_63 (by decide) h (fun c h => ?_) (fun c h => ?_)
                · refine J_aload_n hX dX10_loads_66 rfl 1 rfl ?_
                  refine J_zM ?_
                  obtain ⟨m22, em22⟩ : ∃ z, z = zM m21 126 := ⟨_, rfl⟩
                  have h : _ = _ := h; rw [nwM, ← em22] at h; rw [← em22]
                  refine J_new hX dX10_loads_67 nw_RX10_318 lay_126 (by decide) (fun _ => rfl) (RT_no126 ht hu hw hv hx) (by rw [em22]; exact zM_zero _ _) (by simp) (by simp) (by decide) hr1 hr2 (fun q hX => ?_)
                  refine J_dup hX dX10_loads_70 rfl ?_
                  refine J_iload_n hX dX10_loads_71 rfl 2 rfl ?_
                  obtain ⟨m23, h0, h⟩ := bd1_some h
                  refine J_callIC (As := [.int x1]) (st := [.ref 126, .ref 0]) hX dX10_loads_72 ci_RX10_320 (by omega) (c_X2_init (by decide) h0) rfl rfl (Nat.le_of_ble_eq_true rfl) ?_
                  clear h0
                  refine J_iload_n hX dX10_loads_75 rfl 3 rfl ?_
                  obtain ⟨m24, h0, h⟩ := bd1_some h
                  refine J_callVv (As := [.ref 126, .int x2]) (st := []) hX dX10_loads_76 cw_RX10_323 (by omega) (c_X10_performDrawn (by decide) ht hu hw hv h0) (by decide) lo_0 (by decide) rfl rfl rfl (Nat.le_of_ble_eq_true rfl) ?_
                  clear h0
                  refine J_drop (RT_no126 ht hu hw hv hx) (by simp) (by simp) ?_
                  have hX := Ok_drop (by decide) hX
                  refine J_sub [(0, .ref 0), (3, .int x3)] [1, 4] rfl ?_
                  exact t_X10_loads_J79 hX hd0 hn ht hu hw hv hF x3  m24 h
                · refine J_widen 1 1 ?_
                  have hX := hXb
                  refine J_sub [(0, .ref 0), (3, .int x3)] [1, 4] rfl ?_
                  exact t_X10_loads_J79 hX hd0 hn ht hu hw hv hF x3  m21 h
        · refine J_iconst hX (1 : Int32) dX10_loads_22 ic_1 ?_
          refine J_goto hX 27 dX10_loads_23 (by decide) ?_
          refine J_istore hX [(4, .int (1 : Int32)), (0, .ref 0), (1, .int x1), (2, .int x2), (3, .int x3)] dX10_loads_27 (by decide) rfl ?_
          refine J_iload hX dX10_loads_29 0 rfl ?_
          refine J_if_eq hX 43 dX10_loads_31 (by decide) h (fun c h => ?_) (fun c h => ?_)
          · refine J_iconst hX (-1 : Int32) dX10_loads_43 ic_m1 ?_
            refine J_widen 1 1 ?_
            have hX := hXb
            exact J_ireturn hX dX10_loads_44 h hF rfl
          · refine J_iload_n hX dX10_loads_34 rfl 4 rfl ?_
            refine J_if_lt hX 43 dX10_loads_35 (by decide) h (fun c h => ?_) (fun c h => ?_)
            · refine J_iconst hX (-1 : Int32) dX10_loads_43 ic_m1 ?_
              refine J_widen 1 1 ?_
              have hX := hXb
              exact J_ireturn hX dX10_loads_44 h hF rfl
            · refine J_iload_n hX dX10_loads_38 rfl 4 rfl ?_
              refine J_iconst hX (2 : Int32) dX10_loads_39 ic_2 ?_
              refine J_icmp_le hX 45 dX10_loads_40 (by decide) h (fun c h => ?_) (fun c h => ?_)
              · refine J_iconst hX (-1 : Int32) dX10_loads_43 ic_m1 ?_
                refine J_widen 1 1 ?_
                have hX := hXb
                exact J_ireturn hX dX10_loads_44 h hF rfl
              · refine J_aload_n hX dX10_loads_45 rfl 1 rfl ?_
                refine J_getR hX dX10_loads_46 fl_RX10_66 (ltn ltc_0 hn) lo_0 rfl (rt_0_9 _ _ _ _ _) ?_
                refine J_aload_n hX dX10_loads_49 rfl 1 rfl ?_
                refine J_getR hX dX10_loads_50 fl_RX10_62 (ltn ltc_0 hn) lo_0 rfl (rt_0_8 _ _ _ _ _) ?_
                obtain ⟨m25, h0, h⟩ := bd1_some h
                refine J_callVv (As := [.ref 54]) (st := []) hX dX10_loads_53 cw_RX10_314 (by omega) (c_X6_copy hn p_isSt_59 p_isSt_54 h0) (ltn ltc_59 hn) lo_59 (by decide) rfl rfl rfl (Nat.le_of_ble_eq_true rfl) ?_
                clear h0
                refine J_aload_n hX dX10_loads_56 rfl 1 rfl ?_
                refine J_getR hX dX10_loads_57 fl_RX10_50 (ltn ltc_0 hn) lo_0 rfl (rt_0_6 _ _ _ _ _) ?_
                refine J_getI hX dX10_loads_60 fl_RX10_109 (ltn ltc_26 hn) lo_26 rfl ?_
                refine J_if_le hX 79 dX10_loads_63 (by decide) h (fun c h => ?_) (fun c h => ?_)
                · refine J_aload_n hX dX10_loads_66 rfl 1 rfl ?_
                  refine J_zM ?_
                  obtain ⟨m26, em26⟩ : ∃ z, z = zM m25 126 := ⟨_, rfl⟩
                  have h : _ = _ := h; rw [nwM, ← em26] at h; rw [← em26]
                  refine J_new hX dX10_loads_67 nw_RX10_318 lay_126 (by decide) (fun _ => rfl) (RT_no126 ht hu hw hv hx) (by rw [em26]; exact zM_zero _ _) (by simp) (by simp) (by decide) hr1 hr2 (fun q hX => ?_)
                  refine J_dup hX dX10_loads_70 rfl ?_
                  refine J_iload_n hX dX10_loads_71 rfl 2 rfl ?_
                  obtain ⟨m27, h0, h⟩ := bd1_some h
                  refine J_callIC (As := [.int x1]) (st := [.ref 126, .ref 0]) hX dX10_loads_72 ci_RX10_320 (by omega) (c_X2_init (by decide) h0) rfl rfl (Nat.le_of_ble_eq_true rfl) ?_
                  clear h0
                  refine J_iload_n hX dX10_loads_75 rfl 3 rfl ?_
                  obtain ⟨m28, h0, h⟩ := bd1_some h
                  refine J_callVv (As := [.ref 126, .int x2]) (st := []) hX dX10_loads_76 cw_RX10_323 (by omega) (c_X10_performDrawn (by decide) ht hu hw hv h0) (by decide) lo_0 (by decide) rfl rfl rfl (Nat.le_of_ble_eq_true rfl) ?_
                  clear h0
                  refine J_drop (RT_no126 ht hu hw hv hx) (by simp) (by simp) ?_
                  have hX := Ok_drop (by decide) hX
                  refine J_sub [(0, .ref 0), (3, .int x3)] [1, 4] rfl ?_
                  exact t_X10_loads_J79 hX hd0 hn ht hu hw hv hF x3  m28 h
                · refine J_widen 1 1 ?_
                  have hX := hXb
                  refine J_sub [(0, .ref 0), (3, .int x3)] [1, 4] rfl ?_
                  exact t_X10_loads_J79 hX hd0 hn ht hu hw hv hF x3  m25 h
theorem c_X10_loads {G : GG} {l : Launch} {ρ : Nat → Nat} {x : Option Nat} (hn : 126 ≤ 126) {t : Nat} {u : Nat} {w : Nat} {v : Nat} (ht : isTo t) (hu : isTo u) (hw : isWk w) (hv : isWk v) (hx : ∀ b, x = some b → isTo b) {x1 : Int32} {x2 : Int32} {x3 : Int32} {m : Mm} {rE : Int32} {mE : Mm} (h : f_X10_loads t u w v x1 x2 x3 m = some (rE, mE)) : CT G l yX10_loads cX10_loads 5 (some .int) 6 1 1 ρ 126 (RT t u w v x) [.ref 0, .int x1, .int x2, .int x3] m (some (.int rE)) (RT t u w v x) mE := ct_of_J (by decide) rfl (Nat.le_of_ble_eq_true rfl) (fun X hX e1 e2 e3 e4 hQ hr hl => by
  have hr1 : X.2.2.1 + 1 ≤ X.1.2.2.2.1.cells := by rw [e1, e3]; exact Nat.le_refl _
  have hr2 : X.2.2.2.1 + 1 ≤ X.1.2.2.2.1.slots := by rw [e1, e4]; exact Nat.le_refl _
  refine t_X10_loads hX (Nat.le_refl _) hn (Ok_bump hX (fun _ _ => rfl) hr1 hr2) hr1 hr2 hx ht hu hw hv ⟨?_, hr, hl⟩ h
  show X.2.2.2.2 = MQ X.2.1.2.2.1 _ X.2.1.2.1 X.1.2.2.2.2 (X.2.2.1 + 1) (X.2.2.2.1 + 1) (GA G)
  rw [hQ, e3, e4])
theorem t_X11_loads_L116 {X : XX} {G : GG} {ρ : Nat → Nat} {n t u w v : Nat} {x : Option Nat} {d : Nat} (hX : Ok X G ρ cX11_loads 10 RX11 d) (hd0 : 5 ≤ d) (hn : 126 ≤ n) {rE : Int32} {mE : Mm} (hF : Fin' X G ρ n (some .int) (some (.int rE)) (RT t u w v x) mE) : ∀ (k : Nat) (v3 : Int32) (v5 : Int32) (v6 : Int32) (v7 : Int32) (v8 : Int32) (v9 : Int32) (m : Mm), f_X11_loads_L116 k v3 v5 v6 v7 v8 v9 m = some (rE, mE) → J X G ρ n 10 116 [(0, .ref 78), (3, .int v3), (5, .int v5), (6, .int v6), (7, .int v7), (8, .int v8), (9, .int v9)] [] (RT t u w v x) m := by
  intro k
  induction k with
  | zero => intro _ _ _ _ _ _ _ h; rw [f_X11_loads_L116] at h; cases h
  | succ k ih =>
    intro v3 v5 v6 v7 v8 v9 m h
    rw [f_X11_loads_L116] at h
    refine J_iload hX dX11_loads_116 6 rfl ?_
    refine J_aload_n hX dX11_loads_118 rfl 0 rfl ?_
    refine J_getR hX dX11_loads_119 fl_RX11_13 (ltn ltc_78 hn) lo_78 rfl (rt_78_10 _ _ _ _ _) ?_
    refine J_iconst hX (0 : Int32) dX11_loads_122 ic_0 ?_
    refine J_iaload0 hX dX11_loads_123 (ltn ltc_80 hn) lay_80 (by decide) ?_
    refine J_icmp_ge hX 165 dX11_loads_124 (by decide) h (fun c h => ?_) (fun c h => ?_)
    · refine J_iload hX dX11_loads_127 4 rfl ?_
      refine J_aload_n hX dX11_loads_129 rfl 0 rfl ?_
      refine J_getR hX dX11_loads_130 fl_RX11_125 (ltn ltc_78 hn) lo_78 rfl (rt_78_50 _ _ _ _ _) ?_
      refine J_iconst hX (1 : Int32) dX11_loads_133 ic_1 ?_
      refine J_iload hX dX11_loads_134 6 rfl ?_
      refine J_iadd hX dX11_loads_136 ?_
      refine J_iaload hX dX11_loads_137 (ltn ltc_117 hn) lay_117 h (fun h => ?_)
      refine J_imax hX dX11_loads_138 (by omega) cm_RX11_434 (Nat.le_of_ble_eq_true rfl) ?_
      refine J_istore hX [(7, .int (imax v7 (gI m 117 (ix ((1 : Int32) + v9))))), (0, .ref 78), (3, .int v3), (5, .int v5), (6, .int v6), (8, .int v8), (9, .int v9)] dX11_loads_141 (by decide) rfl ?_
      refine J_iload hX dX11_loads_143 5 rfl ?_
      refine J_aload_n hX dX11_loads_145 rfl 1 rfl ?_
      refine J_getR hX dX11_loads_146 fl_RX11_125 (ltn ltc_78 hn) lo_78 rfl (rt_78_50 _ _ _ _ _) ?_
      refine J_iconst hX (1 : Int32) dX11_loads_149 ic_1 ?_
      refine J_iload hX dX11_loads_150 6 rfl ?_
      refine J_iadd hX dX11_loads_152 ?_
      refine J_iaload hX dX11_loads_153 (ltn ltc_117 hn) lay_117 h (fun h => ?_)
      refine J_imin hX dX11_loads_154 (by omega) cm_RX11_439 (Nat.le_of_ble_eq_true rfl) ?_
      refine J_istore hX [(8, .int (imin v8 (gI m 117 (ix ((1 : Int32) + v9))))), (7, .int (imax v7 (gI m 117 (ix ((1 : Int32) + v9))))), (0, .ref 78), (3, .int v3), (5, .int v5), (6, .int v6), (9, .int v9)] dX11_loads_157 (by decide) rfl ?_
      refine J_iinc hX (v9 + (1 : Int32)) [(9, .int (v9 + (1 : Int32))), (8, .int (imin v8 (gI m 117 (ix ((1 : Int32) + v9))))), (7, .int (imax v7 (gI m 117 (ix ((1 : Int32) + v9))))), (0, .ref 78), (3, .int v3), (5, .int v5), (6, .int v6)] dX11_loads_159 6 rfl (congrArg (fun z => v9 + z) ic_1) (by decide) rfl ?_
      refine J_goto hX 116 dX11_loads_162 (by decide) ?_
      refine J_sub [(0, .ref 78), (3, .int v3), (5, .int v5), (6, .int v6), (7, .int (imax v7 (gI m 117 (ix ((1 : Int32) + v9))))), (8, .int (imin v8 (gI m 117 (ix ((1 : Int32) + v9))))), (9, .int (v9 + (1 : Int32)))] [3, 4, 5, 6, 2, 1, 0] rfl ?_
      exact ih v3 v5 v6 (imax v7 (gI m 117 (ix ((1 : Int32) + v9)))) (imin v8 (gI m 117 (ix ((1 : Int32) + v9)))) (v9 + (1 : Int32)) m h
    · refine J_aload_n hX dX11_loads_165 rfl 0 rfl ?_
      refine J_getR hX dX11_loads_166 fl_RX11_128 (ltn ltc_78 hn) lo_78 rfl (rt_78_51 _ _ _ _ _) ?_
      refine J_iconst hX (0 : Int32) dX11_loads_169 ic_0 ?_
      refine J_aload_n hX dX11_loads_170 rfl 0 rfl ?_
      refine J_getR hX dX11_loads_171 fl_RX11_125 (ltn ltc_78 hn) lo_78 rfl (rt_78_50 _ _ _ _ _) ?_
      refine J_iconst hX (0 : Int32) dX11_loads_174 ic_0 ?_
      obtain ⟨m16, h0, h⟩ := bd1_some h
      refine J_callSv (As := [.ref 118, .int (0 : Int32), .ref 117, .int (0 : Int32)]) (st := []) hX dX11_loads_175 cw_RX11_418 (by omega) (c_X11_copies hn p_isIa_118 p_isIa_117 h0) rfl rfl (Nat.le_of_ble_eq_true rfl) ?_
      clear h0
      refine J_iload_n hX dX11_loads_178 rfl 1 rfl ?_
      refine J_if_ne hX 187 dX11_loads_179 (by decide) h (fun c h => ?_) (fun c h => ?_)
      · refine J_iload hX dX11_loads_182 2 rfl ?_
        refine J_goto hX 206 dX11_loads_184 (by decide) ?_
        exact J_ireturn hX dX11_loads_206 h hF rfl
      · refine J_iload_n hX dX11_loads_187 rfl 1 rfl ?_
        refine J_iconst hX (1 : Int32) dX11_loads_188 ic_1 ?_
        refine J_icmp_ne hX 197 dX11_loads_189 (by decide) h (fun c h => ?_) (fun c h => ?_)
        · refine J_iload hX dX11_loads_192 3 rfl ?_
          refine J_goto hX 206 dX11_loads_194 (by decide) ?_
          exact J_ireturn hX dX11_loads_206 h hF rfl
        · refine J_iconst hX (0 : Int32) dX11_loads_197 ic_0 ?_
          refine J_iload hX dX11_loads_198 4 rfl ?_
          refine J_iload hX dX11_loads_200 5 rfl ?_
          refine J_isub hX dX11_loads_202 ?_
          refine J_imax hX dX11_loads_203 (by omega) cm_RX11_434 (Nat.le_of_ble_eq_true rfl) ?_
          exact J_ireturn hX dX11_loads_206 h hF rfl
theorem t_X11_loads_J90 {X : XX} {G : GG} {ρ : Nat → Nat} {n t u w v : Nat} {x : Option Nat} {d : Nat} (hX : Ok X G ρ cX11_loads 10 RX11 d) (hd0 : 5 ≤ d) (hn : 126 ≤ n) {rE : Int32} {mE : Mm} (hF : Fin' X G ρ n (some .int) (some (.int rE)) (RT t u w v x) mE) (v3 : Int32) (v4 : Int32) (m : Mm) (h : f_X11_loads_J90 v3 v4 m = some (rE, mE)) : J X G ρ n 10 90 [(0, .ref 78), (3, .int v3), (4, .int v4)] [] (RT t u w v x) m := by
  unfold f_X11_loads_J90 at h
  refine J_aload_n hX dX11_loads_90 rfl 0 rfl ?_
  obtain ⟨r13, m12, h0, h⟩ := bd2_some h
  refine J_callVi (As := []) (st := []) hX dX11_loads_91 cw_RX11_425 (by omega) (c_X11_allLoads hn  h0) (ltn ltc_78 hn) lo_78 (by decide) rfl rfl rfl (Nat.le_of_ble_eq_true rfl) ?_
  clear h0
  refine J_iload hX dX11_loads_94 2 rfl ?_
  refine J_isub hX dX11_loads_96 ?_
  refine J_istore hX [(5, .int (r13 - v4)), (0, .ref 78), (3, .int v3), (4, .int v4)] dX11_loads_97 (by decide) rfl ?_
  refine J_aload_n hX dX11_loads_99 rfl 1 rfl ?_
  obtain ⟨r15, m14, h0, h⟩ := bd2_some h
  refine J_callVi (As := []) (st := []) hX dX11_loads_100 cw_RX11_428 (by omega) (c_X11_deadOnes hn  h0) (ltn ltc_78 hn) lo_78 (by decide) rfl rfl rfl (Nat.le_of_ble_eq_true rfl) ?_
  clear h0
  refine J_istore hX [(6, .int r15), (5, .int (r13 - v4)), (0, .ref 78), (3, .int v3), (4, .int v4)] dX11_loads_103 (by decide) rfl ?_
  refine J_iconst hX (0 : Int32) dX11_loads_105 ic_0 ?_
  refine J_istore hX [(7, .int (0 : Int32)), (6, .int r15), (5, .int (r13 - v4)), (0, .ref 78), (3, .int v3), (4, .int v4)] dX11_loads_106 (by decide) rfl ?_
  refine J_ldc_w hX (99999 : Int32) dX11_loads_108 k_RX11_501 ?_
  refine J_istore hX [(8, .int (99999 : Int32)), (7, .int (0 : Int32)), (6, .int r15), (5, .int (r13 - v4)), (0, .ref 78), (3, .int v3), (4, .int v4)] dX11_loads_111 (by decide) rfl ?_
  refine J_iconst hX (0 : Int32) dX11_loads_113 ic_0 ?_
  refine J_istore hX [(9, .int (0 : Int32)), (8, .int (99999 : Int32)), (7, .int (0 : Int32)), (6, .int r15), (5, .int (r13 - v4)), (0, .ref 78), (3, .int v3), (4, .int v4)] dX11_loads_114 (by decide) rfl ?_
  refine J_sub [(0, .ref 78), (3, .int v3), (5, .int (r13 - v4)), (6, .int r15), (7, .int (0 : Int32)), (8, .int (99999 : Int32)), (9, .int (0 : Int32))] [5, 6, 4, 3, 2, 1, 0] rfl ?_
  exact t_X11_loads_L116 hX hd0 hn hF FU v3 (r13 - v4) r15 (0 : Int32) (99999 : Int32) (0 : Int32)  m14 h
theorem t_X11_loads_L65 {X : XX} {G : GG} {ρ : Nat → Nat} {n t u w v : Nat} {x : Option Nat} {d : Nat} (hX : Ok X G ρ cX11_loads 10 RX11 d) (hd0 : 5 ≤ d) (hn : 126 ≤ n) {rE : Int32} {mE : Mm} (hF : Fin' X G ρ n (some .int) (some (.int rE)) (RT t u w v x) mE) : ∀ (k : Nat) (v2 : Int32) (v3 : Int32) (v4 : Int32) (v5 : Int32) (m : Mm), f_X11_loads_L65 k v2 v3 v4 v5 m = some (rE, mE) → J X G ρ n 10 65 [(0, .ref 78), (2, .int v2), (3, .int v3), (4, .int v4), (5, .int v5)] [] (RT t u w v x) m := by
  intro k
  induction k with
  | zero => intro _ _ _ _ _ h; rw [f_X11_loads_L65] at h; cases h
  | succ k ih =>
    intro v2 v3 v4 v5 m h
    rw [f_X11_loads_L65] at h
    refine J_iload hX dX11_loads_65 4 rfl ?_
    refine J_iload_n hX dX11_loads_67 rfl 1 rfl ?_
    refine J_icmp_ge hX 90 dX11_loads_68 (by decide) h (fun c h => ?_) (fun c h => ?_)
    · refine J_aload_n hX dX11_loads_71 rfl 0 rfl ?_
      refine J_getR hX dX11_loads_72 fl_RX11_98 (ltn ltc_78 hn) lo_78 rfl (rt_78_41 _ _ _ _ _) ?_
      refine J_iconst hX (0 : Int32) dX11_loads_75 ic_0 ?_
      refine J_iaload0 hX dX11_loads_76 (ltn ltc_108 hn) lay_108 (by decide) ?_
      refine J_if_le hX 90 dX11_loads_77 (by decide) h (fun c h => ?_) (fun c h => ?_)
      · refine J_aload_n hX dX11_loads_80 rfl 0 rfl ?_
        obtain ⟨m17, h0, h⟩ := bd1_some h
        refine J_callVv (As := []) (st := []) hX dX11_loads_81 cw_RX11_498 (by omega) (c_X11_lives hn  h0) (ltn ltc_78 hn) lo_78 (by decide) rfl rfl rfl (Nat.le_of_ble_eq_true rfl) ?_
        clear h0
        refine J_iinc hX (v5 + (1 : Int32)) [(5, .int (v5 + (1 : Int32))), (0, .ref 78), (2, .int v2), (3, .int v3), (4, .int v4)] dX11_loads_84 4 rfl (congrArg (fun z => v5 + z) ic_1) (by decide) rfl ?_
        refine J_goto hX 65 dX11_loads_87 (by decide) ?_
        refine J_sub [(0, .ref 78), (2, .int v2), (3, .int v3), (4, .int v4), (5, .int (v5 + (1 : Int32)))] [1, 2, 3, 4, 0] rfl ?_
        exact ih v2 v3 v4 (v5 + (1 : Int32)) m17 h
      · refine J_sub [(0, .ref 78), (3, .int v3), (4, .int v4)] [0, 2, 3] rfl ?_
        exact t_X11_loads_J90 hX hd0 hn hF v3 v4  m h
    · refine J_sub [(0, .ref 78), (3, .int v3), (4, .int v4)] [0, 2, 3] rfl ?_
      exact t_X11_loads_J90 hX hd0 hn hF v3 v4  m h
theorem t_X11_loads {X : XX} {G : GG} {ρ : Nat → Nat} {n t u w v : Nat} {x : Option Nat} {d : Nat} (hX : Ok X G ρ cX11_loads 10 RX11 d) (hd0 : 5 ≤ d) (hn : 126 ≤ n) {rE : Int32} {mE : Mm} (hF : Fin' X G ρ n (some .int) (some (.int rE)) (RT t u w v x) mE) {x1 : Int32} {x2 : Int32} {x3 : Int32} {m : Mm} (h : f_X11_loads x1 x2 x3 m = some (rE, mE)) : J X G ρ n 10 0 [(0, .ref 78), (1, .int x1), (2, .int x2), (3, .int x3)] [] (RT t u w v x) m := by
  unfold f_X11_loads at h
  refine J_aload_n hX dX11_loads_0 rfl 0 rfl ?_
  refine J_iconst hX (0 : Int32) dX11_loads_1 ic_0 ?_
  refine J_putI hX dX11_loads_2 pl_RX11_152 (ltn ltc_78 hn) lo_78 rfl rfl rfl h (fun m1 h => ?_)
  refine J_iload_n hX dX11_loads_5 rfl 1 rfl ?_
  refine J_iconst hX (0 : Int32) dX11_loads_6 ic_0 ?_
  refine J_sipush hX (9999 : Int32) dX11_loads_7 (by decide) ?_
  obtain ⟨r3, m2, h0, h⟩ := bd2_some h
  refine J_callSi (As := [.int x1, .int (0 : Int32), .int (9999 : Int32)]) (st := []) hX dX11_loads_10 cw_RX11_239 (by omega) (c_X11_within hn  h0) rfl rfl (Nat.le_of_ble_eq_true rfl) ?_
  clear h0
  refine J_if_eq hX 35 dX11_loads_13 (by decide) h (fun c h => ?_) (fun c h => ?_)
  · refine J_iconst hX (-1 : Int32) dX11_loads_35 ic_m1 ?_
    exact J_ireturn hX dX11_loads_36 h hF rfl
  · refine J_iload_n hX dX11_loads_16 rfl 2 rfl ?_
    refine J_iconst hX (1 : Int32) dX11_loads_17 ic_1 ?_
    refine J_bipush hX (99 : Int32) dX11_loads_18 (by decide) ?_
    obtain ⟨r5, m4, h0, h⟩ := bd2_some h
    refine J_callSi (As := [.int x2, .int (1 : Int32), .int (99 : Int32)]) (st := []) hX dX11_loads_20 cw_RX11_239 (by omega) (c_X11_within hn  h0) rfl rfl (Nat.le_of_ble_eq_true rfl) ?_
    clear h0
    refine J_if_eq hX 35 dX11_loads_23 (by decide) h (fun c h => ?_) (fun c h => ?_)
    · refine J_iconst hX (-1 : Int32) dX11_loads_35 ic_m1 ?_
      exact J_ireturn hX dX11_loads_36 h hF rfl
    · refine J_iload_n hX dX11_loads_26 rfl 3 rfl ?_
      refine J_iconst hX (0 : Int32) dX11_loads_27 ic_0 ?_
      refine J_iconst hX (2 : Int32) dX11_loads_28 ic_2 ?_
      obtain ⟨r7, m6, h0, h⟩ := bd2_some h
      refine J_callSi (As := [.int x3, .int (0 : Int32), .int (2 : Int32)]) (st := []) hX dX11_loads_29 cw_RX11_239 (by omega) (c_X11_within hn  h0) rfl rfl (Nat.le_of_ble_eq_true rfl) ?_
      clear h0
      refine J_if_ne hX 37 dX11_loads_32 (by decide) h (fun c h => ?_) (fun c h => ?_)
      · refine J_iconst hX (-1 : Int32) dX11_loads_35 ic_m1 ?_
        exact J_ireturn hX dX11_loads_36 h hF rfl
      · refine J_aload_n hX dX11_loads_37 rfl 0 rfl ?_
        refine J_iload_n hX dX11_loads_38 rfl 1 rfl ?_
        refine J_i2l hX dX11_loads_39 ?_
        refine J_putL hX dX11_loads_40 pl_RX11_484 (ltn ltc_78 hn) lo_78 rfl h (fun m8 h => ?_)
        refine J_aload_n hX dX11_loads_43 rfl 0 rfl ?_
        refine J_getR hX dX11_loads_44 fl_RX11_125 (ltn ltc_78 hn) lo_78 rfl (rt_78_50 _ _ _ _ _) ?_
        refine J_iconst hX (0 : Int32) dX11_loads_47 ic_0 ?_
        refine J_aload_n hX dX11_loads_48 rfl 0 rfl ?_
        refine J_getR hX dX11_loads_49 fl_RX11_128 (ltn ltc_78 hn) lo_78 rfl (rt_78_51 _ _ _ _ _) ?_
        refine J_iconst hX (0 : Int32) dX11_loads_52 ic_0 ?_
        obtain ⟨m9, h0, h⟩ := bd1_some h
        refine J_callSv (As := [.ref 117, .int (0 : Int32), .ref 118, .int (0 : Int32)]) (st := []) hX dX11_loads_53 cw_RX11_418 (by omega) (c_X11_copies hn p_isIa_117 p_isIa_118 h0) rfl rfl (Nat.le_of_ble_eq_true rfl) ?_
        clear h0
        refine J_aload_n hX dX11_loads_56 rfl 0 rfl ?_
        obtain ⟨r11, m10, h0, h⟩ := bd2_some h
        refine J_callVi (As := []) (st := []) hX dX11_loads_57 cw_RX11_425 (by omega) (c_X11_allLoads hn  h0) (ltn ltc_78 hn) lo_78 (by decide) rfl rfl rfl (Nat.le_of_ble_eq_true rfl) ?_
        clear h0
        refine J_istore hX [(4, .int r11), (0, .ref 78), (1, .int x1), (2, .int x2), (3, .int x3)] dX11_loads_60 (by decide) rfl ?_
        refine J_iconst hX (0 : Int32) dX11_loads_62 ic_0 ?_
        refine J_istore hX [(5, .int (0 : Int32)), (4, .int r11), (0, .ref 78), (1, .int x1), (2, .int x2), (3, .int x3)] dX11_loads_63 (by decide) rfl ?_
        refine J_sub [(0, .ref 78), (2, .int x2), (3, .int x3), (4, .int r11), (5, .int (0 : Int32))] [2, 4, 5, 1, 0] rfl ?_
        exact t_X11_loads_L65 hX hd0 hn hF FU x2 x3 r11 (0 : Int32)  m10 h
theorem c_X11_loads {G : GG} {l : Launch} {ρ : Nat → Nat} {n t u w v : Nat} {x : Option Nat} (hn : 126 ≤ n) {x1 : Int32} {x2 : Int32} {x3 : Int32} {m : Mm} {rE : Int32} {mE : Mm} (h : f_X11_loads x1 x2 x3 m = some (rE, mE)) : CT G l yX11_loads cX11_loads 10 (some .int) 5 0 0 ρ n (RT t u w v x) [.ref 78, .int x1, .int x2, .int x3] m (some (.int rE)) (RT t u w v x) mE := ct_of_J (by decide) rfl (Nat.le_of_ble_eq_true rfl) (fun X hX e1 e2 e3 e4 hQ hr hl => t_X11_loads hX (Nat.le_refl _) hn ⟨by rw [hQ, e3, e4], hr, hl⟩ h)
theorem t_X10_mark_J24 {X : XX} {G : GG} {ρ : Nat → Nat} {n : Nat} {x : Option Nat} {d : Nat} {t : Nat} {u : Nat} {w : Nat} {v : Nat} (hX : Ok X G ρ cX10_mark 3 RX10 d) (hd0 : 2 ≤ d) (hn : 126 ≤ n) (ht : isTo t) (hu : isTo u) (hw : isWk w) (hv : isWk v) {rE : Int32} {mE : Mm} (hF : Fin' X G ρ n (some .boolean) (some (.int rE)) (RT t u w v x) mE) (v1 : Int32) (v2 : Int32) (m : Mm) (h : f_X10_mark_J24 t u w v v1 v2 m = some (rE, mE)) : J X G ρ n 3 24 [(0, .ref 0), (1, .int v1), (2, .int v2)] [] (RT t u w v x) m := by
  unfold f_X10_mark_J24 at h
  refine J_iload_n hX dX10_mark_24 rfl 2 rfl ?_
  refine J_if_eq hX 44 dX10_mark_25 (by decide) h (fun c h => ?_) (fun c h => ?_)
  · refine J_aload_n hX dX10_mark_44 rfl 0 rfl ?_
    refine J_getR hX dX10_mark_45 fl_RX10_69 (ltn ltc_0 hn) lo_0 rfl (rt_0_10 _ _ _ _ _) ?_
    refine J_iload_n hX dX10_mark_48 rfl 1 rfl ?_
    refine J_split h (fun c h => ?_) (fun c h => ?_)
    · refine J_aaload0 hX dX10_mark_49 (ltn ltc_64 hn) lay_64 (by rw [c]; decide) (by rw [c]; exact rt_64_0 _ _ _ _ _) ?_
      refine J_aload_n hX dX10_mark_50 rfl 0 rfl ?_
      refine J_getR hX dX10_mark_51 fl_RX10_62 (ltn ltc_0 hn) lo_0 rfl (rt_0_8 _ _ _ _ _) ?_
      obtain ⟨m1, h0, h⟩ := bd1_some h
      refine J_callVv (As := [.ref 54]) (st := []) hX dX10_mark_54 cw_RX10_314 (by omega) (c_X6_copy hn p_isSt_65 p_isSt_54 h0) (ltn ltc_65 hn) lo_65 (by decide) rfl rfl rfl (Nat.le_of_ble_eq_true rfl) ?_
      clear h0
      refine J_aload_n hX dX10_mark_57 rfl 0 rfl ?_
      refine J_getR hX dX10_mark_58 fl_RX10_73 (ltn ltc_0 hn) lo_0 rfl (rt_0_11 _ _ _ _ _) ?_
      refine J_iload_n hX dX10_mark_61 rfl 1 rfl ?_
      refine J_iconst hX (1 : Int32) dX10_mark_62 ic_1 ?_
      refine J_bastore hX dX10_mark_63 (ltn ltc_75 hn) lay_75 vz1 h (fun m2 h => ?_)
      refine J_iconst hX (1 : Int32) dX10_mark_64 ic_1 ?_
      exact J_ireturn hX dX10_mark_65 h hF narrow_b1
    · refine J_split h (fun c h => ?_) (fun c h => ?_)
      · refine J_aaload0 hX dX10_mark_49 (ltn ltc_64 hn) lay_64 (by rw [c]; decide) (by rw [c]; exact rt_64_1 _ _ _ _ _) ?_
        refine J_aload_n hX dX10_mark_50 rfl 0 rfl ?_
        refine J_getR hX dX10_mark_51 fl_RX10_62 (ltn ltc_0 hn) lo_0 rfl (rt_0_8 _ _ _ _ _) ?_
        obtain ⟨m3, h0, h⟩ := bd1_some h
        refine J_callVv (As := [.ref 54]) (st := []) hX dX10_mark_54 cw_RX10_314 (by omega) (c_X6_copy hn p_isSt_70 p_isSt_54 h0) (ltn ltc_70 hn) lo_70 (by decide) rfl rfl rfl (Nat.le_of_ble_eq_true rfl) ?_
        clear h0
        refine J_aload_n hX dX10_mark_57 rfl 0 rfl ?_
        refine J_getR hX dX10_mark_58 fl_RX10_73 (ltn ltc_0 hn) lo_0 rfl (rt_0_11 _ _ _ _ _) ?_
        refine J_iload_n hX dX10_mark_61 rfl 1 rfl ?_
        refine J_iconst hX (1 : Int32) dX10_mark_62 ic_1 ?_
        refine J_bastore hX dX10_mark_63 (ltn ltc_75 hn) lay_75 vz1 h (fun m4 h => ?_)
        refine J_iconst hX (1 : Int32) dX10_mark_64 ic_1 ?_
        exact J_ireturn hX dX10_mark_65 h hF narrow_b1
      · cases h
  · refine J_aload_n hX dX10_mark_28 rfl 0 rfl ?_
    refine J_getR hX dX10_mark_29 fl_RX10_62 (ltn ltc_0 hn) lo_0 rfl (rt_0_8 _ _ _ _ _) ?_
    refine J_aload_n hX dX10_mark_32 rfl 0 rfl ?_
    refine J_getR hX dX10_mark_33 fl_RX10_69 (ltn ltc_0 hn) lo_0 rfl (rt_0_10 _ _ _ _ _) ?_
    refine J_iload_n hX dX10_mark_36 rfl 1 rfl ?_
    refine J_split h (fun c h => ?_) (fun c h => ?_)
    · refine J_aaload0 hX dX10_mark_37 (ltn ltc_64 hn) lay_64 (by rw [c]; decide) (by rw [c]; exact rt_64_0 _ _ _ _ _) ?_
      obtain ⟨m5, h0, h⟩ := bd1_some h
      refine J_callVv (As := [.ref 65]) (st := []) hX dX10_mark_38 cw_RX10_314 (by omega) (c_X6_copy hn p_isSt_54 p_isSt_65 h0) (ltn ltc_54 hn) lo_54 (by decide) rfl rfl rfl (Nat.le_of_ble_eq_true rfl) ?_
      clear h0
      refine J_goto hX 64 dX10_mark_41 (by decide) ?_
      refine J_iconst hX (1 : Int32) dX10_mark_64 ic_1 ?_
      exact J_ireturn hX dX10_mark_65 h hF narrow_b1
    · refine J_split h (fun c h => ?_) (fun c h => ?_)
      · refine J_aaload0 hX dX10_mark_37 (ltn ltc_64 hn) lay_64 (by rw [c]; decide) (by rw [c]; exact rt_64_1 _ _ _ _ _) ?_
        obtain ⟨m6, h0, h⟩ := bd1_some h
        refine J_callVv (As := [.ref 70]) (st := []) hX dX10_mark_38 cw_RX10_314 (by omega) (c_X6_copy hn p_isSt_54 p_isSt_70 h0) (ltn ltc_54 hn) lo_54 (by decide) rfl rfl rfl (Nat.le_of_ble_eq_true rfl) ?_
        clear h0
        refine J_goto hX 64 dX10_mark_41 (by decide) ?_
        refine J_iconst hX (1 : Int32) dX10_mark_64 ic_1 ?_
        exact J_ireturn hX dX10_mark_65 h hF narrow_b1
      · cases h
theorem t_X10_mark {X : XX} {G : GG} {ρ : Nat → Nat} {n : Nat} {x : Option Nat} {d : Nat} {t : Nat} {u : Nat} {w : Nat} {v : Nat} (hX : Ok X G ρ cX10_mark 3 RX10 d) (hd0 : 2 ≤ d) (hn : 126 ≤ n) (ht : isTo t) (hu : isTo u) (hw : isWk w) (hv : isWk v) {rE : Int32} {mE : Mm} (hF : Fin' X G ρ n (some .boolean) (some (.int rE)) (RT t u w v x) mE) {x1 : Int32} {x2 : Int32} {m : Mm} (h : f_X10_mark t u w v x1 x2 m = some (rE, mE)) : J X G ρ n 3 0 [(0, .ref 0), (1, .int x1), (2, .int x2)] [] (RT t u w v x) m := by
  unfold f_X10_mark at h
  refine J_iload_n hX dX10_mark_0 rfl 1 rfl ?_
  refine J_if_lt hX 22 dX10_mark_1 (by decide) h (fun c h => ?_) (fun c h => ?_)
  · refine J_iconst hX (0 : Int32) dX10_mark_22 ic_0 ?_
    exact J_ireturn hX dX10_mark_23 h hF narrow_b0
  · refine J_iload_n hX dX10_mark_4 rfl 1 rfl ?_
    refine J_iconst hX (2 : Int32) dX10_mark_5 ic_2 ?_
    refine J_icmp_ge hX 22 dX10_mark_6 (by decide) h (fun c h => ?_) (fun c h => ?_)
    · refine J_iload_n hX dX10_mark_9 rfl 2 rfl ?_
      refine J_if_eq hX 24 dX10_mark_10 (by decide) h (fun c h => ?_) (fun c h => ?_)
      · exact t_X10_mark_J24 hX hd0 hn ht hu hw hv hF x1 x2  m h
      · refine J_aload_n hX dX10_mark_13 rfl 0 rfl ?_
        refine J_getR hX dX10_mark_14 fl_RX10_73 (ltn ltc_0 hn) lo_0 rfl (rt_0_11 _ _ _ _ _) ?_
        refine J_iload_n hX dX10_mark_17 rfl 1 rfl ?_
        refine J_baload hX dX10_mark_18 (ltn ltc_75 hn) lay_75 h (fun h => ?_)
        refine J_if_ne hX 24 dX10_mark_19 (by decide) h (fun c h => ?_) (fun c h => ?_)
        · refine J_iconst hX (0 : Int32) dX10_mark_22 ic_0 ?_
          exact J_ireturn hX dX10_mark_23 h hF narrow_b0
        · exact t_X10_mark_J24 hX hd0 hn ht hu hw hv hF x1 x2  m h
    · refine J_iconst hX (0 : Int32) dX10_mark_22 ic_0 ?_
      exact J_ireturn hX dX10_mark_23 h hF narrow_b0
theorem c_X10_mark {G : GG} {l : Launch} {ρ : Nat → Nat} {n : Nat} {x : Option Nat} (hn : 126 ≤ n) {t : Nat} {u : Nat} {w : Nat} {v : Nat} (ht : isTo t) (hu : isTo u) (hw : isWk w) (hv : isWk v) {x1 : Int32} {x2 : Int32} {m : Mm} {rE : Int32} {mE : Mm} (h : f_X10_mark t u w v x1 x2 m = some (rE, mE)) : CT G l yX10_mark cX10_mark 3 (some .boolean) 2 0 0 ρ n (RT t u w v x) [.ref 0, .int x1, .int x2] m (some (.int rE)) (RT t u w v x) mE := ct_of_J (by decide) rfl (Nat.le_of_ble_eq_true rfl) (fun X hX e1 e2 e3 e4 hQ hr hl => t_X10_mark hX (Nat.le_refl _) hn ht hu hw hv ⟨by rw [hQ, e3, e4], hr, hl⟩ h)
theorem t_X11_laysSeen_L14 {X : XX} {G : GG} {ρ : Nat → Nat} {n t u w v : Nat} {x : Option Nat} {d : Nat} (hX : Ok X G ρ cX11_laysSeen 4 RX11 d) (hd0 : 0 ≤ d) (hn : 126 ≤ n) {mE : Mm} (hF : Fin' X G ρ n none none (RT t u w v x) mE) : ∀ (k : Nat) (v1 : Int32) (v2 : Int32) (v3 : Int32) (m : Mm), f_X11_laysSeen_L14 k v1 v2 v3 m = some mE → J X G ρ n 4 14 [(0, .ref 78), (1, .int v1), (2, .int v2), (3, .int v3)] [] (RT t u w v x) m := by
  intro k
  induction k with
  | zero => intro _ _ _ _ h; rw [f_X11_laysSeen_L14] at h; cases h
  | succ k ih =>
    intro v1 v2 v3 m h
    rw [f_X11_laysSeen_L14] at h
    refine J_iload_n hX dX11_laysSeen_14 rfl 3 rfl ?_
    refine J_bipush hX (8 : Int32) dX11_laysSeen_15 (by decide) ?_
    refine J_icmp_ge hX 70 dX11_laysSeen_17 (by decide) h (fun c h => ?_) (fun c h => ?_)
    · refine J_aload_n hX dX11_laysSeen_20 rfl 0 rfl ?_
      refine J_getR hX dX11_laysSeen_21 fl_RX11_119 (ltn ltc_78 hn) lo_78 rfl (rt_78_48 _ _ _ _ _) ?_
      refine J_bipush hX (8 : Int32) dX11_laysSeen_24 (by decide) ?_
      refine J_iload_n hX dX11_laysSeen_26 rfl 2 rfl ?_
      refine J_imul hX dX11_laysSeen_27 ?_
      refine J_iload_n hX dX11_laysSeen_28 rfl 3 rfl ?_
      refine J_iadd hX dX11_laysSeen_29 ?_
      refine J_aload_n hX dX11_laysSeen_30 rfl 0 rfl ?_
      refine J_getR hX dX11_laysSeen_31 fl_RX11_119 (ltn ltc_78 hn) lo_78 rfl (rt_78_48 _ _ _ _ _) ?_
      refine J_bipush hX (8 : Int32) dX11_laysSeen_34 (by decide) ?_
      refine J_iload_n hX dX11_laysSeen_36 rfl 1 rfl ?_
      refine J_imul hX dX11_laysSeen_37 ?_
      refine J_iload_n hX dX11_laysSeen_38 rfl 3 rfl ?_
      refine J_iadd hX dX11_laysSeen_39 ?_
      refine J_iaload hX dX11_laysSeen_40 (ltn ltc_115 hn) lay_115 h (fun h => ?_)
      refine J_iastore hX dX11_laysSeen_41 (ltn ltc_115 hn) lay_115 h (fun m2 h => ?_)
      refine J_aload_n hX dX11_laysSeen_42 rfl 0 rfl ?_
      refine J_getR hX dX11_laysSeen_43 fl_RX11_122 (ltn ltc_78 hn) lo_78 rfl (rt_78_49 _ _ _ _ _) ?_
      refine J_bipush hX (8 : Int32) dX11_laysSeen_46 (by decide) ?_
      refine J_iload_n hX dX11_laysSeen_48 rfl 2 rfl ?_
      refine J_imul hX dX11_laysSeen_49 ?_
      refine J_iload_n hX dX11_laysSeen_50 rfl 3 rfl ?_
      refine J_iadd hX dX11_laysSeen_51 ?_
      refine J_aload_n hX dX11_laysSeen_52 rfl 0 rfl ?_
      refine J_getR hX dX11_laysSeen_53 fl_RX11_122 (ltn ltc_78 hn) lo_78 rfl (rt_78_49 _ _ _ _ _) ?_
      refine J_bipush hX (8 : Int32) dX11_laysSeen_56 (by decide) ?_
      refine J_iload_n hX dX11_laysSeen_58 rfl 1 rfl ?_
      refine J_imul hX dX11_laysSeen_59 ?_
      refine J_iload_n hX dX11_laysSeen_60 rfl 3 rfl ?_
      refine J_iadd hX dX11_laysSeen_61 ?_
      refine J_baload hX dX11_laysSeen_62 (ltn ltc_116 hn) lay_116 h (fun h => ?_)
      obtain ⟨gB, h⟩ := gd_some h
      refine J_bastore hX dX11_laysSeen_63 (ltn ltc_116 hn) lay_116 (vzB gB) h (fun m3 h => ?_)
      refine J_iinc hX (v3 + (1 : Int32)) [(3, .int (v3 + (1 : Int32))), (0, .ref 78), (1, .int v1), (2, .int v2)] dX11_laysSeen_64 3 rfl (congrArg (fun z => v3 + z) ic_1) (by decide) rfl ?_
      refine J_goto hX 14 dX11_laysSeen_67 (by decide) ?_
      refine J_sub [(0, .ref 78), (1, .int v1), (2, .int v2), (3, .int (v3 + (1 : Int32)))] [1, 2, 3, 0] rfl ?_
      exact ih v1 v2 (v3 + (1 : Int32)) m3 h
    · exact J_return hX dX11_laysSeen_70 h hF
theorem t_X11_laysSeen {X : XX} {G : GG} {ρ : Nat → Nat} {n t u w v : Nat} {x : Option Nat} {d : Nat} (hX : Ok X G ρ cX11_laysSeen 4 RX11 d) (hd0 : 0 ≤ d) (hn : 126 ≤ n) {mE : Mm} (hF : Fin' X G ρ n none none (RT t u w v x) mE) {x1 : Int32} {x2 : Int32} {m : Mm} (h : f_X11_laysSeen x1 x2 m = some mE) : J X G ρ n 4 0 [(0, .ref 78), (1, .int x1), (2, .int x2)] [] (RT t u w v x) m := by
  unfold f_X11_laysSeen at h
  refine J_aload_n hX dX11_laysSeen_0 rfl 0 rfl ?_
  refine J_getR hX dX11_laysSeen_1 fl_RX11_116 (ltn ltc_78 hn) lo_78 rfl (rt_78_47 _ _ _ _ _) ?_
  refine J_iload_n hX dX11_laysSeen_4 rfl 2 rfl ?_
  refine J_aload_n hX dX11_laysSeen_5 rfl 0 rfl ?_
  refine J_getR hX dX11_laysSeen_6 fl_RX11_116 (ltn ltc_78 hn) lo_78 rfl (rt_78_47 _ _ _ _ _) ?_
  refine J_iload_n hX dX11_laysSeen_9 rfl 1 rfl ?_
  refine J_iaload hX dX11_laysSeen_10 (ltn ltc_114 hn) lay_114 h (fun h => ?_)
  refine J_iastore hX dX11_laysSeen_11 (ltn ltc_114 hn) lay_114 h (fun m1 h => ?_)
  refine J_iconst hX (0 : Int32) dX11_laysSeen_12 ic_0 ?_
  refine J_istore_n hX [(3, .int (0 : Int32)), (0, .ref 78), (1, .int x1), (2, .int x2)] dX11_laysSeen_13 rfl (by decide) rfl ?_
  refine J_sub [(0, .ref 78), (1, .int x1), (2, .int x2), (3, .int (0 : Int32))] [1, 2, 3, 0] rfl ?_
  exact t_X11_laysSeen_L14 hX hd0 hn hF FU x1 x2 (0 : Int32)  m1 h
theorem c_X11_laysSeen {G : GG} {l : Launch} {ρ : Nat → Nat} {n t u w v : Nat} {x : Option Nat} (hn : 126 ≤ n) {x1 : Int32} {x2 : Int32} {m : Mm} {mE : Mm} (h : f_X11_laysSeen x1 x2 m = some mE) : CT G l yX11_laysSeen cX11_laysSeen 4 none 0 0 0 ρ n (RT t u w v x) [.ref 78, .int x1, .int x2] m none (RT t u w v x) mE := ct_of_J (by decide) rfl (Nat.le_of_ble_eq_true rfl) (fun X hX e1 e2 e3 e4 hQ hr hl => t_X11_laysSeen hX (Nat.le_refl _) hn ⟨by rw [hQ, e3, e4], hr, hl⟩ h)
theorem t_X11_mark_J59 {X : XX} {G : GG} {ρ : Nat → Nat} {n t u w v : Nat} {x : Option Nat} {d : Nat} (hX : Ok X G ρ cX11_mark 5 RX11 d) (hd0 : 1 ≤ d) (hn : 126 ≤ n) {rE : Int32} {mE : Mm} (hF : Fin' X G ρ n (some .boolean) (some (.int rE)) (RT t u w v x) mE) (v1 : Int32) (v2 : Int32) (v3 : Int32) (s0 : Int32) (m : Mm) (h : f_X11_mark_J59 v1 v2 v3 s0 m = some (rE, mE)) : J X G ρ n 5 59 [(0, .ref 78), (1, .int v1), (2, .int v2), (3, .int v3)] [.int s0] (RT t u w v x) m := by
  unfold f_X11_mark_J59 at h
  refine J_istore hX [(4, .int s0), (0, .ref 78), (1, .int v1), (2, .int v2), (3, .int v3)] dX11_mark_59 (by decide) rfl ?_
  refine J_aload_n hX dX11_mark_61 rfl 1 rfl ?_
  refine J_iload_n hX dX11_mark_62 rfl 4 rfl ?_
  refine J_iload hX dX11_mark_63 0 rfl ?_
  obtain ⟨m5, h0, h⟩ := bd1_some h
  refine J_callVv (As := [.int v3, .int s0]) (st := []) hX dX11_mark_65 cw_RX11_502 (by omega) (c_X11_laysSeen hn  h0) (ltn ltc_78 hn) lo_78 (by decide) rfl rfl rfl (Nat.le_of_ble_eq_true rfl) ?_
  clear h0
  refine J_iload_n hX dX11_mark_68 rfl 3 rfl ?_
  refine J_if_eq hX 92 dX11_mark_69 (by decide) h (fun c h => ?_) (fun c h => ?_)
  · refine J_aload_n hX dX11_mark_92 rfl 1 rfl ?_
    refine J_getR hX dX11_mark_93 fl_RX11_125 (ltn ltc_78 hn) lo_78 rfl (rt_78_50 _ _ _ _ _) ?_
    refine J_iconst hX (0 : Int32) dX11_mark_96 ic_0 ?_
    refine J_aload_n hX dX11_mark_97 rfl 1 rfl ?_
    refine J_getR hX dX11_mark_98 fl_RX11_134 (ltn ltc_78 hn) lo_78 rfl (rt_78_53 _ _ _ _ _) ?_
    refine J_sipush hX (374 : Int32) dX11_mark_101 (by decide) ?_
    refine J_iload_n hX dX11_mark_104 rfl 2 rfl ?_
    refine J_imul hX dX11_mark_105 ?_
    obtain ⟨m6, h0, h⟩ := bd1_some h
    refine J_callSv (As := [.ref 117, .int (0 : Int32), .ref 120, .int ((374 : Int32) * v1)]) (st := []) hX dX11_mark_106 cw_RX11_418 (by omega) (c_X11_copies hn p_isIa_117 p_isIa_120 h0) rfl rfl (Nat.le_of_ble_eq_true rfl) ?_
    clear h0
    refine J_iconst hX (1 : Int32) dX11_mark_109 ic_1 ?_
    exact J_ireturn hX dX11_mark_110 h hF narrow_b1
  · refine J_aload_n hX dX11_mark_72 rfl 1 rfl ?_
    refine J_getR hX dX11_mark_73 fl_RX11_134 (ltn ltc_78 hn) lo_78 rfl (rt_78_53 _ _ _ _ _) ?_
    refine J_sipush hX (374 : Int32) dX11_mark_76 (by decide) ?_
    refine J_iload_n hX dX11_mark_79 rfl 2 rfl ?_
    refine J_imul hX dX11_mark_80 ?_
    refine J_aload_n hX dX11_mark_81 rfl 1 rfl ?_
    refine J_getR hX dX11_mark_82 fl_RX11_125 (ltn ltc_78 hn) lo_78 rfl (rt_78_50 _ _ _ _ _) ?_
    refine J_iconst hX (0 : Int32) dX11_mark_85 ic_0 ?_
    obtain ⟨m7, h0, h⟩ := bd1_some h
    refine J_callSv (As := [.ref 120, .int ((374 : Int32) * v1), .ref 117, .int (0 : Int32)]) (st := []) hX dX11_mark_86 cw_RX11_418 (by omega) (c_X11_copies hn p_isIa_120 p_isIa_117 h0) rfl rfl (Nat.le_of_ble_eq_true rfl) ?_
    clear h0
    refine J_goto hX 109 dX11_mark_89 (by decide) ?_
    refine J_iconst hX (1 : Int32) dX11_mark_109 ic_1 ?_
    exact J_ireturn hX dX11_mark_110 h hF narrow_b1
theorem t_X11_mark_J47 {X : XX} {G : GG} {ρ : Nat → Nat} {n t u w v : Nat} {x : Option Nat} {d : Nat} (hX : Ok X G ρ cX11_mark 5 RX11 d) (hd0 : 1 ≤ d) (hn : 126 ≤ n) {rE : Int32} {mE : Mm} (hF : Fin' X G ρ n (some .boolean) (some (.int rE)) (RT t u w v x) mE) (v1 : Int32) (v2 : Int32) (s0 : Int32) (m : Mm) (h : f_X11_mark_J47 v1 v2 s0 m = some (rE, mE)) : J X G ρ n 5 47 [(0, .ref 78), (1, .int v1), (2, .int v2)] [.int s0] (RT t u w v x) m := by
  unfold f_X11_mark_J47 at h
  refine J_istore_n hX [(3, .int s0), (0, .ref 78), (1, .int v1), (2, .int v2)] dX11_mark_47 rfl (by decide) rfl ?_
  refine J_iload_n hX dX11_mark_48 rfl 3 rfl ?_
  refine J_if_eq hX 56 dX11_mark_49 (by decide) h (fun c h => ?_) (fun c h => ?_)
  · refine J_iconst hX (1 : Int32) dX11_mark_56 ic_1 ?_
    refine J_iload_n hX dX11_mark_57 rfl 2 rfl ?_
    refine J_iadd hX dX11_mark_58 ?_
    refine J_sub [(0, .ref 78), (1, .int v1), (2, .int v2), (3, .int s0)] [1, 2, 3, 0] rfl ?_
    exact t_X11_mark_J59 hX hd0 hn hF v1 v2 s0 ((1 : Int32) + v1) m h
  · refine J_iconst hX (0 : Int32) dX11_mark_52 ic_0 ?_
    refine J_goto hX 59 dX11_mark_53 (by decide) ?_
    refine J_sub [(0, .ref 78), (1, .int v1), (2, .int v2), (3, .int s0)] [1, 2, 3, 0] rfl ?_
    exact t_X11_mark_J59 hX hd0 hn hF v1 v2 s0 (0 : Int32) m h
theorem t_X11_mark_J29 {X : XX} {G : GG} {ρ : Nat → Nat} {n t u w v : Nat} {x : Option Nat} {d : Nat} (hX : Ok X G ρ cX11_mark 5 RX11 d) (hd0 : 1 ≤ d) (hn : 126 ≤ n) {rE : Int32} {mE : Mm} (hF : Fin' X G ρ n (some .boolean) (some (.int rE)) (RT t u w v x) mE) (v1 : Int32) (v2 : Int32) (m : Mm) (h : f_X11_mark_J29 v1 v2 m = some (rE, mE)) : J X G ρ n 5 29 [(0, .ref 78), (1, .int v1), (2, .int v2)] [] (RT t u w v x) m := by
  unfold f_X11_mark_J29 at h
  refine J_aload_n hX dX11_mark_29 rfl 0 rfl ?_
  refine J_getR hX dX11_mark_30 fl_RX11_137 (ltn ltc_78 hn) lo_78 rfl (rt_78_54 _ _ _ _ _) ?_
  refine J_iload_n hX dX11_mark_33 rfl 1 rfl ?_
  refine J_iconst hX (1 : Int32) dX11_mark_34 ic_1 ?_
  refine J_bastore hX dX11_mark_35 (ltn ltc_121 hn) lay_121 vz1 h (fun m4 h => ?_)
  refine J_iload_n hX dX11_mark_36 rfl 2 rfl ?_
  refine J_if_eq hX 46 dX11_mark_37 (by decide) h (fun c h => ?_) (fun c h => ?_)
  · refine J_iconst hX (0 : Int32) dX11_mark_46 ic_0 ?_
    exact t_X11_mark_J47 hX hd0 hn hF v1 v2 (0 : Int32) m4 h
  · refine J_iconst hX (1 : Int32) dX11_mark_40 ic_1 ?_
    refine J_iload_n hX dX11_mark_41 rfl 1 rfl ?_
    refine J_iadd hX dX11_mark_42 ?_
    refine J_goto hX 47 dX11_mark_43 (by decide) ?_
    exact t_X11_mark_J47 hX hd0 hn hF v1 v2 ((1 : Int32) + v1) m4 h
theorem t_X11_mark {X : XX} {G : GG} {ρ : Nat → Nat} {n t u w v : Nat} {x : Option Nat} {d : Nat} (hX : Ok X G ρ cX11_mark 5 RX11 d) (hd0 : 1 ≤ d) (hn : 126 ≤ n) {rE : Int32} {mE : Mm} (hF : Fin' X G ρ n (some .boolean) (some (.int rE)) (RT t u w v x) mE) {x1 : Int32} {x2 : Int32} {m : Mm} (h : f_X11_mark x1 x2 m = some (rE, mE)) : J X G ρ n 5 0 [(0, .ref 78), (1, .int x1), (2, .int x2)] [] (RT t u w v x) m := by
  unfold f_X11_mark at h
  refine J_aload_n hX dX11_mark_0 rfl 0 rfl ?_
  refine J_iconst hX (0 : Int32) dX11_mark_1 ic_0 ?_
  refine J_putI hX dX11_mark_2 pl_RX11_152 (ltn ltc_78 hn) lo_78 rfl rfl rfl h (fun m1 h => ?_)
  refine J_iload_n hX dX11_mark_5 rfl 1 rfl ?_
  refine J_iconst hX (0 : Int32) dX11_mark_6 ic_0 ?_
  refine J_iconst hX (1 : Int32) dX11_mark_7 ic_1 ?_
  obtain ⟨r3, m2, h0, h⟩ := bd2_some h
  refine J_callSi (As := [.int x1, .int (0 : Int32), .int (1 : Int32)]) (st := []) hX dX11_mark_8 cw_RX11_239 (by omega) (c_X11_within hn  h0) rfl rfl (Nat.le_of_ble_eq_true rfl) ?_
  clear h0
  refine J_if_eq hX 27 dX11_mark_11 (by decide) h (fun c h => ?_) (fun c h => ?_)
  · refine J_iconst hX (0 : Int32) dX11_mark_27 ic_0 ?_
    exact J_ireturn hX dX11_mark_28 h hF narrow_b0
  · refine J_iload_n hX dX11_mark_14 rfl 2 rfl ?_
    refine J_if_eq hX 29 dX11_mark_15 (by decide) h (fun c h => ?_) (fun c h => ?_)
    · exact t_X11_mark_J29 hX hd0 hn hF x1 x2  m2 h
    · refine J_aload_n hX dX11_mark_18 rfl 0 rfl ?_
      refine J_getR hX dX11_mark_19 fl_RX11_137 (ltn ltc_78 hn) lo_78 rfl (rt_78_54 _ _ _ _ _) ?_
      refine J_iload_n hX dX11_mark_22 rfl 1 rfl ?_
      refine J_baload hX dX11_mark_23 (ltn ltc_121 hn) lay_121 h (fun h => ?_)
      refine J_if_ne hX 29 dX11_mark_24 (by decide) h (fun c h => ?_) (fun c h => ?_)
      · refine J_iconst hX (0 : Int32) dX11_mark_27 ic_0 ?_
        exact J_ireturn hX dX11_mark_28 h hF narrow_b0
      · exact t_X11_mark_J29 hX hd0 hn hF x1 x2  m2 h
theorem c_X11_mark {G : GG} {l : Launch} {ρ : Nat → Nat} {n t u w v : Nat} {x : Option Nat} (hn : 126 ≤ n) {x1 : Int32} {x2 : Int32} {m : Mm} {rE : Int32} {mE : Mm} (h : f_X11_mark x1 x2 m = some (rE, mE)) : CT G l yX11_mark cX11_mark 5 (some .boolean) 1 0 0 ρ n (RT t u w v x) [.ref 78, .int x1, .int x2] m (some (.int rE)) (RT t u w v x) mE := ct_of_J (by decide) rfl (Nat.le_of_ble_eq_true rfl) (fun X hX e1 e2 e3 e4 hQ hr hl => t_X11_mark hX (Nat.le_refl _) hn ⟨by rw [hQ, e3, e4], hr, hl⟩ h)
theorem t_X10_count {X : XX} {G : GG} {ρ : Nat → Nat} {n : Nat} {x : Option Nat} {d : Nat} {t : Nat} {u : Nat} {w : Nat} {v : Nat} (hX : Ok X G ρ cX10_count 2 RX10 d) (hd0 : 3 ≤ d) (hn : 126 ≤ n) (ht : isTo t) (hu : isTo u) (hw : isWk w) (hv : isWk v) {rE : Int32} {mE : Mm} (hF : Fin' X G ρ n (some .int) (some (.int rE)) (RT t u w v x) mE) {x1 : Int32} {m : Mm} (h : f_X10_count t u w v x1 m = some (rE, mE)) : J X G ρ n 2 0 [(0, .ref 0), (1, .int x1)] [] (RT t u w v x) m := by
  unfold f_X10_count at h
  refine J_iload_n hX dX10_count_0 rfl 1 rfl ?_
  refine J_split h (fun c0 h => ?_) (fun c0 h => ?_)
  · refine J_tabIn hX 68 (0 : Int32) dX10_count_1 c0 (by decide) (by decide) (by decide) (by decide) ?_
    refine J_aload_n hX dX10_count_68 rfl 0 rfl ?_
    refine J_getR hX dX10_count_69 fl_RX10_50 (ltn ltc_0 hn) lo_0 rfl (rt_0_6 _ _ _ _ _) ?_
    refine J_getI hX dX10_count_72 fl_RX10_112 (ltn ltc_26 hn) lo_26 rfl ?_
    exact J_ireturn hX dX10_count_75 h hF rfl
  · refine J_split h (fun c1 h => ?_) (fun c1 h => ?_)
    · refine J_tabIn hX 76 (1 : Int32) dX10_count_1 c1 (by decide) (by decide) (by decide) (by decide) ?_
      refine J_aload_n hX dX10_count_76 rfl 0 rfl ?_
      refine J_getR hX dX10_count_77 fl_RX10_19 (ltn ltc_0 hn) lo_0 rfl (rt_0_1 _ _ _ _ _) ?_
      refine J_getI hX dX10_count_80 fl_RX10_245 (ltn (lt_isTo_0 ht) hn) (lo_isTo_0 ht) rfl ?_
      exact J_ireturn hX dX10_count_83 h hF rfl
    · refine J_split h (fun c2 h => ?_) (fun c2 h => ?_)
      · refine J_tabIn hX 84 (2 : Int32) dX10_count_1 c2 (by decide) (by decide) (by decide) (by decide) ?_
        refine J_aload_n hX dX10_count_84 rfl 0 rfl ?_
        refine J_getR hX dX10_count_85 fl_RX10_50 (ltn ltc_0 hn) lo_0 rfl (rt_0_6 _ _ _ _ _) ?_
        refine J_getI hX dX10_count_88 fl_RX10_327 (ltn ltc_26 hn) lo_26 rfl ?_
        exact J_ireturn hX dX10_count_91 h hF rfl
      · refine J_split h (fun c3 h => ?_) (fun c3 h => ?_)
        · refine J_tabIn hX 92 (3 : Int32) dX10_count_1 c3 (by decide) (by decide) (by decide) (by decide) ?_
          refine J_aload_n hX dX10_count_92 rfl 0 rfl ?_
          refine J_getR hX dX10_count_93 fl_RX10_50 (ltn ltc_0 hn) lo_0 rfl (rt_0_6 _ _ _ _ _) ?_
          refine J_getI hX dX10_count_96 fl_RX10_109 (ltn ltc_26 hn) lo_26 rfl ?_
          exact J_ireturn hX dX10_count_99 h hF rfl
        · refine J_split h (fun c4 h => ?_) (fun c4 h => ?_)
          · refine J_tabIn hX 100 (4 : Int32) dX10_count_1 c4 (by decide) (by decide) (by decide) (by decide) ?_
            refine J_aload_n hX dX10_count_100 rfl 0 rfl ?_
            refine J_getR hX dX10_count_101 fl_RX10_62 (ltn ltc_0 hn) lo_0 rfl (rt_0_8 _ _ _ _ _) ?_
            refine J_getI hX dX10_count_104 fl_RX10_330 (ltn ltc_54 hn) lo_54 rfl ?_
            exact J_ireturn hX dX10_count_107 h hF rfl
          · refine J_split h (fun c5 h => ?_) (fun c5 h => ?_)
            · refine J_tabIn hX 108 (5 : Int32) dX10_count_1 c5 (by decide) (by decide) (by decide) (by decide) ?_
              refine J_aload_n hX dX10_count_108 rfl 0 rfl ?_
              refine J_getR hX dX10_count_109 fl_RX10_62 (ltn ltc_0 hn) lo_0 rfl (rt_0_8 _ _ _ _ _) ?_
              refine J_iconst hX (2 : Int32) dX10_count_112 ic_2 ?_
              obtain ⟨r2, m1, h0, h⟩ := bd2_some h
              refine J_callVi (As := [.int (2 : Int32)]) (st := []) hX dX10_count_113 cw_RX10_333 (by omega) (c_X6_unitsThat hn p_isSt_54 h0) (ltn ltc_54 hn) lo_54 (by decide) rfl rfl rfl (Nat.le_of_ble_eq_true rfl) ?_
              clear h0
              exact J_ireturn hX dX10_count_116 h hF rfl
            · refine J_split h (fun c6 h => ?_) (fun c6 h => ?_)
              · refine J_tabIn hX 117 (6 : Int32) dX10_count_1 c6 (by decide) (by decide) (by decide) (by decide) ?_
                refine J_aload_n hX dX10_count_117 rfl 0 rfl ?_
                refine J_getR hX dX10_count_118 fl_RX10_62 (ltn ltc_0 hn) lo_0 rfl (rt_0_8 _ _ _ _ _) ?_
                refine J_iconst hX (1 : Int32) dX10_count_121 ic_1 ?_
                obtain ⟨r4, m3, h0, h⟩ := bd2_some h
                refine J_callVi (As := [.int (1 : Int32)]) (st := []) hX dX10_count_122 cw_RX10_333 (by omega) (c_X6_unitsThat hn p_isSt_54 h0) (ltn ltc_54 hn) lo_54 (by decide) rfl rfl rfl (Nat.le_of_ble_eq_true rfl) ?_
                clear h0
                exact J_ireturn hX dX10_count_125 h hF rfl
              · refine J_split h (fun c7 h => ?_) (fun c7 h => ?_)
                · refine J_tabIn hX 126 (7 : Int32) dX10_count_1 c7 (by decide) (by decide) (by decide) (by decide) ?_
                  refine J_aload_n hX dX10_count_126 rfl 0 rfl ?_
                  refine J_getR hX dX10_count_127 fl_RX10_62 (ltn ltc_0 hn) lo_0 rfl (rt_0_8 _ _ _ _ _) ?_
                  obtain ⟨r6, m5, h0, h⟩ := bd2_some h
                  refine J_callVi (As := []) (st := []) hX dX10_count_130 cw_RX10_229 (by omega) (c_X6_deadStripes hn p_isSt_54 h0) (ltn ltc_54 hn) lo_54 (by decide) rfl rfl rfl (Nat.le_of_ble_eq_true rfl) ?_
                  clear h0
                  exact J_ireturn hX dX10_count_133 h hF rfl
                · refine J_split h (fun c8 h => ?_) (fun c8 h => ?_)
                  · refine J_tabIn hX 134 (8 : Int32) dX10_count_1 c8 (by decide) (by decide) (by decide) (by decide) ?_
                    refine J_aload_n hX dX10_count_134 rfl 0 rfl ?_
                    refine J_getR hX dX10_count_135 fl_RX10_62 (ltn ltc_0 hn) lo_0 rfl (rt_0_8 _ _ _ _ _) ?_
                    obtain ⟨r8, m7, h0, h⟩ := bd2_some h
                    refine J_callVi (As := []) (st := []) hX dX10_count_138 cw_RX10_225 (by omega) (c_X6_allLoads hn p_isSt_54 h0) (ltn ltc_54 hn) lo_54 (by decide) rfl rfl rfl (Nat.le_of_ble_eq_true rfl) ?_
                    clear h0
                    exact J_ireturn hX dX10_count_141 h hF rfl
                  · refine J_split h (fun c9 h => ?_) (fun c9 h => ?_)
                    · refine J_tabIn hX 142 (9 : Int32) dX10_count_1 c9 (by decide) (by decide) (by decide) (by decide) ?_
                      refine J_aload_n hX dX10_count_142 rfl 0 rfl ?_
                      refine J_getR hX dX10_count_143 fl_RX10_19 (ltn ltc_0 hn) lo_0 rfl (rt_0_1 _ _ _ _ _) ?_
                      obtain ⟨r10, m9, h0, h⟩ := bd2_some h
                      refine J_callVi (As := []) (st := []) hX dX10_count_146 cw_RX10_275 (by omega) (c_X8_pace hn ht h0) (ltn (lt_isTo_0 ht) hn) (lo_isTo_0 ht) (by decide) rfl rfl rfl (Nat.le_of_ble_eq_true rfl) ?_
                      clear h0
                      exact J_ireturn hX dX10_count_149 h hF rfl
                    · refine J_split h (fun c10 h => ?_) (fun c10 h => ?_)
                      · refine J_tabIn hX 150 (10 : Int32) dX10_count_1 c10 (by decide) (by decide) (by decide) (by decide) ?_
                        refine J_aload_n hX dX10_count_150 rfl 0 rfl ?_
                        refine J_getR hX dX10_count_151 fl_RX10_40 (ltn ltc_0 hn) lo_0 rfl (rt_0_4 _ _ _ _ _) ?_
                        refine J_getI hX dX10_count_154 fl_RX10_105 (ltn (lt_isWk_0 hw) hn) (lo_isWk_0 hw) rfl ?_
                        exact J_ireturn hX dX10_count_157 h hF rfl
                      · refine J_split h (fun c11 h => ?_) (fun c11 h => ?_)
                        · refine J_tabIn hX 158 (11 : Int32) dX10_count_1 c11 (by decide) (by decide) (by decide) (by decide) ?_
                          refine J_aload_n hX dX10_count_158 rfl 0 rfl ?_
                          refine J_getR hX dX10_count_159 fl_RX10_62 (ltn ltc_0 hn) lo_0 rfl (rt_0_8 _ _ _ _ _) ?_
                          refine J_getI hX dX10_count_162 fl_RX10_336 (ltn ltc_54 hn) lo_54 rfl ?_
                          exact J_ireturn hX dX10_count_165 h hF rfl
                        · refine J_split h (fun c12 h => ?_) (fun c12 h => ?_)
                          · refine J_tabIn hX 166 (12 : Int32) dX10_count_1 c12 (by decide) (by decide) (by decide) (by decide) ?_
                            refine J_aload_n hX dX10_count_166 rfl 0 rfl ?_
                            refine J_getR hX dX10_count_167 fl_RX10_12 (ltn ltc_0 hn) lo_0 rfl (rt_0_0 _ _ _ _ _) ?_
                            refine J_getI hX dX10_count_170 fl_RX10_90 (ltn ltc_1 hn) lo_1 rfl ?_
                            exact J_ireturn hX dX10_count_173 h hF rfl
                          · refine J_tabOut hX 174 [(0 : Int32), (1 : Int32), (2 : Int32), (3 : Int32), (4 : Int32), (5 : Int32), (6 : Int32), (7 : Int32), (8 : Int32), (9 : Int32), (10 : Int32), (11 : Int32), (12 : Int32)] dX10_count_1 (by decide) (by simp only [List.mem_cons, List.not_mem_nil, or_false, not_or]; exact ⟨c0, c1, c2, c3, c4, c5, c6, c7, c8, c9, c10, c11, c12⟩) (by decide) ?_
                            refine J_iconst hX (-1 : Int32) dX10_count_174 ic_m1 ?_
                            exact J_ireturn hX dX10_count_175 h hF rfl
theorem c_X10_count {G : GG} {l : Launch} {ρ : Nat → Nat} {n : Nat} {x : Option Nat} (hn : 126 ≤ n) {t : Nat} {u : Nat} {w : Nat} {v : Nat} (ht : isTo t) (hu : isTo u) (hw : isWk w) (hv : isWk v) {x1 : Int32} {m : Mm} {rE : Int32} {mE : Mm} (h : f_X10_count t u w v x1 m = some (rE, mE)) : CT G l yX10_count cX10_count 2 (some .int) 3 0 0 ρ n (RT t u w v x) [.ref 0, .int x1] m (some (.int rE)) (RT t u w v x) mE := ct_of_J (by decide) rfl (Nat.le_of_ble_eq_true rfl) (fun X hX e1 e2 e3 e4 hQ hr hl => t_X10_count hX (Nat.le_refl _) hn ht hu hw hv ⟨by rw [hQ, e3, e4], hr, hl⟩ h)
theorem t_X11_count {X : XX} {G : GG} {ρ : Nat → Nat} {n t u w v : Nat} {x : Option Nat} {d : Nat} (hX : Ok X G ρ cX11_count 2 RX11 d) (hd0 : 3 ≤ d) (hn : 126 ≤ n) {rE : Int32} {mE : Mm} (hF : Fin' X G ρ n (some .int) (some (.int rE)) (RT t u w v x) mE) {x1 : Int32} {m : Mm} (h : f_X11_count x1 m = some (rE, mE)) : J X G ρ n 2 0 [(0, .ref 78), (1, .int x1)] [] (RT t u w v x) m := by
  unfold f_X11_count at h
  refine J_aload_n hX dX11_count_0 rfl 0 rfl ?_
  refine J_iconst hX (0 : Int32) dX11_count_1 ic_0 ?_
  refine J_putI hX dX11_count_2 pl_RX11_152 (ltn ltc_78 hn) lo_78 rfl rfl rfl h (fun m1 h => ?_)
  refine J_iload_n hX dX11_count_5 rfl 1 rfl ?_
  refine J_iconst hX (0 : Int32) dX11_count_6 ic_0 ?_
  refine J_bipush hX (12 : Int32) dX11_count_7 (by decide) ?_
  obtain ⟨r3, m2, h0, h⟩ := bd2_some h
  refine J_callSi (As := [.int x1, .int (0 : Int32), .int (12 : Int32)]) (st := []) hX dX11_count_9 cw_RX11_239 (by omega) (c_X11_within hn  h0) rfl rfl (Nat.le_of_ble_eq_true rfl) ?_
  clear h0
  refine J_if_ne hX 17 dX11_count_12 (by decide) h (fun c h => ?_) (fun c h => ?_)
  · refine J_iconst hX (-1 : Int32) dX11_count_15 ic_m1 ?_
    exact J_ireturn hX dX11_count_16 h hF rfl
  · refine J_iload_n hX dX11_count_17 rfl 1 rfl ?_
    refine J_iconst hX (4 : Int32) dX11_count_18 ic_4 ?_
    refine J_icmp_ge hX 57 dX11_count_19 (by decide) h (fun c h => ?_) (fun c h => ?_)
    · refine J_iload_n hX dX11_count_22 rfl 1 rfl ?_
      refine J_iconst hX (2 : Int32) dX11_count_23 ic_2 ?_
      refine J_icmp_ge hX 36 dX11_count_24 (by decide) h (fun c h => ?_) (fun c h => ?_)
      · refine J_aload_n hX dX11_count_27 rfl 0 rfl ?_
        refine J_getR hX dX11_count_28 fl_RX11_13 (ltn ltc_78 hn) lo_78 rfl (rt_78_10 _ _ _ _ _) ?_
        refine J_iload_n hX dX11_count_31 rfl 1 rfl ?_
        refine J_iaload hX dX11_count_32 (ltn ltc_80 hn) lay_80 h (fun h => ?_)
        refine J_goto hX 56 dX11_count_33 (by decide) ?_
        exact J_ireturn hX dX11_count_56 h hF rfl
      · refine J_iload_n hX dX11_count_36 rfl 1 rfl ?_
        refine J_iconst hX (2 : Int32) dX11_count_37 ic_2 ?_
        refine J_icmp_ne hX 50 dX11_count_38 (by decide) h (fun c h => ?_) (fun c h => ?_)
        · refine J_aload_n hX dX11_count_41 rfl 0 rfl ?_
          refine J_getR hX dX11_count_42 fl_RX11_71 (ltn ltc_78 hn) lo_78 rfl (rt_78_32 _ _ _ _ _) ?_
          refine J_iconst hX (0 : Int32) dX11_count_45 ic_0 ?_
          refine J_iaload0 hX dX11_count_46 (ltn ltc_99 hn) lay_99 (by decide) ?_
          refine J_goto hX 56 dX11_count_47 (by decide) ?_
          exact J_ireturn hX dX11_count_56 h hF rfl
        · refine J_aload_n hX dX11_count_50 rfl 0 rfl ?_
          refine J_getR hX dX11_count_51 fl_RX11_98 (ltn ltc_78 hn) lo_78 rfl (rt_78_41 _ _ _ _ _) ?_
          refine J_iconst hX (0 : Int32) dX11_count_54 ic_0 ?_
          refine J_iaload0 hX dX11_count_55 (ltn ltc_108 hn) lay_108 (by decide) ?_
          exact J_ireturn hX dX11_count_56 h hF rfl
    · refine J_iload_n hX dX11_count_57 rfl 1 rfl ?_
      refine J_bipush hX (7 : Int32) dX11_count_58 (by decide) ?_
      refine J_icmp_ge hX 92 dX11_count_60 (by decide) h (fun c h => ?_) (fun c h => ?_)
      · refine J_iload_n hX dX11_count_63 rfl 1 rfl ?_
        refine J_iconst hX (4 : Int32) dX11_count_64 ic_4 ?_
        refine J_icmp_ne hX 77 dX11_count_65 (by decide) h (fun c h => ?_) (fun c h => ?_)
        · refine J_aload_n hX dX11_count_68 rfl 0 rfl ?_
          refine J_getR hX dX11_count_69 fl_RX11_125 (ltn ltc_78 hn) lo_78 rfl (rt_78_50 _ _ _ _ _) ?_
          refine J_iconst hX (0 : Int32) dX11_count_72 ic_0 ?_
          refine J_iaload0 hX dX11_count_73 (ltn ltc_117 hn) lay_117 (by decide) ?_
          refine J_goto hX 91 dX11_count_74 (by decide) ?_
          exact J_ireturn hX dX11_count_91 h hF rfl
        · refine J_aload_n hX dX11_count_77 rfl 0 rfl ?_
          refine J_iload_n hX dX11_count_78 rfl 1 rfl ?_
          refine J_iconst hX (5 : Int32) dX11_count_79 ic_5 ?_
          refine J_icmp_ne hX 87 dX11_count_80 (by decide) h (fun c h => ?_) (fun c h => ?_)
          · refine J_iconst hX (2 : Int32) dX11_count_83 ic_2 ?_
            refine J_goto hX 88 dX11_count_84 (by decide) ?_
            obtain ⟨r11, m10, h0, h⟩ := bd2_some h
            refine J_callVi (As := [.int (2 : Int32)]) (st := []) hX dX11_count_88 cw_RX11_505 (by omega) (c_X11_withStatus hn  h0) (ltn ltc_78 hn) lo_78 (by decide) rfl rfl rfl (Nat.le_of_ble_eq_true rfl) ?_
            clear h0
            exact J_ireturn hX dX11_count_91 h hF rfl
          · refine J_iconst hX (1 : Int32) dX11_count_87 ic_1 ?_
            obtain ⟨r9, m8, h0, h⟩ := bd2_some h
            refine J_callVi (As := [.int (1 : Int32)]) (st := []) hX dX11_count_88 cw_RX11_505 (by omega) (c_X11_withStatus hn  h0) (ltn ltc_78 hn) lo_78 (by decide) rfl rfl rfl (Nat.le_of_ble_eq_true rfl) ?_
            clear h0
            exact J_ireturn hX dX11_count_91 h hF rfl
      · refine J_iload_n hX dX11_count_92 rfl 1 rfl ?_
        refine J_bipush hX (10 : Int32) dX11_count_93 (by decide) ?_
        refine J_icmp_ge hX 131 dX11_count_95 (by decide) h (fun c h => ?_) (fun c h => ?_)
        · refine J_iload_n hX dX11_count_98 rfl 1 rfl ?_
          refine J_bipush hX (7 : Int32) dX11_count_99 (by decide) ?_
          refine J_icmp_ne hX 111 dX11_count_101 (by decide) h (fun c h => ?_) (fun c h => ?_)
          · refine J_aload_n hX dX11_count_104 rfl 0 rfl ?_
            obtain ⟨r7, m6, h0, h⟩ := bd2_some h
            refine J_callVi (As := []) (st := []) hX dX11_count_105 cw_RX11_428 (by omega) (c_X11_deadOnes hn  h0) (ltn ltc_78 hn) lo_78 (by decide) rfl rfl rfl (Nat.le_of_ble_eq_true rfl) ?_
            clear h0
            refine J_goto hX 130 dX11_count_108 (by decide) ?_
            exact J_ireturn hX dX11_count_130 h hF rfl
          · refine J_iload_n hX dX11_count_111 rfl 1 rfl ?_
            refine J_bipush hX (8 : Int32) dX11_count_112 (by decide) ?_
            refine J_icmp_ne hX 124 dX11_count_114 (by decide) h (fun c h => ?_) (fun c h => ?_)
            · refine J_aload_n hX dX11_count_117 rfl 0 rfl ?_
              obtain ⟨r5, m4, h0, h⟩ := bd2_some h
              refine J_callVi (As := []) (st := []) hX dX11_count_118 cw_RX11_425 (by omega) (c_X11_allLoads hn  h0) (ltn ltc_78 hn) lo_78 (by decide) rfl rfl rfl (Nat.le_of_ble_eq_true rfl) ?_
              clear h0
              refine J_goto hX 130 dX11_count_121 (by decide) ?_
              exact J_ireturn hX dX11_count_130 h hF rfl
            · refine J_aload_n hX dX11_count_124 rfl 0 rfl ?_
              refine J_getR hX dX11_count_125 fl_RX11_13 (ltn ltc_78 hn) lo_78 rfl (rt_78_10 _ _ _ _ _) ?_
              refine J_iconst hX (2 : Int32) dX11_count_128 ic_2 ?_
              refine J_iaload0 hX dX11_count_129 (ltn ltc_80 hn) lay_80 (by decide) ?_
              exact J_ireturn hX dX11_count_130 h hF rfl
        · refine J_iload_n hX dX11_count_131 rfl 1 rfl ?_
          refine J_bipush hX (10 : Int32) dX11_count_132 (by decide) ?_
          refine J_icmp_ne hX 146 dX11_count_134 (by decide) h (fun c h => ?_) (fun c h => ?_)
          · refine J_aload_n hX dX11_count_137 rfl 0 rfl ?_
            refine J_getR hX dX11_count_138 fl_RX11_104 (ltn ltc_78 hn) lo_78 rfl (rt_78_43 _ _ _ _ _) ?_
            refine J_iconst hX (0 : Int32) dX11_count_141 ic_0 ?_
            refine J_iaload0 hX dX11_count_142 (ltn ltc_110 hn) lay_110 (by decide) ?_
            refine J_goto hX 165 dX11_count_143 (by decide) ?_
            exact J_ireturn hX dX11_count_165 h hF rfl
          · refine J_iload_n hX dX11_count_146 rfl 1 rfl ?_
            refine J_bipush hX (11 : Int32) dX11_count_147 (by decide) ?_
            refine J_icmp_ne hX 161 dX11_count_149 (by decide) h (fun c h => ?_) (fun c h => ?_)
            · refine J_aload_n hX dX11_count_152 rfl 0 rfl ?_
              refine J_getR hX dX11_count_153 fl_RX11_116 (ltn ltc_78 hn) lo_78 rfl (rt_78_47 _ _ _ _ _) ?_
              refine J_iconst hX (0 : Int32) dX11_count_156 ic_0 ?_
              refine J_iaload0 hX dX11_count_157 (ltn ltc_114 hn) lay_114 (by decide) ?_
              refine J_goto hX 165 dX11_count_158 (by decide) ?_
              exact J_ireturn hX dX11_count_165 h hF rfl
            · refine J_aload_n hX dX11_count_161 rfl 0 rfl ?_
              refine J_getI hX dX11_count_162 fl_RX11_158 (ltn ltc_78 hn) lo_78 rfl ?_
              exact J_ireturn hX dX11_count_165 h hF rfl
theorem c_X11_count {G : GG} {l : Launch} {ρ : Nat → Nat} {n t u w v : Nat} {x : Option Nat} (hn : 126 ≤ n) {x1 : Int32} {m : Mm} {rE : Int32} {mE : Mm} (h : f_X11_count x1 m = some (rE, mE)) : CT G l yX11_count cX11_count 2 (some .int) 3 0 0 ρ n (RT t u w v x) [.ref 78, .int x1] m (some (.int rE)) (RT t u w v x) mE := ct_of_J (by decide) rfl (Nat.le_of_ble_eq_true rfl) (fun X hX e1 e2 e3 e4 hQ hr hl => t_X11_count hX (Nat.le_refl _) hn ⟨by rw [hQ, e3, e4], hr, hl⟩ h)
