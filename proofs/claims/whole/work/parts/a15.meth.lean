theorem t_X7_append_J43 {X : XX} {G : GG} {ρ : Nat → Nat} {n t u w v : Nat} {x : Option Nat} {d : Nat} (hX : Ok X G ρ cX7_append 6 RX7 d) (hd0 : 0 ≤ d) (hn : 126 ≤ n) {mE : Mm} (hF : Fin' X G ρ n none none (RT t u w v x) mE) {K3 : Int64 → Int32 → Mm → Option (Mm)} (v1 : Int64) (v3 : Int32) (v4 : Int32) (s0 : Int32) (hK3 : ∀ (w1 : Int64) (w3 : Int32) (m : Mm), K3 w1 w3 m = some mE → J X G ρ n 6 3 [(0, .ref 1), (1, .long w1), (3, .int w3)] [] (RT t u w v x) m) (m : Mm) (h : f_X7_append_J43 K3 v1 v3 v4 s0 m = some mE) : J X G ρ n 6 43 [(0, .ref 1), (1, .long v1), (3, .int v3), (4, .int v4)] [.int s0] (RT t u w v x) m := by
  unfold f_X7_append_J43 at h
  refine J_istore hX [(5, .int s0), (0, .ref 1), (1, .long v1), (3, .int v3), (4, .int v4)] dX7_append_43 (by decide) rfl ?_
  refine J_iload hX dX7_append_45 0 rfl ?_
  refine J_if_eq hX 82 dX7_append_47 (by decide) h (fun c h => ?_) (fun c h => ?_)
  · refine J_iinc hX (v3 + (-8 : Int32)) [(3, .int (v3 + (-8 : Int32))), (5, .int s0), (0, .ref 1), (1, .long v1), (4, .int v4)] dX7_append_82 3 rfl (congrArg (fun z => v3 + z) ic_m8) (by decide) rfl ?_
    refine J_goto hX 3 dX7_append_85 (by decide) ?_
    refine J_sub [(0, .ref 1), (1, .long v1), (3, .int (v3 + (-8 : Int32)))] [2, 3, 0] rfl ?_
    exact hK3 v1 (v3 + (-8 : Int32)) m h
  · refine J_aload_n hX dX7_append_50 rfl 1 rfl ?_
    refine J_getI hX dX7_append_51 fl_RX7_15 (ltn ltc_1 hn) lo_1 rfl ?_
    refine J_sipush hX (1000 : Int32) dX7_append_54 (by decide) ?_
    refine J_icmp_ge hX 82 dX7_append_57 (by decide) h (fun c h => ?_) (fun c h => ?_)
    · refine J_aload_n hX dX7_append_60 rfl 1 rfl ?_
      refine J_getR hX dX7_append_61 fl_RX7_9 (ltn ltc_1 hn) lo_1 rfl (rt_1_0 _ _ _ _ _) ?_
      refine J_aload_n hX dX7_append_64 rfl 1 rfl ?_
      refine J_getI hX dX7_append_65 fl_RX7_15 (ltn ltc_1 hn) lo_1 rfl ?_
      refine J_iload hX dX7_append_68 4 rfl ?_
      refine J_i2c hX dX7_append_70 ?_
      refine J_castore hX dX7_append_71 (ltn ltc_2 hn) lay_2 (pk_vc _) h (fun m1 h => ?_)
      refine J_aload_n hX dX7_append_72 rfl 1 rfl ?_
      refine J_dup hX dX7_append_73 rfl ?_
      refine J_getI hX dX7_append_74 fl_RX7_15 (ltn ltc_1 hn) lo_1 rfl ?_
      refine J_iconst hX (1 : Int32) dX7_append_77 ic_1 ?_
      refine J_iadd hX dX7_append_78 ?_
      refine J_putI hX dX7_append_79 pl_RX7_15 (ltn ltc_1 hn) lo_1 rfl rfl rfl h (fun m2 h => ?_)
      refine J_iinc hX (v3 + (-8 : Int32)) [(3, .int (v3 + (-8 : Int32))), (5, .int s0), (0, .ref 1), (1, .long v1), (4, .int v4)] dX7_append_82 3 rfl (congrArg (fun z => v3 + z) ic_m8) (by decide) rfl ?_
      refine J_goto hX 3 dX7_append_85 (by decide) ?_
      refine J_sub [(0, .ref 1), (1, .long v1), (3, .int (v3 + (-8 : Int32)))] [2, 3, 0] rfl ?_
      exact hK3 v1 (v3 + (-8 : Int32)) m2 h
    · refine J_iinc hX (v3 + (-8 : Int32)) [(3, .int (v3 + (-8 : Int32))), (5, .int s0), (0, .ref 1), (1, .long v1), (4, .int v4)] dX7_append_82 3 rfl (congrArg (fun z => v3 + z) ic_m8) (by decide) rfl ?_
      refine J_goto hX 3 dX7_append_85 (by decide) ?_
      refine J_sub [(0, .ref 1), (1, .long v1), (3, .int (v3 + (-8 : Int32)))] [2, 3, 0] rfl ?_
      exact hK3 v1 (v3 + (-8 : Int32)) m h
theorem t_X7_append_J38 {X : XX} {G : GG} {ρ : Nat → Nat} {n t u w v : Nat} {x : Option Nat} {d : Nat} (hX : Ok X G ρ cX7_append 6 RX7 d) (hd0 : 0 ≤ d) (hn : 126 ≤ n) {mE : Mm} (hF : Fin' X G ρ n none none (RT t u w v x) mE) {K3 : Int64 → Int32 → Mm → Option (Mm)} (v1 : Int64) (v3 : Int32) (v4 : Int32) (hK3 : ∀ (w1 : Int64) (w3 : Int32) (m : Mm), K3 w1 w3 m = some mE → J X G ρ n 6 3 [(0, .ref 1), (1, .long w1), (3, .int w3)] [] (RT t u w v x) m) (m : Mm) (h : f_X7_append_J38 K3 v1 v3 v4 m = some mE) : J X G ρ n 6 38 [(0, .ref 1), (1, .long v1), (3, .int v3), (4, .int v4)] [] (RT t u w v x) m := by
  unfold f_X7_append_J38 at h
  refine J_iconst hX (1 : Int32) dX7_append_38 ic_1 ?_
  refine J_goto hX 43 dX7_append_39 (by decide) ?_
  exact t_X7_append_J43 hX hd0 hn hF v1 v3 v4 (1 : Int32) hK3 m h
theorem t_X7_append_J42 {X : XX} {G : GG} {ρ : Nat → Nat} {n t u w v : Nat} {x : Option Nat} {d : Nat} (hX : Ok X G ρ cX7_append 6 RX7 d) (hd0 : 0 ≤ d) (hn : 126 ≤ n) {mE : Mm} (hF : Fin' X G ρ n none none (RT t u w v x) mE) {K3 : Int64 → Int32 → Mm → Option (Mm)} (v1 : Int64) (v3 : Int32) (v4 : Int32) (hK3 : ∀ (w1 : Int64) (w3 : Int32) (m : Mm), K3 w1 w3 m = some mE → J X G ρ n 6 3 [(0, .ref 1), (1, .long w1), (3, .int w3)] [] (RT t u w v x) m) (m : Mm) (h : f_X7_append_J42 K3 v1 v3 v4 m = some mE) : J X G ρ n 6 42 [(0, .ref 1), (1, .long v1), (3, .int v3), (4, .int v4)] [] (RT t u w v x) m := by
  unfold f_X7_append_J42 at h
  refine J_iconst hX (0 : Int32) dX7_append_42 ic_0 ?_
  exact t_X7_append_J43 hX hd0 hn hF v1 v3 v4 (0 : Int32) hK3 m h
theorem t_X7_append_L3 {X : XX} {G : GG} {ρ : Nat → Nat} {n t u w v : Nat} {x : Option Nat} {d : Nat} (hX : Ok X G ρ cX7_append 6 RX7 d) (hd0 : 0 ≤ d) (hn : 126 ≤ n) {mE : Mm} (hF : Fin' X G ρ n none none (RT t u w v x) mE) : ∀ (k : Nat) (v1 : Int64) (v3 : Int32) (m : Mm), f_X7_append_L3 k v1 v3 m = some mE → J X G ρ n 6 3 [(0, .ref 1), (1, .long v1), (3, .int v3)] [] (RT t u w v x) m := by
  intro k
  induction k with
  | zero => intro _ _ _ h; rw [f_X7_append_L3] at h; cases h
  | succ k ih =>
    intro v1 v3 m h
    rw [f_X7_append_L3] at h
    refine J_iload_n hX dX7_append_3 rfl 2 rfl ?_
    refine J_if_lt hX 88 dX7_append_4 (by decide) h (fun c h => ?_) (fun c h => ?_)
    · exact J_return hX dX7_append_88 h hF
    · refine J_lload_n hX dX7_append_7 rfl 1 rfl ?_
      refine J_iload_n hX dX7_append_8 rfl 2 rfl ?_
      refine J_lushr hX dX7_append_9 ?_
      refine J_l2i hX dX7_append_10 ?_
      refine J_sipush hX (255 : Int32) dX7_append_11 (by decide) ?_
      refine J_iand hX dX7_append_14 ?_
      refine J_istore hX [(4, .int ((((v1.toUInt64 >>> (v3.toInt64.toUInt64 &&& Int64.toUInt64 63)).toInt64).toInt32) &&& (255 : Int32))), (0, .ref 1), (1, .long v1), (3, .int v3)] dX7_append_15 (by decide) rfl ?_
      refine J_iload hX dX7_append_17 0 rfl ?_
      refine J_bipush hX (10 : Int32) dX7_append_19 (by decide) ?_
      refine J_icmp_eq hX 38 dX7_append_21 (by decide) h (fun c h => ?_) (fun c h => ?_)
      · refine J_sub [(0, .ref 1), (1, .long v1), (3, .int v3), (4, .int ((((v1.toUInt64 >>> (v3.toInt64.toUInt64 &&& Int64.toUInt64 63)).toInt64).toInt32) &&& (255 : Int32)))] [1, 2, 3, 0] rfl ?_
        exact t_X7_append_J38 hX hd0 hn hF v1 v3 ((((v1.toUInt64 >>> (v3.toInt64.toUInt64 &&& Int64.toUInt64 63)).toInt64).toInt32) &&& (255 : Int32)) (fun w1 w3 m h => ih w1 w3 m h) m h
      · refine J_iload hX dX7_append_24 0 rfl ?_
        refine J_bipush hX (32 : Int32) dX7_append_26 (by decide) ?_
        refine J_icmp_lt hX 42 dX7_append_28 (by decide) h (fun c h => ?_) (fun c h => ?_)
        · refine J_sub [(0, .ref 1), (1, .long v1), (3, .int v3), (4, .int ((((v1.toUInt64 >>> (v3.toInt64.toUInt64 &&& Int64.toUInt64 63)).toInt64).toInt32) &&& (255 : Int32)))] [1, 2, 3, 0] rfl ?_
          exact t_X7_append_J42 hX hd0 hn hF v1 v3 ((((v1.toUInt64 >>> (v3.toInt64.toUInt64 &&& Int64.toUInt64 63)).toInt64).toInt32) &&& (255 : Int32)) (fun w1 w3 m h => ih w1 w3 m h) m h
        · refine J_iload hX dX7_append_31 0 rfl ?_
          refine J_bipush hX (126 : Int32) dX7_append_33 (by decide) ?_
          refine J_icmp_gt hX 42 dX7_append_35 (by decide) h (fun c h => ?_) (fun c h => ?_)
          · refine J_sub [(0, .ref 1), (1, .long v1), (3, .int v3), (4, .int ((((v1.toUInt64 >>> (v3.toInt64.toUInt64 &&& Int64.toUInt64 63)).toInt64).toInt32) &&& (255 : Int32)))] [1, 2, 3, 0] rfl ?_
            exact t_X7_append_J42 hX hd0 hn hF v1 v3 ((((v1.toUInt64 >>> (v3.toInt64.toUInt64 &&& Int64.toUInt64 63)).toInt64).toInt32) &&& (255 : Int32)) (fun w1 w3 m h => ih w1 w3 m h) m h
          · refine J_sub [(0, .ref 1), (1, .long v1), (3, .int v3), (4, .int ((((v1.toUInt64 >>> (v3.toInt64.toUInt64 &&& Int64.toUInt64 63)).toInt64).toInt32) &&& (255 : Int32)))] [1, 2, 3, 0] rfl ?_
            exact t_X7_append_J38 hX hd0 hn hF v1 v3 ((((v1.toUInt64 >>> (v3.toInt64.toUInt64 &&& Int64.toUInt64 63)).toInt64).toInt32) &&& (255 : Int32)) (fun w1 w3 m h => ih w1 w3 m h) m h
theorem t_X7_append {X : XX} {G : GG} {ρ : Nat → Nat} {n t u w v : Nat} {x : Option Nat} {d : Nat} (hX : Ok X G ρ cX7_append 6 RX7 d) (hd0 : 0 ≤ d) (hn : 126 ≤ n) {mE : Mm} (hF : Fin' X G ρ n none none (RT t u w v x) mE) {x1 : Int64} {m : Mm} (h : f_X7_append x1 m = some mE) : J X G ρ n 6 0 [(0, .ref 1), (1, .long x1)] [] (RT t u w v x) m := by
  unfold f_X7_append at h
  refine J_bipush hX (56 : Int32) dX7_append_0 (by decide) ?_
  refine J_istore_n hX [(3, .int (56 : Int32)), (0, .ref 1), (1, .long x1)] dX7_append_2 rfl (by decide) rfl ?_
  refine J_sub [(0, .ref 1), (1, .long x1), (3, .int (56 : Int32))] [1, 2, 0] rfl ?_
  exact t_X7_append_L3 hX hd0 hn hF FU x1 (56 : Int32)  m h
theorem c_X7_append {G : GG} {l : Launch} {ρ : Nat → Nat} {n t u w v : Nat} {x : Option Nat} (hn : 126 ≤ n) {x1 : Int64} {m : Mm} {mE : Mm} (h : f_X7_append x1 m = some mE) : CT G l yX7_append cX7_append 6 none 0 0 0 ρ n (RT t u w v x) [.ref 1, .long x1] m none (RT t u w v x) mE := ct_of_J (by decide) rfl (Nat.le_of_ble_eq_true rfl) (fun X hX e1 e2 e3 e4 hQ hr hl => t_X7_append hX (Nat.le_refl _) hn ⟨by rw [hQ, e3, e4], hr, hl⟩ h)
theorem t_X10_feed {X : XX} {G : GG} {ρ : Nat → Nat} {n : Nat} {x : Option Nat} {d : Nat} {t : Nat} {u : Nat} {w : Nat} {v : Nat} (hX : Ok X G ρ cX10_feed 7 RX10 d) (hd0 : 1 ≤ d) (hn : 126 ≤ n) (ht : isTo t) (hu : isTo u) (hw : isWk w) (hv : isWk v) {rE : Int32} {mE : Mm} (hF : Fin' X G ρ n (some .int) (some (.int rE)) (RT t u w v x) mE) {x1 : Int64} {x3 : Int64} {x5 : Int64} {m : Mm} (h : f_X10_feed t u w v x1 x3 x5 m = some (rE, mE)) : J X G ρ n 7 0 [(0, .ref 0), (1, .long x1), (3, .long x3), (5, .long x5)] [] (RT t u w v x) m := by
  unfold f_X10_feed at h
  refine J_aload_n hX dX10_feed_0 rfl 0 rfl ?_
  refine J_getR hX dX10_feed_1 fl_RX10_12 (ltn ltc_0 hn) lo_0 rfl (rt_0_0 _ _ _ _ _) ?_
  refine J_lload_n hX dX10_feed_4 rfl 1 rfl ?_
  obtain ⟨m1, h0, h⟩ := bd1_some h
  refine J_callVv (As := [.long x1]) (st := []) hX dX10_feed_5 cw_RX10_86 (by omega) (c_X7_append hn  h0) (ltn ltc_1 hn) lo_1 (by decide) rfl rfl rfl (Nat.le_of_ble_eq_true rfl) ?_
  clear h0
  refine J_aload_n hX dX10_feed_8 rfl 0 rfl ?_
  refine J_getR hX dX10_feed_9 fl_RX10_12 (ltn ltc_0 hn) lo_0 rfl (rt_0_0 _ _ _ _ _) ?_
  refine J_lload_n hX dX10_feed_12 rfl 2 rfl ?_
  obtain ⟨m2, h0, h⟩ := bd1_some h
  refine J_callVv (As := [.long x3]) (st := []) hX dX10_feed_13 cw_RX10_86 (by omega) (c_X7_append hn  h0) (ltn ltc_1 hn) lo_1 (by decide) rfl rfl rfl (Nat.le_of_ble_eq_true rfl) ?_
  clear h0
  refine J_aload_n hX dX10_feed_16 rfl 0 rfl ?_
  refine J_getR hX dX10_feed_17 fl_RX10_12 (ltn ltc_0 hn) lo_0 rfl (rt_0_0 _ _ _ _ _) ?_
  refine J_lload hX dX10_feed_20 3 rfl ?_
  obtain ⟨m3, h0, h⟩ := bd1_some h
  refine J_callVv (As := [.long x5]) (st := []) hX dX10_feed_22 cw_RX10_86 (by omega) (c_X7_append hn  h0) (ltn ltc_1 hn) lo_1 (by decide) rfl rfl rfl (Nat.le_of_ble_eq_true rfl) ?_
  clear h0
  refine J_aload_n hX dX10_feed_25 rfl 0 rfl ?_
  refine J_getR hX dX10_feed_26 fl_RX10_12 (ltn ltc_0 hn) lo_0 rfl (rt_0_0 _ _ _ _ _) ?_
  refine J_getI hX dX10_feed_29 fl_RX10_90 (ltn ltc_1 hn) lo_1 rfl ?_
  exact J_ireturn hX dX10_feed_32 h hF rfl
theorem c_X10_feed {G : GG} {l : Launch} {ρ : Nat → Nat} {n : Nat} {x : Option Nat} (hn : 126 ≤ n) {t : Nat} {u : Nat} {w : Nat} {v : Nat} (ht : isTo t) (hu : isTo u) (hw : isWk w) (hv : isWk v) {x1 : Int64} {x3 : Int64} {x5 : Int64} {m : Mm} {rE : Int32} {mE : Mm} (h : f_X10_feed t u w v x1 x3 x5 m = some (rE, mE)) : CT G l yX10_feed cX10_feed 7 (some .int) 1 0 0 ρ n (RT t u w v x) [.ref 0, .long x1, .long x3, .long x5] m (some (.int rE)) (RT t u w v x) mE := ct_of_J (by decide) rfl (Nat.le_of_ble_eq_true rfl) (fun X hX e1 e2 e3 e4 hQ hr hl => t_X10_feed hX (Nat.le_refl _) hn ht hu hw hv ⟨by rw [hQ, e3, e4], hr, hl⟩ h)
theorem t_X11_feed_J93 {X : XX} {G : GG} {ρ : Nat → Nat} {n t u w v : Nat} {x : Option Nat} {d : Nat} (hX : Ok X G ρ cX11_feed 11 RX11 d) (hd0 : 0 ≤ d) (hn : 126 ≤ n) {rE : Int32} {mE : Mm} (hF : Fin' X G ρ n (some .int) (some (.int rE)) (RT t u w v x) mE) {K8 : Int64 → Int64 → Int64 → Int32 → Mm → Option (Int32 × Mm)} (v1 : Int64) (v3 : Int64) (v5 : Int64) (v7 : Int32) (v10 : Int32) (hK8 : ∀ (w1 : Int64) (w3 : Int64) (w5 : Int64) (w7 : Int32) (m : Mm), K8 w1 w3 w5 w7 m = some (rE, mE) → J X G ρ n 11 8 [(0, .ref 78), (1, .long w1), (3, .long w3), (5, .long w5), (7, .int w7)] [] (RT t u w v x) m) (m : Mm) (h : f_X11_feed_J93 K8 v1 v3 v5 v7 v10 m = some (rE, mE)) : J X G ρ n 11 93 [(0, .ref 78), (1, .long v1), (3, .long v3), (5, .long v5), (7, .int v7), (10, .int v10)] [] (RT t u w v x) m := by
  unfold f_X11_feed_J93 at h
  refine J_aload_n hX dX11_feed_93 rfl 0 rfl ?_
  refine J_getR hX dX11_feed_94 fl_RX11_7 (ltn ltc_78 hn) lo_78 rfl (rt_78_2 _ _ _ _ _) ?_
  refine J_aload_n hX dX11_feed_97 rfl 0 rfl ?_
  refine J_getI hX dX11_feed_98 fl_RX11_158 (ltn ltc_78 hn) lo_78 rfl ?_
  refine J_iload hX dX11_feed_101 5 rfl ?_
  refine J_iastore hX dX11_feed_103 (ltn ltc_79 hn) lay_79 h (fun m2 h => ?_)
  refine J_aload_n hX dX11_feed_104 rfl 0 rfl ?_
  refine J_dup hX dX11_feed_105 rfl ?_
  refine J_getI hX dX11_feed_106 fl_RX11_158 (ltn ltc_78 hn) lo_78 rfl ?_
  refine J_iconst hX (1 : Int32) dX11_feed_109 ic_1 ?_
  refine J_iadd hX dX11_feed_110 ?_
  refine J_putI hX dX11_feed_111 pl_RX11_158 (ltn ltc_78 hn) lo_78 rfl rfl rfl h (fun m3 h => ?_)
  refine J_iinc hX (v7 + (1 : Int32)) [(7, .int (v7 + (1 : Int32))), (0, .ref 78), (1, .long v1), (3, .long v3), (5, .long v5), (10, .int v10)] dX11_feed_114 4 rfl (congrArg (fun z => v7 + z) ic_1) (by decide) rfl ?_
  refine J_goto hX 8 dX11_feed_117 (by decide) ?_
  refine J_sub [(0, .ref 78), (1, .long v1), (3, .long v3), (5, .long v5), (7, .int (v7 + (1 : Int32)))] [1, 2, 3, 4, 0] rfl ?_
  exact hK8 v1 v3 v5 (v7 + (1 : Int32)) m3 h
theorem t_X11_feed_J39 {X : XX} {G : GG} {ρ : Nat → Nat} {n t u w v : Nat} {x : Option Nat} {d : Nat} (hX : Ok X G ρ cX11_feed 11 RX11 d) (hd0 : 0 ≤ d) (hn : 126 ≤ n) {rE : Int32} {mE : Mm} (hF : Fin' X G ρ n (some .int) (some (.int rE)) (RT t u w v x) mE) {K8 : Int64 → Int64 → Int64 → Int32 → Mm → Option (Int32 × Mm)} (v1 : Int64) (v3 : Int64) (v5 : Int64) (v7 : Int32) (s0 : Int64) (hK8 : ∀ (w1 : Int64) (w3 : Int64) (w5 : Int64) (w7 : Int32) (m : Mm), K8 w1 w3 w5 w7 m = some (rE, mE) → J X G ρ n 11 8 [(0, .ref 78), (1, .long w1), (3, .long w3), (5, .long w5), (7, .int w7)] [] (RT t u w v x) m) (m : Mm) (h : f_X11_feed_J39 K8 v1 v3 v5 v7 s0 m = some (rE, mE)) : J X G ρ n 11 39 [(0, .ref 78), (1, .long v1), (3, .long v3), (5, .long v5), (7, .int v7)] [.long s0] (RT t u w v x) m := by
  unfold f_X11_feed_J39 at h
  refine J_lstore hX [(8, .long s0), (0, .ref 78), (1, .long v1), (3, .long v3), (5, .long v5), (7, .int v7)] dX11_feed_39 (by decide) rfl ?_
  refine J_lload hX dX11_feed_41 0 rfl ?_
  refine J_bipush hX (56 : Int32) dX11_feed_43 (by decide) ?_
  refine J_bipush hX (8 : Int32) dX11_feed_45 (by decide) ?_
  refine J_iload hX dX11_feed_47 5 rfl ?_
  refine J_bipush hX (7 : Int32) dX11_feed_49 (by decide) ?_
  refine J_iand hX dX11_feed_51 ?_
  refine J_imul hX dX11_feed_52 ?_
  refine J_isub hX dX11_feed_53 ?_
  refine J_lushr hX dX11_feed_54 ?_
  refine J_ldc2 hX (255 : Int64) dX11_feed_55 k_RX11_156 ?_
  refine J_land hX dX11_feed_58 ?_
  refine J_l2i hX dX11_feed_59 ?_
  refine J_istore hX [(10, .int ((((s0.toUInt64 >>> (((56 : Int32) - ((8 : Int32) * (v7 &&& (7 : Int32)))).toInt64.toUInt64 &&& Int64.toUInt64 63)).toInt64) &&& (255 : Int64)).toInt32)), (8, .long s0), (0, .ref 78), (1, .long v1), (3, .long v3), (5, .long v5), (7, .int v7)] dX11_feed_60 (by decide) rfl ?_
  refine J_aload_n hX dX11_feed_62 rfl 2 rfl ?_
  refine J_getI hX dX11_feed_63 fl_RX11_158 (ltn ltc_78 hn) lo_78 rfl ?_
  refine J_sipush hX (1000 : Int32) dX11_feed_66 (by decide) ?_
  refine J_icmp_ge hX 114 dX11_feed_69 (by decide) h (fun c h => ?_) (fun c h => ?_)
  · refine J_iload hX dX11_feed_72 0 rfl ?_
    refine J_bipush hX (10 : Int32) dX11_feed_74 (by decide) ?_
    refine J_icmp_eq hX 93 dX11_feed_76 (by decide) h (fun c h => ?_) (fun c h => ?_)
    · refine J_sub [(0, .ref 78), (1, .long v1), (3, .long v3), (5, .long v5), (7, .int v7), (10, .int ((((s0.toUInt64 >>> (((56 : Int32) - ((8 : Int32) * (v7 &&& (7 : Int32)))).toInt64.toUInt64 &&& Int64.toUInt64 63)).toInt64) &&& (255 : Int64)).toInt32))] [2, 3, 4, 5, 6, 0] rfl ?_
      exact t_X11_feed_J93 hX hd0 hn hF v1 v3 v5 v7 ((((s0.toUInt64 >>> (((56 : Int32) - ((8 : Int32) * (v7 &&& (7 : Int32)))).toInt64.toUInt64 &&& Int64.toUInt64 63)).toInt64) &&& (255 : Int64)).toInt32) hK8 m h
    · refine J_iload hX dX11_feed_79 0 rfl ?_
      refine J_bipush hX (32 : Int32) dX11_feed_81 (by decide) ?_
      refine J_icmp_lt hX 114 dX11_feed_83 (by decide) h (fun c h => ?_) (fun c h => ?_)
      · refine J_iinc hX (v7 + (1 : Int32)) [(7, .int (v7 + (1 : Int32))), (10, .int ((((s0.toUInt64 >>> (((56 : Int32) - ((8 : Int32) * (v7 &&& (7 : Int32)))).toInt64.toUInt64 &&& Int64.toUInt64 63)).toInt64) &&& (255 : Int64)).toInt32)), (8, .long s0), (0, .ref 78), (1, .long v1), (3, .long v3), (5, .long v5)] dX11_feed_114 6 rfl (congrArg (fun z => v7 + z) ic_1) (by decide) rfl ?_
        refine J_goto hX 8 dX11_feed_117 (by decide) ?_
        refine J_sub [(0, .ref 78), (1, .long v1), (3, .long v3), (5, .long v5), (7, .int (v7 + (1 : Int32)))] [3, 4, 5, 6, 0] rfl ?_
        exact hK8 v1 v3 v5 (v7 + (1 : Int32)) m h
      · refine J_iload hX dX11_feed_86 0 rfl ?_
        refine J_bipush hX (126 : Int32) dX11_feed_88 (by decide) ?_
        refine J_icmp_gt hX 114 dX11_feed_90 (by decide) h (fun c h => ?_) (fun c h => ?_)
        · refine J_iinc hX (v7 + (1 : Int32)) [(7, .int (v7 + (1 : Int32))), (10, .int ((((s0.toUInt64 >>> (((56 : Int32) - ((8 : Int32) * (v7 &&& (7 : Int32)))).toInt64.toUInt64 &&& Int64.toUInt64 63)).toInt64) &&& (255 : Int64)).toInt32)), (8, .long s0), (0, .ref 78), (1, .long v1), (3, .long v3), (5, .long v5)] dX11_feed_114 6 rfl (congrArg (fun z => v7 + z) ic_1) (by decide) rfl ?_
          refine J_goto hX 8 dX11_feed_117 (by decide) ?_
          refine J_sub [(0, .ref 78), (1, .long v1), (3, .long v3), (5, .long v5), (7, .int (v7 + (1 : Int32)))] [3, 4, 5, 6, 0] rfl ?_
          exact hK8 v1 v3 v5 (v7 + (1 : Int32)) m h
        · refine J_sub [(0, .ref 78), (1, .long v1), (3, .long v3), (5, .long v5), (7, .int v7), (10, .int ((((s0.toUInt64 >>> (((56 : Int32) - ((8 : Int32) * (v7 &&& (7 : Int32)))).toInt64.toUInt64 &&& Int64.toUInt64 63)).toInt64) &&& (255 : Int64)).toInt32))] [2, 3, 4, 5, 6, 0] rfl ?_
          exact t_X11_feed_J93 hX hd0 hn hF v1 v3 v5 v7 ((((s0.toUInt64 >>> (((56 : Int32) - ((8 : Int32) * (v7 &&& (7 : Int32)))).toInt64.toUInt64 &&& Int64.toUInt64 63)).toInt64) &&& (255 : Int64)).toInt32) hK8 m h
  · refine J_iinc hX (v7 + (1 : Int32)) [(7, .int (v7 + (1 : Int32))), (10, .int ((((s0.toUInt64 >>> (((56 : Int32) - ((8 : Int32) * (v7 &&& (7 : Int32)))).toInt64.toUInt64 &&& Int64.toUInt64 63)).toInt64) &&& (255 : Int64)).toInt32)), (8, .long s0), (0, .ref 78), (1, .long v1), (3, .long v3), (5, .long v5)] dX11_feed_114 6 rfl (congrArg (fun z => v7 + z) ic_1) (by decide) rfl ?_
    refine J_goto hX 8 dX11_feed_117 (by decide) ?_
    refine J_sub [(0, .ref 78), (1, .long v1), (3, .long v3), (5, .long v5), (7, .int (v7 + (1 : Int32)))] [3, 4, 5, 6, 0] rfl ?_
    exact hK8 v1 v3 v5 (v7 + (1 : Int32)) m h
theorem t_X11_feed_L8 {X : XX} {G : GG} {ρ : Nat → Nat} {n t u w v : Nat} {x : Option Nat} {d : Nat} (hX : Ok X G ρ cX11_feed 11 RX11 d) (hd0 : 0 ≤ d) (hn : 126 ≤ n) {rE : Int32} {mE : Mm} (hF : Fin' X G ρ n (some .int) (some (.int rE)) (RT t u w v x) mE) : ∀ (k : Nat) (v1 : Int64) (v3 : Int64) (v5 : Int64) (v7 : Int32) (m : Mm), f_X11_feed_L8 k v1 v3 v5 v7 m = some (rE, mE) → J X G ρ n 11 8 [(0, .ref 78), (1, .long v1), (3, .long v3), (5, .long v5), (7, .int v7)] [] (RT t u w v x) m := by
  intro k
  induction k with
  | zero => intro _ _ _ _ _ h; rw [f_X11_feed_L8] at h; cases h
  | succ k ih =>
    intro v1 v3 v5 v7 m h
    rw [f_X11_feed_L8] at h
    refine J_iload hX dX11_feed_8 4 rfl ?_
    refine J_bipush hX (24 : Int32) dX11_feed_10 (by decide) ?_
    refine J_icmp_ge hX 120 dX11_feed_12 (by decide) h (fun c h => ?_) (fun c h => ?_)
    · refine J_iload hX dX11_feed_15 4 rfl ?_
      refine J_bipush hX (8 : Int32) dX11_feed_17 (by decide) ?_
      refine J_icmp_ge hX 26 dX11_feed_19 (by decide) h (fun c h => ?_) (fun c h => ?_)
      · refine J_lload_n hX dX11_feed_22 rfl 1 rfl ?_
        refine J_goto hX 39 dX11_feed_23 (by decide) ?_
        exact t_X11_feed_J39 hX hd0 hn hF v1 v3 v5 v7 v1 (fun w1 w3 w5 w7 m h => ih w1 w3 w5 w7 m h) m h
      · refine J_iload hX dX11_feed_26 4 rfl ?_
        refine J_bipush hX (16 : Int32) dX11_feed_28 (by decide) ?_
        refine J_icmp_ge hX 37 dX11_feed_30 (by decide) h (fun c h => ?_) (fun c h => ?_)
        · refine J_lload_n hX dX11_feed_33 rfl 2 rfl ?_
          refine J_goto hX 39 dX11_feed_34 (by decide) ?_
          exact t_X11_feed_J39 hX hd0 hn hF v1 v3 v5 v7 v3 (fun w1 w3 w5 w7 m h => ih w1 w3 w5 w7 m h) m h
        · refine J_lload hX dX11_feed_37 3 rfl ?_
          exact t_X11_feed_J39 hX hd0 hn hF v1 v3 v5 v7 v5 (fun w1 w3 w5 w7 m h => ih w1 w3 w5 w7 m h) m h
    · refine J_aload_n hX dX11_feed_120 rfl 0 rfl ?_
      refine J_getI hX dX11_feed_121 fl_RX11_158 (ltn ltc_78 hn) lo_78 rfl ?_
      exact J_ireturn hX dX11_feed_124 h hF rfl
theorem t_X11_feed {X : XX} {G : GG} {ρ : Nat → Nat} {n t u w v : Nat} {x : Option Nat} {d : Nat} (hX : Ok X G ρ cX11_feed 11 RX11 d) (hd0 : 0 ≤ d) (hn : 126 ≤ n) {rE : Int32} {mE : Mm} (hF : Fin' X G ρ n (some .int) (some (.int rE)) (RT t u w v x) mE) {x1 : Int64} {x3 : Int64} {x5 : Int64} {m : Mm} (h : f_X11_feed x1 x3 x5 m = some (rE, mE)) : J X G ρ n 11 0 [(0, .ref 78), (1, .long x1), (3, .long x3), (5, .long x5)] [] (RT t u w v x) m := by
  unfold f_X11_feed at h
  refine J_aload_n hX dX11_feed_0 rfl 0 rfl ?_
  refine J_iconst hX (0 : Int32) dX11_feed_1 ic_0 ?_
  refine J_putI hX dX11_feed_2 pl_RX11_152 (ltn ltc_78 hn) lo_78 rfl rfl rfl h (fun m1 h => ?_)
  refine J_iconst hX (0 : Int32) dX11_feed_5 ic_0 ?_
  refine J_istore hX [(7, .int (0 : Int32)), (0, .ref 78), (1, .long x1), (3, .long x3), (5, .long x5)] dX11_feed_6 (by decide) rfl ?_
  refine J_sub [(0, .ref 78), (1, .long x1), (3, .long x3), (5, .long x5), (7, .int (0 : Int32))] [1, 2, 3, 4, 0] rfl ?_
  exact t_X11_feed_L8 hX hd0 hn hF FU x1 x3 x5 (0 : Int32)  m1 h
theorem c_X11_feed {G : GG} {l : Launch} {ρ : Nat → Nat} {n t u w v : Nat} {x : Option Nat} (hn : 126 ≤ n) {x1 : Int64} {x3 : Int64} {x5 : Int64} {m : Mm} {rE : Int32} {mE : Mm} (h : f_X11_feed x1 x3 x5 m = some (rE, mE)) : CT G l yX11_feed cX11_feed 11 (some .int) 0 0 0 ρ n (RT t u w v x) [.ref 78, .long x1, .long x3, .long x5] m (some (.int rE)) (RT t u w v x) mE := ct_of_J (by decide) rfl (Nat.le_of_ble_eq_true rfl) (fun X hX e1 e2 e3 e4 hQ hr hl => t_X11_feed hX (Nat.le_refl _) hn ⟨by rw [hQ, e3, e4], hr, hl⟩ h)
theorem t_X10_array_L80 {X : XX} {G : GG} {ρ : Nat → Nat} {n : Nat} {d : Nat} {t : Nat} {u : Nat} {w : Nat} {v : Nat} (hX : Ok X G ρ cX10_array 4 RX10 d) (hd0 : 73 ≤ d) (hn : 126 ≤ n) (ht : isTo t) (hu : isTo u) (hw : isWk w) (hv : isWk v) {rE : Int32} {mE : Mm} (hF : Fin' X G ρ n (some .int) (some (.int rE)) (rtA t u w v rE) mE) : ∀ (k : Nat) (v3 : Int32) (m : Mm), f_X10_array_L80 t u w v k v3 m = some (rE, mE) → J X G ρ n 4 80 [(0, .ref 0), (3, .int v3)] [] (RT u t w v (some u)) m := by
  intro k
  induction k with
  | zero => intro _ _ h; rw [f_X10_array_L80] at h; cases h
  | succ k ih =>
    intro v3 m h
    rw [f_X10_array_L80] at h
    refine J_iload_n hX dX10_array_80 rfl 1 rfl ?_
    refine J_iconst hX (2 : Int32) dX10_array_81 ic_2 ?_
    refine J_icmp_ge hX 98 dX10_array_82 (by decide) h (fun c h => ?_) (fun c h => ?_)
    · refine J_aload_n hX dX10_array_85 rfl 0 rfl ?_
      refine J_getR hX dX10_array_86 fl_RX10_73 (ltn ltc_0 hn) lo_0 rfl (rt_0_11 _ _ _ _ _) ?_
      refine J_iload_n hX dX10_array_89 rfl 1 rfl ?_
      refine J_iconst hX (0 : Int32) dX10_array_90 ic_0 ?_
      refine J_bastore hX dX10_array_91 (ltn ltc_75 hn) lay_75 vz0 h (fun m10 h => ?_)
      refine J_iinc hX (v3 + (1 : Int32)) [(3, .int (v3 + (1 : Int32))), (0, .ref 0)] dX10_array_92 1 rfl (congrArg (fun z => v3 + z) ic_1) (by decide) rfl ?_
      refine J_goto hX 80 dX10_array_95 (by decide) ?_
      refine J_sub [(0, .ref 0), (3, .int (v3 + (1 : Int32)))] [1, 0] rfl ?_
      exact ih (v3 + (1 : Int32)) m10 h
    · refine J_iconst hX (0 : Int32) dX10_array_98 ic_0 ?_
      have hF := fin_a0 h hF
      exact J_ireturn hX dX10_array_99 h hF rfl
theorem t_X10_array {X : XX} {G : GG} {ρ : Nat → Nat} {n : Nat} {x : Option Nat} {d : Nat} {t : Nat} {u : Nat} {w : Nat} {v : Nat} (hX : Ok X G ρ cX10_array 4 RX10 d) (hd0 : 73 ≤ d) (hn : 126 ≤ n) (ht : isTo t) (hu : isTo u) (hw : isWk w) (hv : isWk v) {rE : Int32} {mE : Mm} (hF : Fin' X G ρ n (some .int) (some (.int rE)) (rtA t u w v rE) mE) {m : Mm} (h : f_X10_array t u w v m = some (rE, mE)) : J X G ρ n 4 0 [(0, .ref 0)] [] (RT t u w v x) m := by
  unfold f_X10_array at h
  refine J_aload_n hX dX10_array_0 rfl 0 rfl ?_
  refine J_getR hX dX10_array_1 fl_RX10_31 (ltn ltc_0 hn) lo_0 rfl (rt_0_3 _ _ _ _ _) ?_
  refine J_aload_n hX dX10_array_4 rfl 0 rfl ?_
  refine J_getR hX dX10_array_5 fl_RX10_23 (ltn ltc_0 hn) lo_0 rfl (rt_0_2 _ _ _ _ _) ?_
  obtain ⟨r2, m1, h0, h⟩ := bd2_some h
  refine J_callVi (As := [.ref u]) (st := []) hX dX10_array_8 cw_RX10_94 (by omega) (c_X0_fill hn hu h0) (ltn ltc_17 hn) lo_17 (by decide) rfl rfl rfl (Nat.le_of_ble_eq_true rfl) ?_
  clear h0
  refine J_istore_n hX [(1, .int r2), (0, .ref 0)] dX10_array_11 rfl (by decide) rfl ?_
  refine J_aload_n hX dX10_array_12 rfl 1 rfl ?_
  refine J_getR hX dX10_array_13 fl_RX10_12 (ltn ltc_0 hn) lo_0 rfl (rt_0_0 _ _ _ _ _) ?_
  refine J_iconst hX (0 : Int32) dX10_array_16 ic_0 ?_
  refine J_putI hX dX10_array_17 pl_RX10_90 (ltn ltc_1 hn) lo_1 rfl rfl rfl h (fun m3 h => ?_)
  refine J_iload_n hX dX10_array_20 rfl 0 rfl ?_
  refine J_if_eq hX 26 dX10_array_21 (by decide) h (fun c h => ?_) (fun c h => ?_)
  · refine J_aload_n hX dX10_array_26 rfl 1 rfl ?_
    refine J_getR hX dX10_array_27 fl_RX10_19 (ltn ltc_0 hn) lo_0 rfl (rt_0_1 _ _ _ _ _) ?_
    refine J_astore_n hX [(2, .ref t), (1, .int r2), (0, .ref 0)] dX10_array_30 rfl (by decide) rfl ?_
    refine J_aload_n hX dX10_array_31 rfl 2 rfl ?_
    refine J_aload_n hX dX10_array_32 rfl 2 rfl ?_
    refine J_getR hX dX10_array_33 fl_RX10_23 (ltn ltc_0 hn) lo_0 rfl (rt_0_2 _ _ _ _ _) ?_
    refine J_putR (RT u u w v (some u)) hX dX10_array_36 pl_RX10_19 (ltn ltc_0 hn) lo_0 rfl rfl RT_t ?_
    refine J_aload_n hX dX10_array_39 rfl 2 rfl ?_
    refine J_aload_n hX dX10_array_40 rfl 0 rfl ?_
    refine J_putR (RT u t w v (some u)) hX dX10_array_41 pl_RX10_23 (ltn ltc_0 hn) lo_0 rfl rfl RT_u ?_
    refine J_aload_n hX dX10_array_44 rfl 2 rfl ?_
    refine J_getR hX dX10_array_45 fl_RX10_50 (ltn ltc_0 hn) lo_0 rfl (rt_0_6 _ _ _ _ _) ?_
    refine J_aload_n hX dX10_array_48 rfl 2 rfl ?_
    refine J_getR hX dX10_array_49 fl_RX10_19 (ltn ltc_0 hn) lo_0 rfl (rt_0_1 _ _ _ _ _) ?_
    refine J_aload_n hX dX10_array_52 rfl 2 rfl ?_
    refine J_getR hX dX10_array_53 fl_RX10_19 (ltn ltc_0 hn) lo_0 rfl (rt_0_1 _ _ _ _ _) ?_
    refine J_getI hX dX10_array_56 fl_RX10_98 (ltn (lt_isTo_0 hu) hn) (lo_isTo_0 hu) rfl ?_
    obtain ⟨r7, m6, h0, h⟩ := bd2_some h
    refine J_callVi (As := [.ref u, .int (gI m3 u 0)]) (st := []) hX dX10_array_59 cw_RX10_101 (by omega) (c_X4_build hn p_isLa_26 hu h0) (ltn ltc_26 hn) lo_26 (by decide) rfl rfl rfl (Nat.le_of_ble_eq_true rfl) ?_
    clear h0
    refine J_pop hX dX10_array_62 rfl ?_
    refine J_aload_n hX dX10_array_63 rfl 2 rfl ?_
    refine J_getR hX dX10_array_64 fl_RX10_40 (ltn ltc_0 hn) lo_0 rfl (rt_0_4 _ _ _ _ _) ?_
    refine J_iconst hX (0 : Int32) dX10_array_67 ic_0 ?_
    refine J_putI hX dX10_array_68 pl_RX10_105 (ltn (lt_isWk_0 hw) hn) (lo_isWk_0 hw) rfl rfl rfl h (fun m8 h => ?_)
    refine J_aload_n hX dX10_array_71 rfl 2 rfl ?_
    refine J_getR hX dX10_array_72 fl_RX10_62 (ltn ltc_0 hn) lo_0 rfl (rt_0_8 _ _ _ _ _) ?_
    obtain ⟨m9, h0, h⟩ := bd1_some h
    refine J_callVv (As := []) (st := []) hX dX10_array_75 cw_RX10_106 (by omega) (c_X6_begin hn p_isSt_54 h0) (ltn ltc_54 hn) lo_54 (by decide) rfl rfl rfl (Nat.le_of_ble_eq_true rfl) ?_
    clear h0
    refine J_iconst hX (0 : Int32) dX10_array_78 ic_0 ?_
    refine J_istore_n hX [(3, .int (0 : Int32)), (2, .ref t), (1, .int r2), (0, .ref 0)] dX10_array_79 rfl (by decide) rfl ?_
    refine J_sub [(0, .ref 0), (3, .int (0 : Int32))] [3, 0] rfl ?_
    exact t_X10_array_L80 hX hd0 hn ht hu hw hv hF FU (0 : Int32)  m9 h
  · refine J_iload_n hX dX10_array_24 rfl 0 rfl ?_
    have hF := fin_an h c hF
    exact J_ireturn hX dX10_array_25 h hF rfl
theorem c_X10_array {G : GG} {l : Launch} {ρ : Nat → Nat} {n : Nat} {x : Option Nat} (hn : 126 ≤ n) {t : Nat} {u : Nat} {w : Nat} {v : Nat} (ht : isTo t) (hu : isTo u) (hw : isWk w) (hv : isWk v) {m : Mm} {rE : Int32} {mE : Mm} (h : f_X10_array t u w v m = some (rE, mE)) : CT G l yX10_array cX10_array 4 (some .int) 73 0 0 ρ n (RT t u w v x) [.ref 0] m (some (.int rE)) (rtA t u w v rE) mE := ct_of_J (by decide) rfl (Nat.le_of_ble_eq_true rfl) (fun X hX e1 e2 e3 e4 hQ hr hl => t_X10_array hX (Nat.le_refl _) hn ht hu hw hv ⟨by rw [hQ, e3, e4], hr, hl⟩ h)
theorem t_X11_array_L52 {X : XX} {G : GG} {ρ : Nat → Nat} {n t u w v : Nat} {x : Option Nat} {d : Nat} (hX : Ok X G ρ cX11_array 2 RX11 d) (hd0 : 5 ≤ d) (hn : 126 ≤ n) {rE : Int32} {mE : Mm} (hF : Fin' X G ρ n (some .int) (some (.int rE)) (RT t u w v x) mE) : ∀ (k : Nat) (v1 : Int32) (m : Mm), f_X11_array_L52 k v1 m = some (rE, mE) → J X G ρ n 2 52 [(0, .ref 78), (1, .int v1)] [] (RT t u w v x) m := by
  intro k
  induction k with
  | zero => intro _ _ h; rw [f_X11_array_L52] at h; cases h
  | succ k ih =>
    intro v1 m h
    rw [f_X11_array_L52] at h
    refine J_iload_n hX dX11_array_52 rfl 1 rfl ?_
    refine J_iconst hX (2 : Int32) dX11_array_53 ic_2 ?_
    refine J_icmp_ge hX 70 dX11_array_54 (by decide) h (fun c h => ?_) (fun c h => ?_)
    · refine J_aload_n hX dX11_array_57 rfl 0 rfl ?_
      refine J_getR hX dX11_array_58 fl_RX11_137 (ltn ltc_78 hn) lo_78 rfl (rt_78_54 _ _ _ _ _) ?_
      refine J_iload_n hX dX11_array_61 rfl 1 rfl ?_
      refine J_iconst hX (0 : Int32) dX11_array_62 ic_0 ?_
      refine J_bastore hX dX11_array_63 (ltn ltc_121 hn) lay_121 vz0 h (fun m9 h => ?_)
      refine J_iinc hX (v1 + (1 : Int32)) [(1, .int (v1 + (1 : Int32))), (0, .ref 78)] dX11_array_64 1 rfl (congrArg (fun z => v1 + z) ic_1) (by decide) rfl ?_
      refine J_goto hX 52 dX11_array_67 (by decide) ?_
      refine J_sub [(0, .ref 78), (1, .int (v1 + (1 : Int32)))] [1, 0] rfl ?_
      exact ih (v1 + (1 : Int32)) m9 h
    · refine J_iconst hX (0 : Int32) dX11_array_70 ic_0 ?_
      exact J_ireturn hX dX11_array_71 h hF rfl
theorem t_X11_array {X : XX} {G : GG} {ρ : Nat → Nat} {n t u w v : Nat} {x : Option Nat} {d : Nat} (hX : Ok X G ρ cX11_array 2 RX11 d) (hd0 : 5 ≤ d) (hn : 126 ≤ n) {rE : Int32} {mE : Mm} (hF : Fin' X G ρ n (some .int) (some (.int rE)) (RT t u w v x) mE) {m : Mm} (h : f_X11_array m = some (rE, mE)) : J X G ρ n 2 0 [(0, .ref 78)] [] (RT t u w v x) m := by
  unfold f_X11_array at h
  refine J_aload_n hX dX11_array_0 rfl 0 rfl ?_
  refine J_iconst hX (0 : Int32) dX11_array_1 ic_0 ?_
  refine J_putI hX dX11_array_2 pl_RX11_152 (ltn ltc_78 hn) lo_78 rfl rfl rfl h (fun m1 h => ?_)
  refine J_aload_n hX dX11_array_5 rfl 0 rfl ?_
  obtain ⟨r3, m2, h0, h⟩ := bd2_some h
  refine J_callVi (As := []) (st := []) hX dX11_array_6 cw_RX11_339 (by omega) (c_X11_readsAll hn  h0) (ltn ltc_78 hn) lo_78 (by decide) rfl rfl rfl (Nat.le_of_ble_eq_true rfl) ?_
  clear h0
  refine J_if_ne hX 17 dX11_array_9 (by decide) h (fun c h => ?_) (fun c h => ?_)
  · refine J_aload_n hX dX11_array_12 rfl 0 rfl ?_
    refine J_getI hX dX11_array_13 fl_RX11_188 (ltn ltc_78 hn) lo_78 rfl ?_
    exact J_ireturn hX dX11_array_16 h hF rfl
  · refine J_aload_n hX dX11_array_17 rfl 0 rfl ?_
    obtain ⟨m4, h0, h⟩ := bd1_some h
    refine J_callVv (As := []) (st := []) hX dX11_array_18 cw_RX11_342 (by omega) (c_X11_lays hn  h0) (ltn ltc_78 hn) lo_78 (by decide) rfl rfl rfl (Nat.le_of_ble_eq_true rfl) ?_
    clear h0
    refine J_aload_n hX dX11_array_21 rfl 0 rfl ?_
    refine J_iconst hX (0 : Int32) dX11_array_22 ic_0 ?_
    refine J_aload_n hX dX11_array_23 rfl 0 rfl ?_
    refine J_getR hX dX11_array_24 fl_RX11_13 (ltn ltc_78 hn) lo_78 rfl (rt_78_10 _ _ _ _ _) ?_
    refine J_iconst hX (0 : Int32) dX11_array_27 ic_0 ?_
    refine J_iaload0 hX dX11_array_28 (ltn ltc_80 hn) lay_80 (by decide) ?_
    obtain ⟨m5, h0, h⟩ := bd1_some h
    refine J_callVv (As := [.int (0 : Int32), .int (gI m4 80 (ix (0 : Int32)))]) (st := []) hX dX11_array_29 cw_RX11_345 (by omega) (c_X11_laysAll hn  h0) (ltn ltc_78 hn) lo_78 (by decide) rfl rfl rfl (Nat.le_of_ble_eq_true rfl) ?_
    clear h0
    refine J_aload_n hX dX11_array_32 rfl 0 rfl ?_
    obtain ⟨m6, h0, h⟩ := bd1_some h
    refine J_callVv (As := []) (st := []) hX dX11_array_33 cw_RX11_149 (by omega) (c_X11_fresh0 hn  h0) (ltn ltc_78 hn) lo_78 (by decide) rfl rfl rfl (Nat.le_of_ble_eq_true rfl) ?_
    clear h0
    refine J_aload_n hX dX11_array_36 rfl 0 rfl ?_
    refine J_getR hX dX11_array_37 fl_RX11_104 (ltn ltc_78 hn) lo_78 rfl (rt_78_43 _ _ _ _ _) ?_
    refine J_iconst hX (0 : Int32) dX11_array_40 ic_0 ?_
    refine J_iconst hX (0 : Int32) dX11_array_41 ic_0 ?_
    refine J_iastore0 hX dX11_array_42 (ltn ltc_110 hn) lay_110 (by decide) h (fun m7 h => ?_)
    refine J_aload_n hX dX11_array_43 rfl 0 rfl ?_
    refine J_getR hX dX11_array_44 fl_RX11_116 (ltn ltc_78 hn) lo_78 rfl (rt_78_47 _ _ _ _ _) ?_
    refine J_iconst hX (0 : Int32) dX11_array_47 ic_0 ?_
    refine J_iconst hX (0 : Int32) dX11_array_48 ic_0 ?_
    refine J_iastore0 hX dX11_array_49 (ltn ltc_114 hn) lay_114 (by decide) h (fun m8 h => ?_)
    refine J_iconst hX (0 : Int32) dX11_array_50 ic_0 ?_
    refine J_istore_n hX [(1, .int (0 : Int32)), (0, .ref 78)] dX11_array_51 rfl (by decide) rfl ?_
    refine J_sub [(0, .ref 78), (1, .int (0 : Int32))] [1, 0] rfl ?_
    exact t_X11_array_L52 hX hd0 hn hF FU (0 : Int32)  m8 h
theorem c_X11_array {G : GG} {l : Launch} {ρ : Nat → Nat} {n t u w v : Nat} {x : Option Nat} (hn : 126 ≤ n) {m : Mm} {rE : Int32} {mE : Mm} (h : f_X11_array m = some (rE, mE)) : CT G l yX11_array cX11_array 2 (some .int) 5 0 0 ρ n (RT t u w v x) [.ref 78] m (some (.int rE)) (RT t u w v x) mE := ct_of_J (by decide) rfl (Nat.le_of_ble_eq_true rfl) (fun X hX e1 e2 e3 e4 hQ hr hl => t_X11_array hX (Nat.le_refl _) hn ⟨by rw [hQ, e3, e4], hr, hl⟩ h)
theorem t_X10_work {X : XX} {G : GG} {ρ : Nat → Nat} {n : Nat} {x : Option Nat} {d : Nat} {t : Nat} {u : Nat} {w : Nat} {v : Nat} (hX : Ok X G ρ cX10_work 3 RX10 d) (hd0 : 9 ≤ d) (hn : 126 ≤ n) (ht : isTo t) (hu : isTo u) (hw : isWk w) (hv : isWk v) {rE : Int32} {mE : Mm} (hF : Fin' X G ρ n (some .int) (some (.int rE)) (rtW t u w v x rE) mE) {m : Mm} (h : f_X10_work t u w v m = some (rE, mE)) : J X G ρ n 3 0 [(0, .ref 0)] [] (RT t u w v x) m := by
  unfold f_X10_work at h
  refine J_aload_n hX dX10_work_0 rfl 0 rfl ?_
  refine J_getR hX dX10_work_1 fl_RX10_44 (ltn ltc_0 hn) lo_0 rfl (rt_0_5 _ _ _ _ _) ?_
  refine J_aload_n hX dX10_work_4 rfl 0 rfl ?_
  refine J_getR hX dX10_work_5 fl_RX10_50 (ltn ltc_0 hn) lo_0 rfl (rt_0_6 _ _ _ _ _) ?_
  refine J_getI hX dX10_work_8 fl_RX10_109 (ltn ltc_26 hn) lo_26 rfl ?_
  refine J_aload_n hX dX10_work_11 rfl 0 rfl ?_
  refine J_getR hX dX10_work_12 fl_RX10_50 (ltn ltc_0 hn) lo_0 rfl (rt_0_6 _ _ _ _ _) ?_
  refine J_getI hX dX10_work_15 fl_RX10_112 (ltn ltc_26 hn) lo_26 rfl ?_
  obtain ⟨r2, m1, h0, h⟩ := bd2_some h
  refine J_callVi (As := [.int (gI m 26 2), .int (gI m 26 0)]) (st := []) hX dX10_work_18 cw_RX10_113 (by omega) (c_X9_fill hn hv h0) (ltn (lt_isWk_0 hv) hn) (lo_isWk_0 hv) (by decide) rfl rfl rfl (Nat.le_of_ble_eq_true rfl) ?_
  clear h0
  refine J_istore_n hX [(1, .int r2), (0, .ref 0)] dX10_work_21 rfl (by decide) rfl ?_
  refine J_aload_n hX dX10_work_22 rfl 1 rfl ?_
  refine J_getR hX dX10_work_23 fl_RX10_12 (ltn ltc_0 hn) lo_0 rfl (rt_0_0 _ _ _ _ _) ?_
  refine J_iconst hX (0 : Int32) dX10_work_26 ic_0 ?_
  refine J_putI hX dX10_work_27 pl_RX10_90 (ltn ltc_1 hn) lo_1 rfl rfl rfl h (fun m3 h => ?_)
  refine J_iload_n hX dX10_work_30 rfl 0 rfl ?_
  refine J_if_eq hX 36 dX10_work_31 (by decide) h (fun c h => ?_) (fun c h => ?_)
  · refine J_aload_n hX dX10_work_36 rfl 1 rfl ?_
    refine J_getR hX dX10_work_37 fl_RX10_40 (ltn ltc_0 hn) lo_0 rfl (rt_0_4 _ _ _ _ _) ?_
    refine J_astore_n hX [(2, .ref w), (1, .int r2), (0, .ref 0)] dX10_work_40 rfl (by decide) rfl ?_
    refine J_aload_n hX dX10_work_41 rfl 2 rfl ?_
    refine J_aload_n hX dX10_work_42 rfl 2 rfl ?_
    refine J_getR hX dX10_work_43 fl_RX10_44 (ltn ltc_0 hn) lo_0 rfl (rt_0_5 _ _ _ _ _) ?_
    refine J_putR (RT t u v v x) hX dX10_work_46 pl_RX10_40 (ltn ltc_0 hn) lo_0 rfl rfl RT_w ?_
    refine J_aload_n hX dX10_work_49 rfl 2 rfl ?_
    refine J_aload_n hX dX10_work_50 rfl 0 rfl ?_
    refine J_putR (RT t u v w x) hX dX10_work_51 pl_RX10_44 (ltn ltc_0 hn) lo_0 rfl rfl RT_v ?_
    refine J_iconst hX (0 : Int32) dX10_work_54 ic_0 ?_
    have hF := fin_w0 h hF
    exact J_ireturn hX dX10_work_55 h hF rfl
  · refine J_iload_n hX dX10_work_34 rfl 0 rfl ?_
    have hF := fin_wn h c hF
    exact J_ireturn hX dX10_work_35 h hF rfl
theorem c_X10_work {G : GG} {l : Launch} {ρ : Nat → Nat} {n : Nat} {x : Option Nat} (hn : 126 ≤ n) {t : Nat} {u : Nat} {w : Nat} {v : Nat} (ht : isTo t) (hu : isTo u) (hw : isWk w) (hv : isWk v) {m : Mm} {rE : Int32} {mE : Mm} (h : f_X10_work t u w v m = some (rE, mE)) : CT G l yX10_work cX10_work 3 (some .int) 9 0 0 ρ n (RT t u w v x) [.ref 0] m (some (.int rE)) (rtW t u w v x rE) mE := ct_of_J (by decide) rfl (Nat.le_of_ble_eq_true rfl) (fun X hX e1 e2 e3 e4 hQ hr hl => t_X10_work hX (Nat.le_refl _) hn ht hu hw hv ⟨by rw [hQ, e3, e4], hr, hl⟩ h)
theorem t_X11_work_L16 {X : XX} {G : GG} {ρ : Nat → Nat} {n t u w v : Nat} {x : Option Nat} {d : Nat} (hX : Ok X G ρ cX11_work 1 RX11 d) (hd0 : 4 ≤ d) (hn : 126 ≤ n) {rE : Int32} {mE : Mm} (hF : Fin' X G ρ n (some .int) (some (.int rE)) (RT t u w v x) mE) : ∀ (k : Nat) (m : Mm), f_X11_work_L16 k m = some (rE, mE) → J X G ρ n 1 16 [(0, .ref 78)] [] (RT t u w v x) m := by
  intro k
  induction k with
  | zero => intro _ h; rw [f_X11_work_L16] at h; cases h
  | succ k ih =>
    intro m h
    rw [f_X11_work_L16] at h
    refine J_aload_n hX dX11_work_16 rfl 0 rfl ?_
    refine J_getI hX dX11_work_17 fl_RX11_177 (ltn ltc_78 hn) lo_78 rfl ?_
    refine J_if_eq hX 35 dX11_work_20 (by decide) h (fun c h => ?_) (fun c h => ?_)
    · refine J_aload_n hX dX11_work_35 rfl 0 rfl ?_
      refine J_iconst hX (3 : Int32) dX11_work_36 ic_3 ?_
      refine J_iconst hX (0 : Int32) dX11_work_37 ic_0 ?_
      obtain ⟨m4, h0, h⟩ := bd1_some h
      refine J_callVv (As := [.int (3 : Int32), .int (0 : Int32)]) (st := []) hX dX11_work_38 cw_RX11_352 (by omega) (c_X11_laysLines hn  h0) (ltn ltc_78 hn) lo_78 (by decide) rfl rfl rfl (Nat.le_of_ble_eq_true rfl) ?_
      clear h0
      refine J_iconst hX (0 : Int32) dX11_work_41 ic_0 ?_
      exact J_ireturn hX dX11_work_42 h hF rfl
    · refine J_aload_n hX dX11_work_23 rfl 0 rfl ?_
      obtain ⟨r6, m5, h0, h⟩ := bd2_some h
      refine J_callVi (As := []) (st := []) hX dX11_work_24 cw_RX11_349 (by omega) (c_X11_readsLine hn  h0) (ltn ltc_78 hn) lo_78 (by decide) rfl rfl rfl (Nat.le_of_ble_eq_true rfl) ?_
      clear h0
      refine J_if_ne hX 16 dX11_work_27 (by decide) h (fun c h => ?_) (fun c h => ?_)
      · refine J_aload_n hX dX11_work_30 rfl 0 rfl ?_
        refine J_getI hX dX11_work_31 fl_RX11_188 (ltn ltc_78 hn) lo_78 rfl ?_
        exact J_ireturn hX dX11_work_34 h hF rfl
      · exact ih  m5 h
theorem t_X11_work {X : XX} {G : GG} {ρ : Nat → Nat} {n t u w v : Nat} {x : Option Nat} {d : Nat} (hX : Ok X G ρ cX11_work 1 RX11 d) (hd0 : 4 ≤ d) (hn : 126 ≤ n) {rE : Int32} {mE : Mm} (hF : Fin' X G ρ n (some .int) (some (.int rE)) (RT t u w v x) mE) {m : Mm} (h : f_X11_work m = some (rE, mE)) : J X G ρ n 1 0 [(0, .ref 78)] [] (RT t u w v x) m := by
  unfold f_X11_work at h
  refine J_aload_n hX dX11_work_0 rfl 0 rfl ?_
  refine J_iconst hX (0 : Int32) dX11_work_1 ic_0 ?_
  refine J_putI hX dX11_work_2 pl_RX11_152 (ltn ltc_78 hn) lo_78 rfl rfl rfl h (fun m1 h => ?_)
  refine J_aload_n hX dX11_work_5 rfl 0 rfl ?_
  refine J_getR hX dX11_work_6 fl_RX11_104 (ltn ltc_78 hn) lo_78 rfl (rt_78_43 _ _ _ _ _) ?_
  refine J_iconst hX (3 : Int32) dX11_work_9 ic_3 ?_
  refine J_iconst hX (0 : Int32) dX11_work_10 ic_0 ?_
  refine J_iastore0 hX dX11_work_11 (ltn ltc_110 hn) lay_110 (by decide) h (fun m2 h => ?_)
  refine J_aload_n hX dX11_work_12 rfl 0 rfl ?_
  obtain ⟨m3, h0, h⟩ := bd1_some h
  refine J_callVv (As := []) (st := []) hX dX11_work_13 cw_RX11_279 (by omega) (c_X11_begins hn  h0) (ltn ltc_78 hn) lo_78 (by decide) rfl rfl rfl (Nat.le_of_ble_eq_true rfl) ?_
  clear h0
  exact t_X11_work_L16 hX hd0 hn hF FU   m3 h
theorem c_X11_work {G : GG} {l : Launch} {ρ : Nat → Nat} {n t u w v : Nat} {x : Option Nat} (hn : 126 ≤ n) {m : Mm} {rE : Int32} {mE : Mm} (h : f_X11_work m = some (rE, mE)) : CT G l yX11_work cX11_work 1 (some .int) 4 0 0 ρ n (RT t u w v x) [.ref 78] m (some (.int rE)) (RT t u w v x) mE := ct_of_J (by decide) rfl (Nat.le_of_ble_eq_true rfl) (fun X hX e1 e2 e3 e4 hQ hr hl => t_X11_work hX (Nat.le_refl _) hn ⟨by rw [hQ, e3, e4], hr, hl⟩ h)
theorem t_X10_stripe {X : XX} {G : GG} {ρ : Nat → Nat} {n : Nat} {x : Option Nat} {d : Nat} {t : Nat} {u : Nat} {w : Nat} {v : Nat} (hX : Ok X G ρ cX10_stripe 3 RX10 d) (hd0 : 1 ≤ d) (hn : 126 ≤ n) (ht : isTo t) (hu : isTo u) (hw : isWk w) (hv : isWk v) {rE : Int32} {mE : Mm} (hF : Fin' X G ρ n (some .int) (some (.int rE)) (RT t u w v x) mE) {x1 : Int32} {x2 : Int32} {m : Mm} (h : f_X10_stripe t u w v x1 x2 m = some (rE, mE)) : J X G ρ n 3 0 [(0, .ref 0), (1, .int x1), (2, .int x2)] [] (RT t u w v x) m := by
  unfold f_X10_stripe at h
  refine J_aload_n hX dX10_stripe_0 rfl 0 rfl ?_
  refine J_iload_n hX dX10_stripe_1 rfl 1 rfl ?_
  obtain ⟨r2, m1, h0, h⟩ := bd2_some h
  refine J_callVi (As := [.int x1]) (st := []) hX dX10_stripe_2 cw_RX10_116 (by omega) (c_X10_isStripe hn ht hu hw hv h0) (ltn ltc_0 hn) lo_0 (by decide) rfl rfl rfl (Nat.le_of_ble_eq_true rfl) ?_
  clear h0
  refine J_if_ne hX 11 dX10_stripe_5 (by decide) h (fun c h => ?_) (fun c h => ?_)
  · refine J_bipush hX (-2 : Int32) dX10_stripe_8 (by decide) ?_
    exact J_ireturn hX dX10_stripe_10 h hF rfl
  · refine J_iload_n hX dX10_stripe_11 rfl 2 rfl ?_
    refine J_split h (fun c0 h => ?_) (fun c0 h => ?_)
    · refine J_tabIn hX 52 (0 : Int32) dX10_stripe_12 c0 (by decide) (by decide) (by decide) (by decide) ?_
      refine J_aload_n hX dX10_stripe_52 rfl 0 rfl ?_
      refine J_getR hX dX10_stripe_53 fl_RX10_50 (ltn ltc_0 hn) lo_0 rfl (rt_0_6 _ _ _ _ _) ?_
      refine J_getR hX dX10_stripe_56 fl_RX10_120 (ltn ltc_26 hn) lo_26 rfl (rt_26_3 _ _ _ _ _) ?_
      refine J_iload_n hX dX10_stripe_59 rfl 1 rfl ?_
      refine J_iaload hX dX10_stripe_60 (ltn ltc_27 hn) lay_27 h (fun h => ?_)
      exact J_ireturn hX dX10_stripe_61 h hF rfl
    · refine J_split h (fun c1 h => ?_) (fun c1 h => ?_)
      · refine J_tabIn hX 62 (1 : Int32) dX10_stripe_12 c1 (by decide) (by decide) (by decide) (by decide) ?_
        refine J_aload_n hX dX10_stripe_62 rfl 0 rfl ?_
        refine J_getR hX dX10_stripe_63 fl_RX10_50 (ltn ltc_0 hn) lo_0 rfl (rt_0_6 _ _ _ _ _) ?_
        refine J_getR hX dX10_stripe_66 fl_RX10_124 (ltn ltc_26 hn) lo_26 rfl (rt_26_4 _ _ _ _ _) ?_
        refine J_iload_n hX dX10_stripe_69 rfl 1 rfl ?_
        refine J_iaload hX dX10_stripe_70 (ltn ltc_28 hn) lay_28 h (fun h => ?_)
        exact J_ireturn hX dX10_stripe_71 h hF rfl
      · refine J_split h (fun c2 h => ?_) (fun c2 h => ?_)
        · refine J_tabIn hX 72 (2 : Int32) dX10_stripe_12 c2 (by decide) (by decide) (by decide) (by decide) ?_
          refine J_aload_n hX dX10_stripe_72 rfl 0 rfl ?_
          refine J_getR hX dX10_stripe_73 fl_RX10_50 (ltn ltc_0 hn) lo_0 rfl (rt_0_6 _ _ _ _ _) ?_
          refine J_getR hX dX10_stripe_76 fl_RX10_127 (ltn ltc_26 hn) lo_26 rfl (rt_26_6 _ _ _ _ _) ?_
          refine J_iload_n hX dX10_stripe_79 rfl 1 rfl ?_
          refine J_iaload hX dX10_stripe_80 (ltn ltc_30 hn) lay_30 h (fun h => ?_)
          exact J_ireturn hX dX10_stripe_81 h hF rfl
        · refine J_split h (fun c3 h => ?_) (fun c3 h => ?_)
          · refine J_tabIn hX 82 (3 : Int32) dX10_stripe_12 c3 (by decide) (by decide) (by decide) (by decide) ?_
            refine J_aload_n hX dX10_stripe_82 rfl 0 rfl ?_
            refine J_getR hX dX10_stripe_83 fl_RX10_50 (ltn ltc_0 hn) lo_0 rfl (rt_0_6 _ _ _ _ _) ?_
            refine J_getR hX dX10_stripe_86 fl_RX10_130 (ltn ltc_26 hn) lo_26 rfl (rt_26_5 _ _ _ _ _) ?_
            refine J_iload_n hX dX10_stripe_89 rfl 1 rfl ?_
            refine J_iaload hX dX10_stripe_90 (ltn ltc_29 hn) lay_29 h (fun h => ?_)
            exact J_ireturn hX dX10_stripe_91 h hF rfl
          · refine J_split h (fun c4 h => ?_) (fun c4 h => ?_)
            · refine J_tabIn hX 92 (4 : Int32) dX10_stripe_12 c4 (by decide) (by decide) (by decide) (by decide) ?_
              refine J_aload_n hX dX10_stripe_92 rfl 0 rfl ?_
              refine J_getR hX dX10_stripe_93 fl_RX10_62 (ltn ltc_0 hn) lo_0 rfl (rt_0_8 _ _ _ _ _) ?_
              refine J_iload_n hX dX10_stripe_96 rfl 1 rfl ?_
              obtain ⟨r4, m3, h0, h⟩ := bd2_some h
              refine J_callVi (As := [.int x1]) (st := []) hX dX10_stripe_97 cw_RX10_133 (by omega) (c_X6_lostBits hn p_isSt_54 h0) (ltn ltc_54 hn) lo_54 (by decide) rfl rfl rfl (Nat.le_of_ble_eq_true rfl) ?_
              clear h0
              exact J_ireturn hX dX10_stripe_100 h hF rfl
            · refine J_split h (fun c5 h => ?_) (fun c5 h => ?_)
              · refine J_tabIn hX 101 (5 : Int32) dX10_stripe_12 c5 (by decide) (by decide) (by decide) (by decide) ?_
                refine J_aload_n hX dX10_stripe_101 rfl 0 rfl ?_
                refine J_getR hX dX10_stripe_102 fl_RX10_62 (ltn ltc_0 hn) lo_0 rfl (rt_0_8 _ _ _ _ _) ?_
                refine J_iload_n hX dX10_stripe_105 rfl 1 rfl ?_
                obtain ⟨r6, m5, h0, h⟩ := bd2_some h
                refine J_callVi (As := [.int x1]) (st := []) hX dX10_stripe_106 cw_RX10_137 (by omega) (c_X6_awayUnit hn p_isSt_54 h0) (ltn ltc_54 hn) lo_54 (by decide) rfl rfl rfl (Nat.le_of_ble_eq_true rfl) ?_
                clear h0
                exact J_ireturn hX dX10_stripe_109 h hF rfl
              · refine J_tabOut hX 110 [(0 : Int32), (1 : Int32), (2 : Int32), (3 : Int32), (4 : Int32), (5 : Int32)] dX10_stripe_12 (by decide) (by simp only [List.mem_cons, List.not_mem_nil, or_false, not_or]; exact ⟨c0, c1, c2, c3, c4, c5⟩) (by decide) ?_
                refine J_bipush hX (-2 : Int32) dX10_stripe_110 (by decide) ?_
                exact J_ireturn hX dX10_stripe_112 h hF rfl
theorem c_X10_stripe {G : GG} {l : Launch} {ρ : Nat → Nat} {n : Nat} {x : Option Nat} (hn : 126 ≤ n) {t : Nat} {u : Nat} {w : Nat} {v : Nat} (ht : isTo t) (hu : isTo u) (hw : isWk w) (hv : isWk v) {x1 : Int32} {x2 : Int32} {m : Mm} {rE : Int32} {mE : Mm} (h : f_X10_stripe t u w v x1 x2 m = some (rE, mE)) : CT G l yX10_stripe cX10_stripe 3 (some .int) 1 0 0 ρ n (RT t u w v x) [.ref 0, .int x1, .int x2] m (some (.int rE)) (RT t u w v x) mE := ct_of_J (by decide) rfl (Nat.le_of_ble_eq_true rfl) (fun X hX e1 e2 e3 e4 hQ hr hl => t_X10_stripe hX (Nat.le_refl _) hn ht hu hw hv ⟨by rw [hQ, e3, e4], hr, hl⟩ h)
theorem t_X11_stripe_L102 {X : XX} {G : GG} {ρ : Nat → Nat} {n t u w v : Nat} {x : Option Nat} {d : Nat} (hX : Ok X G ρ cX11_stripe 5 RX11 d) (hd0 : 1 ≤ d) (hn : 126 ≤ n) {rE : Int32} {mE : Mm} (hF : Fin' X G ρ n (some .int) (some (.int rE)) (RT t u w v x) mE) : ∀ (k : Nat) (v1 : Int32) (v3 : Int32) (v4 : Int32) (m : Mm), f_X11_stripe_L102 k v1 v3 v4 m = some (rE, mE) → J X G ρ n 5 102 [(0, .ref 78), (1, .int v1), (3, .int v3), (4, .int v4)] [] (RT t u w v x) m := by
  intro k
  induction k with
  | zero => intro _ _ _ _ h; rw [f_X11_stripe_L102] at h; cases h
  | succ k ih =>
    intro v1 v3 v4 m h
    rw [f_X11_stripe_L102] at h
    refine J_iload hX dX11_stripe_102 3 rfl ?_
    refine J_aload_n hX dX11_stripe_104 rfl 0 rfl ?_
    refine J_getR hX dX11_stripe_105 fl_RX11_74 (ltn ltc_78 hn) lo_78 rfl (rt_78_33 _ _ _ _ _) ?_
    refine J_iload_n hX dX11_stripe_108 rfl 1 rfl ?_
    refine J_iaload hX dX11_stripe_109 (ltn ltc_100 hn) lay_100 h (fun h => ?_)
    refine J_icmp_ge hX 148 dX11_stripe_110 (by decide) h (fun c h => ?_) (fun c h => ?_)
    · refine J_iload_n hX dX11_stripe_113 rfl 2 rfl ?_
      refine J_aload_n hX dX11_stripe_114 rfl 0 rfl ?_
      refine J_getR hX dX11_stripe_115 fl_RX11_125 (ltn ltc_78 hn) lo_78 rfl (rt_78_50 _ _ _ _ _) ?_
      refine J_bipush hX (14 : Int32) dX11_stripe_118 (by decide) ?_
      refine J_iconst hX (5 : Int32) dX11_stripe_120 ic_5 ?_
      refine J_iload_n hX dX11_stripe_121 rfl 1 rfl ?_
      refine J_imul hX dX11_stripe_122 ?_
      refine J_iadd hX dX11_stripe_123 ?_
      refine J_iload hX dX11_stripe_124 3 rfl ?_
      refine J_iadd hX dX11_stripe_126 ?_
      refine J_iaload hX dX11_stripe_127 (ltn ltc_117 hn) lay_117 h (fun h => ?_)
      refine J_iconst hX (2 : Int32) dX11_stripe_128 ic_2 ?_
      refine J_icmp_ne hX 139 dX11_stripe_129 (by decide) h (fun c h => ?_) (fun c h => ?_)
      · refine J_iconst hX (1 : Int32) dX11_stripe_132 ic_1 ?_
        refine J_iload hX dX11_stripe_133 3 rfl ?_
        refine J_ishl hX dX11_stripe_135 ?_
        refine J_goto hX 140 dX11_stripe_136 (by decide) ?_
        refine J_ior hX dX11_stripe_140 ?_
        refine J_istore_n hX [(3, .int (v3 ||| ((1 : Int32) <<< (v4 &&& 31)))), (0, .ref 78), (1, .int v1), (4, .int v4)] dX11_stripe_141 rfl (by decide) rfl ?_
        refine J_iinc hX (v4 + (1 : Int32)) [(4, .int (v4 + (1 : Int32))), (3, .int (v3 ||| ((1 : Int32) <<< (v4 &&& 31)))), (0, .ref 78), (1, .int v1)] dX11_stripe_142 3 rfl (congrArg (fun z => v4 + z) ic_1) (by decide) rfl ?_
        refine J_goto hX 102 dX11_stripe_145 (by decide) ?_
        refine J_sub [(0, .ref 78), (1, .int v1), (3, .int (v3 ||| ((1 : Int32) <<< (v4 &&& 31)))), (4, .int (v4 + (1 : Int32)))] [2, 3, 1, 0] rfl ?_
        exact ih v1 (v3 ||| ((1 : Int32) <<< (v4 &&& 31))) (v4 + (1 : Int32)) m h
      · refine J_iconst hX (0 : Int32) dX11_stripe_139 ic_0 ?_
        refine J_ior hX dX11_stripe_140 ?_
        refine J_istore_n hX [(3, .int (v3 ||| (0 : Int32))), (0, .ref 78), (1, .int v1), (4, .int v4)] dX11_stripe_141 rfl (by decide) rfl ?_
        refine J_iinc hX (v4 + (1 : Int32)) [(4, .int (v4 + (1 : Int32))), (3, .int (v3 ||| (0 : Int32))), (0, .ref 78), (1, .int v1)] dX11_stripe_142 3 rfl (congrArg (fun z => v4 + z) ic_1) (by decide) rfl ?_
        refine J_goto hX 102 dX11_stripe_145 (by decide) ?_
        refine J_sub [(0, .ref 78), (1, .int v1), (3, .int (v3 ||| (0 : Int32))), (4, .int (v4 + (1 : Int32)))] [2, 3, 1, 0] rfl ?_
        exact ih v1 (v3 ||| (0 : Int32)) (v4 + (1 : Int32)) m h
    · refine J_iload_n hX dX11_stripe_148 rfl 2 rfl ?_
      exact J_ireturn hX dX11_stripe_149 h hF rfl
theorem t_X11_stripe {X : XX} {G : GG} {ρ : Nat → Nat} {n t u w v : Nat} {x : Option Nat} {d : Nat} (hX : Ok X G ρ cX11_stripe 5 RX11 d) (hd0 : 1 ≤ d) (hn : 126 ≤ n) {rE : Int32} {mE : Mm} (hF : Fin' X G ρ n (some .int) (some (.int rE)) (RT t u w v x) mE) {x1 : Int32} {x2 : Int32} {m : Mm} (h : f_X11_stripe x1 x2 m = some (rE, mE)) : J X G ρ n 5 0 [(0, .ref 78), (1, .int x1), (2, .int x2)] [] (RT t u w v x) m := by
  unfold f_X11_stripe at h
  refine J_aload_n hX dX11_stripe_0 rfl 0 rfl ?_
  refine J_iconst hX (0 : Int32) dX11_stripe_1 ic_0 ?_
  refine J_putI hX dX11_stripe_2 pl_RX11_152 (ltn ltc_78 hn) lo_78 rfl rfl rfl h (fun m1 h => ?_)
  refine J_iload_n hX dX11_stripe_5 rfl 1 rfl ?_
  refine J_iconst hX (0 : Int32) dX11_stripe_6 ic_0 ?_
  refine J_aload_n hX dX11_stripe_7 rfl 0 rfl ?_
  refine J_getR hX dX11_stripe_8 fl_RX11_71 (ltn ltc_78 hn) lo_78 rfl (rt_78_32 _ _ _ _ _) ?_
  refine J_iconst hX (0 : Int32) dX11_stripe_11 ic_0 ?_
  refine J_iaload0 hX dX11_stripe_12 (ltn ltc_99 hn) lay_99 (by decide) ?_
  refine J_iconst hX (1 : Int32) dX11_stripe_13 ic_1 ?_
  refine J_isub hX dX11_stripe_14 ?_
  obtain ⟨r3, m2, h0, h⟩ := bd2_some h
  refine J_callSi (As := [.int x1, .int (0 : Int32), .int ((gI m1 99 (ix (0 : Int32))) - (1 : Int32))]) (st := []) hX dX11_stripe_15 cw_RX11_239 (by omega) (c_X11_within hn  h0) rfl rfl (Nat.le_of_ble_eq_true rfl) ?_
  clear h0
  refine J_if_eq hX 30 dX11_stripe_18 (by decide) h (fun c h => ?_) (fun c h => ?_)
  · refine J_bipush hX (-2 : Int32) dX11_stripe_30 (by decide) ?_
    exact J_ireturn hX dX11_stripe_32 h hF rfl
  · refine J_iload_n hX dX11_stripe_21 rfl 2 rfl ?_
    refine J_iconst hX (0 : Int32) dX11_stripe_22 ic_0 ?_
    refine J_iconst hX (5 : Int32) dX11_stripe_23 ic_5 ?_
    obtain ⟨r5, m4, h0, h⟩ := bd2_some h
    refine J_callSi (As := [.int x2, .int (0 : Int32), .int (5 : Int32)]) (st := []) hX dX11_stripe_24 cw_RX11_239 (by omega) (c_X11_within hn  h0) rfl rfl (Nat.le_of_ble_eq_true rfl) ?_
    clear h0
    refine J_if_ne hX 33 dX11_stripe_27 (by decide) h (fun c h => ?_) (fun c h => ?_)
    · refine J_bipush hX (-2 : Int32) dX11_stripe_30 (by decide) ?_
      exact J_ireturn hX dX11_stripe_32 h hF rfl
    · refine J_iload_n hX dX11_stripe_33 rfl 2 rfl ?_
      refine J_iconst hX (4 : Int32) dX11_stripe_34 ic_4 ?_
      refine J_icmp_ge hX 86 dX11_stripe_35 (by decide) h (fun c h => ?_) (fun c h => ?_)
      · refine J_iload_n hX dX11_stripe_38 rfl 2 rfl ?_
        refine J_if_ne hX 51 dX11_stripe_39 (by decide) h (fun c h => ?_) (fun c h => ?_)
        · refine J_aload_n hX dX11_stripe_42 rfl 0 rfl ?_
          refine J_getR hX dX11_stripe_43 fl_RX11_74 (ltn ltc_78 hn) lo_78 rfl (rt_78_33 _ _ _ _ _) ?_
          refine J_iload_n hX dX11_stripe_46 rfl 1 rfl ?_
          refine J_iaload hX dX11_stripe_47 (ltn ltc_100 hn) lay_100 h (fun h => ?_)
          refine J_goto hX 85 dX11_stripe_48 (by decide) ?_
          exact J_ireturn hX dX11_stripe_85 h hF rfl
        · refine J_iload_n hX dX11_stripe_51 rfl 2 rfl ?_
          refine J_iconst hX (1 : Int32) dX11_stripe_52 ic_1 ?_
          refine J_icmp_ne hX 65 dX11_stripe_53 (by decide) h (fun c h => ?_) (fun c h => ?_)
          · refine J_aload_n hX dX11_stripe_56 rfl 0 rfl ?_
            refine J_getR hX dX11_stripe_57 fl_RX11_80 (ltn ltc_78 hn) lo_78 rfl (rt_78_35 _ _ _ _ _) ?_
            refine J_iload_n hX dX11_stripe_60 rfl 1 rfl ?_
            refine J_iaload hX dX11_stripe_61 (ltn ltc_102 hn) lay_102 h (fun h => ?_)
            refine J_goto hX 85 dX11_stripe_62 (by decide) ?_
            exact J_ireturn hX dX11_stripe_85 h hF rfl
          · refine J_iload_n hX dX11_stripe_65 rfl 2 rfl ?_
            refine J_iconst hX (2 : Int32) dX11_stripe_66 ic_2 ?_
            refine J_icmp_ne hX 79 dX11_stripe_67 (by decide) h (fun c h => ?_) (fun c h => ?_)
            · refine J_aload_n hX dX11_stripe_70 rfl 0 rfl ?_
              refine J_getR hX dX11_stripe_71 fl_RX11_83 (ltn ltc_78 hn) lo_78 rfl (rt_78_36 _ _ _ _ _) ?_
              refine J_iload_n hX dX11_stripe_74 rfl 1 rfl ?_
              refine J_iaload hX dX11_stripe_75 (ltn ltc_103 hn) lay_103 h (fun h => ?_)
              refine J_goto hX 85 dX11_stripe_76 (by decide) ?_
              exact J_ireturn hX dX11_stripe_85 h hF rfl
            · refine J_aload_n hX dX11_stripe_79 rfl 0 rfl ?_
              refine J_getR hX dX11_stripe_80 fl_RX11_77 (ltn ltc_78 hn) lo_78 rfl (rt_78_34 _ _ _ _ _) ?_
              refine J_iload_n hX dX11_stripe_83 rfl 1 rfl ?_
              refine J_iaload hX dX11_stripe_84 (ltn ltc_101 hn) lay_101 h (fun h => ?_)
              exact J_ireturn hX dX11_stripe_85 h hF rfl
      · refine J_iload_n hX dX11_stripe_86 rfl 2 rfl ?_
        refine J_iconst hX (5 : Int32) dX11_stripe_87 ic_5 ?_
        refine J_icmp_ne hX 97 dX11_stripe_88 (by decide) h (fun c h => ?_) (fun c h => ?_)
        · refine J_aload_n hX dX11_stripe_91 rfl 0 rfl ?_
          refine J_iload_n hX dX11_stripe_92 rfl 1 rfl ?_
          obtain ⟨r7, m6, h0, h⟩ := bd2_some h
          refine J_callVi (As := [.int x1]) (st := []) hX dX11_stripe_93 cw_RX11_376 (by omega) (c_X11_awayIn hn  h0) (ltn ltc_78 hn) lo_78 (by decide) rfl rfl rfl (Nat.le_of_ble_eq_true rfl) ?_
          clear h0
          exact J_ireturn hX dX11_stripe_96 h hF rfl
        · refine J_iconst hX (0 : Int32) dX11_stripe_97 ic_0 ?_
          refine J_istore_n hX [(3, .int (0 : Int32)), (0, .ref 78), (1, .int x1), (2, .int x2)] dX11_stripe_98 rfl (by decide) rfl ?_
          refine J_iconst hX (0 : Int32) dX11_stripe_99 ic_0 ?_
          refine J_istore hX [(4, .int (0 : Int32)), (3, .int (0 : Int32)), (0, .ref 78), (1, .int x1), (2, .int x2)] dX11_stripe_100 (by decide) rfl ?_
          refine J_sub [(0, .ref 78), (1, .int x1), (3, .int (0 : Int32)), (4, .int (0 : Int32))] [2, 3, 1, 0] rfl ?_
          exact t_X11_stripe_L102 hX hd0 hn hF FU x1 (0 : Int32) (0 : Int32)  m4 h
theorem c_X11_stripe {G : GG} {l : Launch} {ρ : Nat → Nat} {n t u w v : Nat} {x : Option Nat} (hn : 126 ≤ n) {x1 : Int32} {x2 : Int32} {m : Mm} {rE : Int32} {mE : Mm} (h : f_X11_stripe x1 x2 m = some (rE, mE)) : CT G l yX11_stripe cX11_stripe 5 (some .int) 1 0 0 ρ n (RT t u w v x) [.ref 78, .int x1, .int x2] m (some (.int rE)) (RT t u w v x) mE := ct_of_J (by decide) rfl (Nat.le_of_ble_eq_true rfl) (fun X hX e1 e2 e3 e4 hQ hr hl => t_X11_stripe hX (Nat.le_refl _) hn ⟨by rw [hQ, e3, e4], hr, hl⟩ h)
theorem t_X10_unit {X : XX} {G : GG} {ρ : Nat → Nat} {n : Nat} {x : Option Nat} {d : Nat} {t : Nat} {u : Nat} {w : Nat} {v : Nat} (hX : Ok X G ρ cX10_unit 5 RX10 d) (hd0 : 2 ≤ d) (hn : 126 ≤ n) (ht : isTo t) (hu : isTo u) (hw : isWk w) (hv : isWk v) {rE : Int32} {mE : Mm} (hF : Fin' X G ρ n (some .int) (some (.int rE)) (RT t u w v x) mE) {x1 : Int32} {x2 : Int32} {x3 : Int32} {m : Mm} (h : f_X10_unit t u w v x1 x2 x3 m = some (rE, mE)) : J X G ρ n 5 0 [(0, .ref 0), (1, .int x1), (2, .int x2), (3, .int x3)] [] (RT t u w v x) m := by
  unfold f_X10_unit at h
  refine J_aload_n hX dX10_unit_0 rfl 0 rfl ?_
  refine J_iload_n hX dX10_unit_1 rfl 1 rfl ?_
  obtain ⟨r2, m1, h0, h⟩ := bd2_some h
  refine J_callVi (As := [.int x1]) (st := []) hX dX10_unit_2 cw_RX10_116 (by omega) (c_X10_isStripe hn ht hu hw hv h0) (ltn ltc_0 hn) lo_0 (by decide) rfl rfl rfl (Nat.le_of_ble_eq_true rfl) ?_
  clear h0
  refine J_if_eq hX 25 dX10_unit_5 (by decide) h (fun c h => ?_) (fun c h => ?_)
  · refine J_bipush hX (-2 : Int32) dX10_unit_25 (by decide) ?_
    exact J_ireturn hX dX10_unit_27 h hF rfl
  · refine J_iload_n hX dX10_unit_8 rfl 2 rfl ?_
    refine J_if_lt hX 25 dX10_unit_9 (by decide) h (fun c h => ?_) (fun c h => ?_)
    · refine J_bipush hX (-2 : Int32) dX10_unit_25 (by decide) ?_
      exact J_ireturn hX dX10_unit_27 h hF rfl
    · refine J_iload_n hX dX10_unit_12 rfl 2 rfl ?_
      refine J_aload_n hX dX10_unit_13 rfl 0 rfl ?_
      refine J_getR hX dX10_unit_14 fl_RX10_50 (ltn ltc_0 hn) lo_0 rfl (rt_0_6 _ _ _ _ _) ?_
      refine J_getR hX dX10_unit_17 fl_RX10_120 (ltn ltc_26 hn) lo_26 rfl (rt_26_3 _ _ _ _ _) ?_
      refine J_iload_n hX dX10_unit_20 rfl 1 rfl ?_
      refine J_iaload hX dX10_unit_21 (ltn ltc_27 hn) lay_27 h (fun h => ?_)
      refine J_icmp_lt hX 28 dX10_unit_22 (by decide) h (fun c h => ?_) (fun c h => ?_)
      · refine J_iload_n hX dX10_unit_28 rfl 1 rfl ?_
        refine J_iconst hX (5 : Int32) dX10_unit_29 ic_5 ?_
        refine J_imul hX dX10_unit_30 ?_
        refine J_iload_n hX dX10_unit_31 rfl 2 rfl ?_
        refine J_iadd hX dX10_unit_32 ?_
        refine J_istore hX [(4, .int ((x1 * (5 : Int32)) + x2)), (0, .ref 0), (1, .int x1), (2, .int x2), (3, .int x3)] dX10_unit_33 (by decide) rfl ?_
        refine J_iload_n hX dX10_unit_35 rfl 4 rfl ?_
        refine J_split h (fun c0 h => ?_) (fun c0 h => ?_)
        · refine J_tabIn hX 72 (0 : Int32) dX10_unit_36 c0 (by decide) (by decide) (by decide) (by decide) ?_
          refine J_aload_n hX dX10_unit_72 rfl 1 rfl ?_
          refine J_getR hX dX10_unit_73 fl_RX10_50 (ltn ltc_0 hn) lo_0 rfl (rt_0_6 _ _ _ _ _) ?_
          refine J_getR hX dX10_unit_76 fl_RX10_140 (ltn ltc_26 hn) lo_26 rfl (rt_26_9 _ _ _ _ _) ?_
          refine J_iload hX dX10_unit_79 0 rfl ?_
          refine J_iaload hX dX10_unit_81 (ltn ltc_33 hn) lay_33 h (fun h => ?_)
          exact J_ireturn hX dX10_unit_82 h hF rfl
        · refine J_split h (fun c1 h => ?_) (fun c1 h => ?_)
          · refine J_tabIn hX 83 (1 : Int32) dX10_unit_36 c1 (by decide) (by decide) (by decide) (by decide) ?_
            refine J_aload_n hX dX10_unit_83 rfl 1 rfl ?_
            refine J_getR hX dX10_unit_84 fl_RX10_50 (ltn ltc_0 hn) lo_0 rfl (rt_0_6 _ _ _ _ _) ?_
            refine J_getR hX dX10_unit_87 fl_RX10_143 (ltn ltc_26 hn) lo_26 rfl (rt_26_10 _ _ _ _ _) ?_
            refine J_iload hX dX10_unit_90 0 rfl ?_
            refine J_iaload hX dX10_unit_92 (ltn ltc_34 hn) lay_34 h (fun h => ?_)
            exact J_ireturn hX dX10_unit_93 h hF rfl
          · refine J_split h (fun c2 h => ?_) (fun c2 h => ?_)
            · refine J_tabIn hX 94 (2 : Int32) dX10_unit_36 c2 (by decide) (by decide) (by decide) (by decide) ?_
              refine J_aload_n hX dX10_unit_94 rfl 1 rfl ?_
              refine J_getR hX dX10_unit_95 fl_RX10_62 (ltn ltc_0 hn) lo_0 rfl (rt_0_8 _ _ _ _ _) ?_
              refine J_getR hX dX10_unit_98 fl_RX10_146 (ltn ltc_54 hn) lo_54 rfl (rt_54_2 _ _ _ _ _) ?_
              refine J_iload hX dX10_unit_101 0 rfl ?_
              refine J_iaload hX dX10_unit_103 (ltn ltc_55 hn) lay_55 h (fun h => ?_)
              exact J_ireturn hX dX10_unit_104 h hF rfl
            · refine J_split h (fun c3 h => ?_) (fun c3 h => ?_)
              · refine J_tabIn hX 105 (3 : Int32) dX10_unit_36 c3 (by decide) (by decide) (by decide) (by decide) ?_
                refine J_aload_n hX dX10_unit_105 rfl 1 rfl ?_
                refine J_getR hX dX10_unit_106 fl_RX10_62 (ltn ltc_0 hn) lo_0 rfl (rt_0_8 _ _ _ _ _) ?_
                refine J_getR hX dX10_unit_109 fl_RX10_146 (ltn ltc_54 hn) lo_54 rfl (rt_54_2 _ _ _ _ _) ?_
                refine J_iload hX dX10_unit_112 0 rfl ?_
                refine J_iaload hX dX10_unit_114 (ltn ltc_55 hn) lay_55 h (fun h => ?_)
                refine J_iconst hX (2 : Int32) dX10_unit_115 ic_2 ?_
                refine J_icmp_ne hX 134 dX10_unit_116 (by decide) h (fun c h => ?_) (fun c h => ?_)
                · refine J_aload_n hX dX10_unit_119 rfl 1 rfl ?_
                  refine J_getR hX dX10_unit_120 fl_RX10_62 (ltn ltc_0 hn) lo_0 rfl (rt_0_8 _ _ _ _ _) ?_
                  refine J_iload_n hX dX10_unit_123 rfl 2 rfl ?_
                  obtain ⟨r6, m5, h0, h⟩ := bd2_some h
                  refine J_callVi (As := [.int x1]) (st := []) hX dX10_unit_124 cw_RX10_149 (by omega) (c_X6_isDead hn p_isSt_54 h0) (ltn ltc_54 hn) lo_54 (by decide) rfl rfl rfl (Nat.le_of_ble_eq_true rfl) ?_
                  clear h0
                  refine J_if_eq hX 134 dX10_unit_127 (by decide) h (fun c h => ?_) (fun c h => ?_)
                  · refine J_aload_n hX dX10_unit_134 rfl 1 rfl ?_
                    refine J_getR hX dX10_unit_135 fl_RX10_62 (ltn ltc_0 hn) lo_0 rfl (rt_0_8 _ _ _ _ _) ?_
                    refine J_iload hX dX10_unit_138 0 rfl ?_
                    obtain ⟨r8, m7, h0, h⟩ := bd2_some h
                    refine J_callVi (As := [.int ((x1 * (5 : Int32)) + x2)]) (st := []) hX dX10_unit_140 cw_RX10_152 (by omega) (c_X6_byteOf hn p_isSt_54 h0) (ltn ltc_54 hn) lo_54 (by decide) rfl rfl rfl (Nat.le_of_ble_eq_true rfl) ?_
                    clear h0
                    exact J_ireturn hX dX10_unit_143 h hF rfl
                  · refine J_iconst hX (-1 : Int32) dX10_unit_130 ic_m1 ?_
                    refine J_goto hX 143 dX10_unit_131 (by decide) ?_
                    exact J_ireturn hX dX10_unit_143 h hF rfl
                · refine J_aload_n hX dX10_unit_134 rfl 1 rfl ?_
                  refine J_getR hX dX10_unit_135 fl_RX10_62 (ltn ltc_0 hn) lo_0 rfl (rt_0_8 _ _ _ _ _) ?_
                  refine J_iload hX dX10_unit_138 0 rfl ?_
                  obtain ⟨r4, m3, h0, h⟩ := bd2_some h
                  refine J_callVi (As := [.int ((x1 * (5 : Int32)) + x2)]) (st := []) hX dX10_unit_140 cw_RX10_152 (by omega) (c_X6_byteOf hn p_isSt_54 h0) (ltn ltc_54 hn) lo_54 (by decide) rfl rfl rfl (Nat.le_of_ble_eq_true rfl) ?_
                  clear h0
                  exact J_ireturn hX dX10_unit_143 h hF rfl
              · refine J_split h (fun c4 h => ?_) (fun c4 h => ?_)
                · refine J_tabIn hX 144 (4 : Int32) dX10_unit_36 c4 (by decide) (by decide) (by decide) (by decide) ?_
                  refine J_aload_n hX dX10_unit_144 rfl 1 rfl ?_
                  refine J_getR hX dX10_unit_145 fl_RX10_50 (ltn ltc_0 hn) lo_0 rfl (rt_0_6 _ _ _ _ _) ?_
                  refine J_getR hX dX10_unit_148 fl_RX10_155 (ltn ltc_26 hn) lo_26 rfl (rt_26_11 _ _ _ _ _) ?_
                  refine J_iload hX dX10_unit_151 0 rfl ?_
                  refine J_iaload hX dX10_unit_153 (ltn ltc_35 hn) lay_35 h (fun h => ?_)
                  exact J_ireturn hX dX10_unit_154 h hF rfl
                · refine J_tabOut hX 155 [(0 : Int32), (1 : Int32), (2 : Int32), (3 : Int32), (4 : Int32)] dX10_unit_36 (by decide) (by simp only [List.mem_cons, List.not_mem_nil, or_false, not_or]; exact ⟨c0, c1, c2, c3, c4⟩) (by decide) ?_
                  refine J_bipush hX (-2 : Int32) dX10_unit_155 (by decide) ?_
                  exact J_ireturn hX dX10_unit_157 h hF rfl
      · refine J_bipush hX (-2 : Int32) dX10_unit_25 (by decide) ?_
        exact J_ireturn hX dX10_unit_27 h hF rfl
theorem c_X10_unit {G : GG} {l : Launch} {ρ : Nat → Nat} {n : Nat} {x : Option Nat} (hn : 126 ≤ n) {t : Nat} {u : Nat} {w : Nat} {v : Nat} (ht : isTo t) (hu : isTo u) (hw : isWk w) (hv : isWk v) {x1 : Int32} {x2 : Int32} {x3 : Int32} {m : Mm} {rE : Int32} {mE : Mm} (h : f_X10_unit t u w v x1 x2 x3 m = some (rE, mE)) : CT G l yX10_unit cX10_unit 5 (some .int) 2 0 0 ρ n (RT t u w v x) [.ref 0, .int x1, .int x2, .int x3] m (some (.int rE)) (RT t u w v x) mE := ct_of_J (by decide) rfl (Nat.le_of_ble_eq_true rfl) (fun X hX e1 e2 e3 e4 hQ hr hl => t_X10_unit hX (Nat.le_refl _) hn ht hu hw hv ⟨by rw [hQ, e3, e4], hr, hl⟩ h)
theorem t_X11_byteOf_L35 {X : XX} {G : GG} {ρ : Nat → Nat} {n t u w v : Nat} {x : Option Nat} {d : Nat} (hX : Ok X G ρ cX11_byteOf 5 RX11 d) (hd0 : 0 ≤ d) (hn : 126 ≤ n) {rE : Int32} {mE : Mm} (hF : Fin' X G ρ n (some .int) (some (.int rE)) (RT t u w v x) mE) : ∀ (k : Nat) (v1 : Int32) (v2 : Int32) (v3 : Int32) (v4 : Int32) (m : Mm), f_X11_byteOf_L35 k v1 v2 v3 v4 m = some (rE, mE) → J X G ρ n 5 35 [(0, .ref 78), (1, .int v1), (2, .int v2), (3, .int v3), (4, .int v4)] [] (RT t u w v x) m := by
  intro k
  induction k with
  | zero => intro _ _ _ _ _ h; rw [f_X11_byteOf_L35] at h; cases h
  | succ k ih =>
    intro v1 v2 v3 v4 m h
    rw [f_X11_byteOf_L35] at h
    refine J_iload hX dX11_byteOf_35 4 rfl ?_
    refine J_aload_n hX dX11_byteOf_37 rfl 0 rfl ?_
    refine J_getR hX dX11_byteOf_38 fl_RX11_74 (ltn ltc_78 hn) lo_78 rfl (rt_78_33 _ _ _ _ _) ?_
    refine J_iload_n hX dX11_byteOf_41 rfl 1 rfl ?_
    refine J_iaload hX dX11_byteOf_42 (ltn ltc_100 hn) lay_100 h (fun h => ?_)
    refine J_icmp_ge hX 81 dX11_byteOf_43 (by decide) h (fun c h => ?_) (fun c h => ?_)
    · refine J_iload hX dX11_byteOf_46 4 rfl ?_
      refine J_iload_n hX dX11_byteOf_48 rfl 2 rfl ?_
      refine J_icmp_eq hX 75 dX11_byteOf_49 (by decide) h (fun c h => ?_) (fun c h => ?_)
      · refine J_iinc hX (v4 + (1 : Int32)) [(4, .int (v4 + (1 : Int32))), (0, .ref 78), (1, .int v1), (2, .int v2), (3, .int v3)] dX11_byteOf_75 4 rfl (congrArg (fun z => v4 + z) ic_1) (by decide) rfl ?_
        refine J_goto hX 35 dX11_byteOf_78 (by decide) ?_
        refine J_sub [(0, .ref 78), (1, .int v1), (2, .int v2), (3, .int v3), (4, .int (v4 + (1 : Int32)))] [1, 2, 3, 4, 0] rfl ?_
        exact ih v1 v2 v3 (v4 + (1 : Int32)) m h
      · refine J_iload_n hX dX11_byteOf_52 rfl 3 rfl ?_
        refine J_aload_n hX dX11_byteOf_53 rfl 0 rfl ?_
        refine J_getR hX dX11_byteOf_54 fl_RX11_125 (ltn ltc_78 hn) lo_78 rfl (rt_78_50 _ _ _ _ _) ?_
        refine J_sipush hX (214 : Int32) dX11_byteOf_57 (by decide) ?_
        refine J_aload_n hX dX11_byteOf_60 rfl 0 rfl ?_
        refine J_getR hX dX11_byteOf_61 fl_RX11_101 (ltn ltc_78 hn) lo_78 rfl (rt_78_42 _ _ _ _ _) ?_
        refine J_iconst hX (5 : Int32) dX11_byteOf_64 ic_5 ?_
        refine J_iload_n hX dX11_byteOf_65 rfl 1 rfl ?_
        refine J_imul hX dX11_byteOf_66 ?_
        refine J_iload hX dX11_byteOf_67 4 rfl ?_
        refine J_iadd hX dX11_byteOf_69 ?_
        refine J_iaload hX dX11_byteOf_70 (ltn ltc_109 hn) lay_109 h (fun h => ?_)
        refine J_iadd hX dX11_byteOf_71 ?_
        refine J_iaload hX dX11_byteOf_72 (ltn ltc_117 hn) lay_117 h (fun h => ?_)
        refine J_ixor hX dX11_byteOf_73 ?_
        refine J_istore_n hX [(3, .int (v3 ^^^ (gI m 117 (ix ((214 : Int32) + (gI m 109 (ix (((5 : Int32) * v1) + v4)))))))), (0, .ref 78), (1, .int v1), (2, .int v2), (4, .int v4)] dX11_byteOf_74 rfl (by decide) rfl ?_
        refine J_iinc hX (v4 + (1 : Int32)) [(4, .int (v4 + (1 : Int32))), (3, .int (v3 ^^^ (gI m 117 (ix ((214 : Int32) + (gI m 109 (ix (((5 : Int32) * v1) + v4)))))))), (0, .ref 78), (1, .int v1), (2, .int v2)] dX11_byteOf_75 4 rfl (congrArg (fun z => v4 + z) ic_1) (by decide) rfl ?_
        refine J_goto hX 35 dX11_byteOf_78 (by decide) ?_
        refine J_sub [(0, .ref 78), (1, .int v1), (2, .int v2), (3, .int (v3 ^^^ (gI m 117 (ix ((214 : Int32) + (gI m 109 (ix (((5 : Int32) * v1) + v4)))))))), (4, .int (v4 + (1 : Int32)))] [2, 3, 4, 1, 0] rfl ?_
        exact ih v1 v2 (v3 ^^^ (gI m 117 (ix ((214 : Int32) + (gI m 109 (ix (((5 : Int32) * v1) + v4))))))) (v4 + (1 : Int32)) m h
    · refine J_iload_n hX dX11_byteOf_81 rfl 3 rfl ?_
      exact J_ireturn hX dX11_byteOf_82 h hF rfl
theorem t_X11_byteOf {X : XX} {G : GG} {ρ : Nat → Nat} {n t u w v : Nat} {x : Option Nat} {d : Nat} (hX : Ok X G ρ cX11_byteOf 5 RX11 d) (hd0 : 0 ≤ d) (hn : 126 ≤ n) {rE : Int32} {mE : Mm} (hF : Fin' X G ρ n (some .int) (some (.int rE)) (RT t u w v x) mE) {x1 : Int32} {x2 : Int32} {m : Mm} (h : f_X11_byteOf x1 x2 m = some (rE, mE)) : J X G ρ n 5 0 [(0, .ref 78), (1, .int x1), (2, .int x2)] [] (RT t u w v x) m := by
  unfold f_X11_byteOf at h
  refine J_iload_n hX dX11_byteOf_0 rfl 2 rfl ?_
  refine J_aload_n hX dX11_byteOf_1 rfl 0 rfl ?_
  refine J_getR hX dX11_byteOf_2 fl_RX11_80 (ltn ltc_78 hn) lo_78 rfl (rt_78_35 _ _ _ _ _) ?_
  refine J_iload_n hX dX11_byteOf_5 rfl 1 rfl ?_
  refine J_iaload hX dX11_byteOf_6 (ltn ltc_102 hn) lay_102 h (fun h => ?_)
  refine J_icmp_eq hX 30 dX11_byteOf_7 (by decide) h (fun c h => ?_) (fun c h => ?_)
  · refine J_iconst hX (0 : Int32) dX11_byteOf_30 ic_0 ?_
    refine J_istore_n hX [(3, .int (0 : Int32)), (0, .ref 78), (1, .int x1), (2, .int x2)] dX11_byteOf_31 rfl (by decide) rfl ?_
    refine J_iconst hX (0 : Int32) dX11_byteOf_32 ic_0 ?_
    refine J_istore hX [(4, .int (0 : Int32)), (3, .int (0 : Int32)), (0, .ref 78), (1, .int x1), (2, .int x2)] dX11_byteOf_33 (by decide) rfl ?_
    refine J_sub [(0, .ref 78), (1, .int x1), (2, .int x2), (3, .int (0 : Int32)), (4, .int (0 : Int32))] [2, 3, 4, 1, 0] rfl ?_
    exact t_X11_byteOf_L35 hX hd0 hn hF FU x1 x2 (0 : Int32) (0 : Int32)  m h
  · refine J_aload_n hX dX11_byteOf_10 rfl 0 rfl ?_
    refine J_getR hX dX11_byteOf_11 fl_RX11_125 (ltn ltc_78 hn) lo_78 rfl (rt_78_50 _ _ _ _ _) ?_
    refine J_sipush hX (214 : Int32) dX11_byteOf_14 (by decide) ?_
    refine J_aload_n hX dX11_byteOf_17 rfl 0 rfl ?_
    refine J_getR hX dX11_byteOf_18 fl_RX11_101 (ltn ltc_78 hn) lo_78 rfl (rt_78_42 _ _ _ _ _) ?_
    refine J_iconst hX (5 : Int32) dX11_byteOf_21 ic_5 ?_
    refine J_iload_n hX dX11_byteOf_22 rfl 1 rfl ?_
    refine J_imul hX dX11_byteOf_23 ?_
    refine J_iload_n hX dX11_byteOf_24 rfl 2 rfl ?_
    refine J_iadd hX dX11_byteOf_25 ?_
    refine J_iaload hX dX11_byteOf_26 (ltn ltc_109 hn) lay_109 h (fun h => ?_)
    refine J_iadd hX dX11_byteOf_27 ?_
    refine J_iaload hX dX11_byteOf_28 (ltn ltc_117 hn) lay_117 h (fun h => ?_)
    exact J_ireturn hX dX11_byteOf_29 h hF rfl
theorem c_X11_byteOf {G : GG} {l : Launch} {ρ : Nat → Nat} {n t u w v : Nat} {x : Option Nat} (hn : 126 ≤ n) {x1 : Int32} {x2 : Int32} {m : Mm} {rE : Int32} {mE : Mm} (h : f_X11_byteOf x1 x2 m = some (rE, mE)) : CT G l yX11_byteOf cX11_byteOf 5 (some .int) 0 0 0 ρ n (RT t u w v x) [.ref 78, .int x1, .int x2] m (some (.int rE)) (RT t u w v x) mE := ct_of_J (by decide) rfl (Nat.le_of_ble_eq_true rfl) (fun X hX e1 e2 e3 e4 hQ hr hl => t_X11_byteOf hX (Nat.le_refl _) hn ⟨by rw [hQ, e3, e4], hr, hl⟩ h)
theorem t_X11_unit {X : XX} {G : GG} {ρ : Nat → Nat} {n t u w v : Nat} {x : Option Nat} {d : Nat} (hX : Ok X G ρ cX11_unit 5 RX11 d) (hd0 : 2 ≤ d) (hn : 126 ≤ n) {rE : Int32} {mE : Mm} (hF : Fin' X G ρ n (some .int) (some (.int rE)) (RT t u w v x) mE) {x1 : Int32} {x2 : Int32} {x3 : Int32} {m : Mm} (h : f_X11_unit x1 x2 x3 m = some (rE, mE)) : J X G ρ n 5 0 [(0, .ref 78), (1, .int x1), (2, .int x2), (3, .int x3)] [] (RT t u w v x) m := by
  unfold f_X11_unit at h
  refine J_aload_n hX dX11_unit_0 rfl 0 rfl ?_
  refine J_iconst hX (0 : Int32) dX11_unit_1 ic_0 ?_
  refine J_putI hX dX11_unit_2 pl_RX11_152 (ltn ltc_78 hn) lo_78 rfl rfl rfl h (fun m1 h => ?_)
  refine J_iload_n hX dX11_unit_5 rfl 1 rfl ?_
  refine J_iconst hX (0 : Int32) dX11_unit_6 ic_0 ?_
  refine J_aload_n hX dX11_unit_7 rfl 0 rfl ?_
  refine J_getR hX dX11_unit_8 fl_RX11_71 (ltn ltc_78 hn) lo_78 rfl (rt_78_32 _ _ _ _ _) ?_
  refine J_iconst hX (0 : Int32) dX11_unit_11 ic_0 ?_
  refine J_iaload0 hX dX11_unit_12 (ltn ltc_99 hn) lay_99 (by decide) ?_
  refine J_iconst hX (1 : Int32) dX11_unit_13 ic_1 ?_
  refine J_isub hX dX11_unit_14 ?_
  obtain ⟨r3, m2, h0, h⟩ := bd2_some h
  refine J_callSi (As := [.int x1, .int (0 : Int32), .int ((gI m1 99 (ix (0 : Int32))) - (1 : Int32))]) (st := []) hX dX11_unit_15 cw_RX11_239 (by omega) (c_X11_within hn  h0) rfl rfl (Nat.le_of_ble_eq_true rfl) ?_
  clear h0
  refine J_if_eq hX 46 dX11_unit_18 (by decide) h (fun c h => ?_) (fun c h => ?_)
  · refine J_bipush hX (-2 : Int32) dX11_unit_46 (by decide) ?_
    exact J_ireturn hX dX11_unit_48 h hF rfl
  · refine J_iload_n hX dX11_unit_21 rfl 2 rfl ?_
    refine J_iconst hX (0 : Int32) dX11_unit_22 ic_0 ?_
    refine J_aload_n hX dX11_unit_23 rfl 0 rfl ?_
    refine J_getR hX dX11_unit_24 fl_RX11_74 (ltn ltc_78 hn) lo_78 rfl (rt_78_33 _ _ _ _ _) ?_
    refine J_iload_n hX dX11_unit_27 rfl 1 rfl ?_
    refine J_iaload hX dX11_unit_28 (ltn ltc_100 hn) lay_100 h (fun h => ?_)
    refine J_iconst hX (1 : Int32) dX11_unit_29 ic_1 ?_
    refine J_isub hX dX11_unit_30 ?_
    obtain ⟨r5, m4, h0, h⟩ := bd2_some h
    refine J_callSi (As := [.int x2, .int (0 : Int32), .int ((gI m2 100 (ix x1)) - (1 : Int32))]) (st := []) hX dX11_unit_31 cw_RX11_239 (by omega) (c_X11_within hn  h0) rfl rfl (Nat.le_of_ble_eq_true rfl) ?_
    clear h0
    refine J_if_eq hX 46 dX11_unit_34 (by decide) h (fun c h => ?_) (fun c h => ?_)
    · refine J_bipush hX (-2 : Int32) dX11_unit_46 (by decide) ?_
      exact J_ireturn hX dX11_unit_48 h hF rfl
    · refine J_iload_n hX dX11_unit_37 rfl 3 rfl ?_
      refine J_iconst hX (0 : Int32) dX11_unit_38 ic_0 ?_
      refine J_iconst hX (4 : Int32) dX11_unit_39 ic_4 ?_
      obtain ⟨r7, m6, h0, h⟩ := bd2_some h
      refine J_callSi (As := [.int x3, .int (0 : Int32), .int (4 : Int32)]) (st := []) hX dX11_unit_40 cw_RX11_239 (by omega) (c_X11_within hn  h0) rfl rfl (Nat.le_of_ble_eq_true rfl) ?_
      clear h0
      refine J_if_ne hX 49 dX11_unit_43 (by decide) h (fun c h => ?_) (fun c h => ?_)
      · refine J_bipush hX (-2 : Int32) dX11_unit_46 (by decide) ?_
        exact J_ireturn hX dX11_unit_48 h hF rfl
      · refine J_iconst hX (5 : Int32) dX11_unit_49 ic_5 ?_
        refine J_iload_n hX dX11_unit_50 rfl 1 rfl ?_
        refine J_imul hX dX11_unit_51 ?_
        refine J_iload_n hX dX11_unit_52 rfl 2 rfl ?_
        refine J_iadd hX dX11_unit_53 ?_
        refine J_istore hX [(4, .int (((5 : Int32) * x1) + x2)), (0, .ref 78), (1, .int x1), (2, .int x2), (3, .int x3)] dX11_unit_54 (by decide) rfl ?_
        refine J_iload_n hX dX11_unit_56 rfl 4 rfl ?_
        refine J_iconst hX (3 : Int32) dX11_unit_57 ic_3 ?_
        refine J_icmp_ge hX 101 dX11_unit_58 (by decide) h (fun c h => ?_) (fun c h => ?_)
        · refine J_iload_n hX dX11_unit_61 rfl 4 rfl ?_
          refine J_if_ne hX 75 dX11_unit_62 (by decide) h (fun c h => ?_) (fun c h => ?_)
          · refine J_aload_n hX dX11_unit_65 rfl 1 rfl ?_
            refine J_getR hX dX11_unit_66 fl_RX11_89 (ltn ltc_78 hn) lo_78 rfl (rt_78_38 _ _ _ _ _) ?_
            refine J_iload hX dX11_unit_69 0 rfl ?_
            refine J_iaload hX dX11_unit_71 (ltn ltc_105 hn) lay_105 h (fun h => ?_)
            refine J_goto hX 100 dX11_unit_72 (by decide) ?_
            exact J_ireturn hX dX11_unit_100 h hF rfl
          · refine J_iload_n hX dX11_unit_75 rfl 4 rfl ?_
            refine J_iconst hX (1 : Int32) dX11_unit_76 ic_1 ?_
            refine J_icmp_ne hX 90 dX11_unit_77 (by decide) h (fun c h => ?_) (fun c h => ?_)
            · refine J_aload_n hX dX11_unit_80 rfl 1 rfl ?_
              refine J_getR hX dX11_unit_81 fl_RX11_92 (ltn ltc_78 hn) lo_78 rfl (rt_78_39 _ _ _ _ _) ?_
              refine J_iload hX dX11_unit_84 0 rfl ?_
              refine J_iaload hX dX11_unit_86 (ltn ltc_106 hn) lay_106 h (fun h => ?_)
              refine J_goto hX 100 dX11_unit_87 (by decide) ?_
              exact J_ireturn hX dX11_unit_100 h hF rfl
            · refine J_aload_n hX dX11_unit_90 rfl 1 rfl ?_
              refine J_getR hX dX11_unit_91 fl_RX11_125 (ltn ltc_78 hn) lo_78 rfl (rt_78_50 _ _ _ _ _) ?_
              refine J_bipush hX (14 : Int32) dX11_unit_94 (by decide) ?_
              refine J_iload hX dX11_unit_96 0 rfl ?_
              refine J_iadd hX dX11_unit_98 ?_
              refine J_iaload hX dX11_unit_99 (ltn ltc_117 hn) lay_117 h (fun h => ?_)
              exact J_ireturn hX dX11_unit_100 h hF rfl
        · refine J_iload_n hX dX11_unit_101 rfl 4 rfl ?_
          refine J_iconst hX (4 : Int32) dX11_unit_102 ic_4 ?_
          refine J_icmp_ne hX 114 dX11_unit_103 (by decide) h (fun c h => ?_) (fun c h => ?_)
          · refine J_aload_n hX dX11_unit_106 rfl 1 rfl ?_
            refine J_getR hX dX11_unit_107 fl_RX11_101 (ltn ltc_78 hn) lo_78 rfl (rt_78_42 _ _ _ _ _) ?_
            refine J_iload hX dX11_unit_110 0 rfl ?_
            refine J_iaload hX dX11_unit_112 (ltn ltc_109 hn) lay_109 h (fun h => ?_)
            exact J_ireturn hX dX11_unit_113 h hF rfl
          · refine J_aload_n hX dX11_unit_114 rfl 1 rfl ?_
            refine J_getR hX dX11_unit_115 fl_RX11_125 (ltn ltc_78 hn) lo_78 rfl (rt_78_50 _ _ _ _ _) ?_
            refine J_bipush hX (14 : Int32) dX11_unit_118 (by decide) ?_
            refine J_iload hX dX11_unit_120 0 rfl ?_
            refine J_iadd hX dX11_unit_122 ?_
            refine J_iaload hX dX11_unit_123 (ltn ltc_117 hn) lay_117 h (fun h => ?_)
            refine J_iconst hX (2 : Int32) dX11_unit_124 ic_2 ?_
            refine J_icmp_ne hX 140 dX11_unit_125 (by decide) h (fun c h => ?_) (fun c h => ?_)
            · refine J_aload_n hX dX11_unit_128 rfl 1 rfl ?_
              refine J_iload_n hX dX11_unit_129 rfl 2 rfl ?_
              obtain ⟨r11, m10, h0, h⟩ := bd2_some h
              refine J_callVi (As := [.int x1]) (st := []) hX dX11_unit_130 cw_RX11_361 (by omega) (c_X11_isDead hn  h0) (ltn ltc_78 hn) lo_78 (by decide) rfl rfl rfl (Nat.le_of_ble_eq_true rfl) ?_
              clear h0
              refine J_if_eq hX 140 dX11_unit_133 (by decide) h (fun c h => ?_) (fun c h => ?_)
              · refine J_aload_n hX dX11_unit_140 rfl 1 rfl ?_
                refine J_iload_n hX dX11_unit_141 rfl 2 rfl ?_
                refine J_iload_n hX dX11_unit_142 rfl 3 rfl ?_
                obtain ⟨r13, m12, h0, h⟩ := bd2_some h
                refine J_callVi (As := [.int x1, .int x2]) (st := []) hX dX11_unit_143 cw_RX11_379 (by omega) (c_X11_byteOf hn  h0) (ltn ltc_78 hn) lo_78 (by decide) rfl rfl rfl (Nat.le_of_ble_eq_true rfl) ?_
                clear h0
                exact J_ireturn hX dX11_unit_146 h hF rfl
              · refine J_iconst hX (-1 : Int32) dX11_unit_136 ic_m1 ?_
                refine J_goto hX 146 dX11_unit_137 (by decide) ?_
                exact J_ireturn hX dX11_unit_146 h hF rfl
            · refine J_aload_n hX dX11_unit_140 rfl 1 rfl ?_
              refine J_iload_n hX dX11_unit_141 rfl 2 rfl ?_
              refine J_iload_n hX dX11_unit_142 rfl 3 rfl ?_
              obtain ⟨r9, m8, h0, h⟩ := bd2_some h
              refine J_callVi (As := [.int x1, .int x2]) (st := []) hX dX11_unit_143 cw_RX11_379 (by omega) (c_X11_byteOf hn  h0) (ltn ltc_78 hn) lo_78 (by decide) rfl rfl rfl (Nat.le_of_ble_eq_true rfl) ?_
              clear h0
              exact J_ireturn hX dX11_unit_146 h hF rfl
theorem c_X11_unit {G : GG} {l : Launch} {ρ : Nat → Nat} {n t u w v : Nat} {x : Option Nat} (hn : 126 ≤ n) {x1 : Int32} {x2 : Int32} {x3 : Int32} {m : Mm} {rE : Int32} {mE : Mm} (h : f_X11_unit x1 x2 x3 m = some (rE, mE)) : CT G l yX11_unit cX11_unit 5 (some .int) 2 0 0 ρ n (RT t u w v x) [.ref 78, .int x1, .int x2, .int x3] m (some (.int rE)) (RT t u w v x) mE := ct_of_J (by decide) rfl (Nat.le_of_ble_eq_true rfl) (fun X hX e1 e2 e3 e4 hQ hr hl => t_X11_unit hX (Nat.le_refl _) hn ⟨by rw [hQ, e3, e4], hr, hl⟩ h)
theorem t_X6_placeNow {X : XX} {G : GG} {ρ : Nat → Nat} {n t u w v : Nat} {x : Option Nat} {d : Nat} {a : Nat} (hX : Ok X G ρ cX6_placeNow 2 RX6 d) (hd0 : 0 ≤ d) (hn : 126 ≤ n) (ha : isSt a) {rE : Int32} {mE : Mm} (hF : Fin' X G ρ n (some .int) (some (.int rE)) (RT t u w v x) mE) {x1 : Int32} {m : Mm} (h : f_X6_placeNow a x1 m = some (rE, mE)) : J X G ρ n 2 0 [(0, .ref a), (1, .int x1)] [] (RT t u w v x) m := by
  unfold f_X6_placeNow at h
  refine J_aload_n hX dX6_placeNow_0 rfl 0 rfl ?_
  refine J_getR hX dX6_placeNow_1 fl_RX6_9 (ltn (lt_isSt_0 ha) hn) (lo_isSt_0 ha) rfl (rt_isSt_0_2 _ _ _ _ _ ha) ?_
  refine J_iload_n hX dX6_placeNow_4 rfl 1 rfl ?_
  refine J_iaload hX dX6_placeNow_5 (ltn (lt_isSt_1 ha) hn) (lay_isSt_1 ha) h (fun h => ?_)
  refine J_iconst hX (2 : Int32) dX6_placeNow_6 ic_2 ?_
  refine J_icmp_ne hX 12 dX6_placeNow_7 (by decide) h (fun c h => ?_) (fun c h => ?_)
  · refine J_iconst hX (-1 : Int32) dX6_placeNow_10 ic_m1 ?_
    exact J_ireturn hX dX6_placeNow_11 h hF rfl
  · refine J_aload_n hX dX6_placeNow_12 rfl 0 rfl ?_
    refine J_getR hX dX6_placeNow_13 fl_RX6_9 (ltn (lt_isSt_0 ha) hn) (lo_isSt_0 ha) rfl (rt_isSt_0_2 _ _ _ _ _ ha) ?_
    refine J_iload_n hX dX6_placeNow_16 rfl 1 rfl ?_
    refine J_iaload hX dX6_placeNow_17 (ltn (lt_isSt_1 ha) hn) (lay_isSt_1 ha) h (fun h => ?_)
    refine J_if_ne hX 33 dX6_placeNow_18 (by decide) h (fun c h => ?_) (fun c h => ?_)
    · refine J_aload_n hX dX6_placeNow_21 rfl 0 rfl ?_
      refine J_getR hX dX6_placeNow_22 fl_RX6_24 (ltn (lt_isSt_0 ha) hn) (lo_isSt_0 ha) rfl (rt_isSt_0_0 _ _ _ _ _ ha) ?_
      refine J_getR hX dX6_placeNow_25 fl_RX6_55 (ltn ltc_26 hn) lo_26 rfl (rt_26_10 _ _ _ _ _) ?_
      refine J_iload_n hX dX6_placeNow_28 rfl 1 rfl ?_
      refine J_iaload hX dX6_placeNow_29 (ltn ltc_34 hn) lay_34 h (fun h => ?_)
      refine J_goto hX 44 dX6_placeNow_30 (by decide) ?_
      exact J_ireturn hX dX6_placeNow_44 h hF rfl
    · refine J_aload_n hX dX6_placeNow_33 rfl 0 rfl ?_
      refine J_getR hX dX6_placeNow_34 fl_RX6_24 (ltn (lt_isSt_0 ha) hn) (lo_isSt_0 ha) rfl (rt_isSt_0_0 _ _ _ _ _ ha) ?_
      refine J_getR hX dX6_placeNow_37 fl_RX6_58 (ltn ltc_26 hn) lo_26 rfl (rt_26_7 _ _ _ _ _) ?_
      refine J_iload_n hX dX6_placeNow_40 rfl 1 rfl ?_
      refine J_iconst hX (5 : Int32) dX6_placeNow_41 ic_5 ?_
      refine J_idiv0 hX dX6_placeNow_42 (by decide) ?_
      refine J_iaload hX dX6_placeNow_43 (ltn ltc_31 hn) lay_31 h (fun h => ?_)
      exact J_ireturn hX dX6_placeNow_44 h hF rfl
theorem c_X6_placeNow {G : GG} {l : Launch} {ρ : Nat → Nat} {n t u w v : Nat} {x : Option Nat} (hn : 126 ≤ n) {a : Nat} (ha : isSt a) {x1 : Int32} {m : Mm} {rE : Int32} {mE : Mm} (h : f_X6_placeNow a x1 m = some (rE, mE)) : CT G l yX6_placeNow cX6_placeNow 2 (some .int) 0 0 0 ρ n (RT t u w v x) [.ref a, .int x1] m (some (.int rE)) (RT t u w v x) mE := ct_of_J (by decide) rfl (Nat.le_of_ble_eq_true rfl) (fun X hX e1 e2 e3 e4 hQ hr hl => t_X6_placeNow hX (Nat.le_refl _) hn ha ⟨by rw [hQ, e3, e4], hr, hl⟩ h)
theorem t_X10_datum {X : XX} {G : GG} {ρ : Nat → Nat} {n : Nat} {x : Option Nat} {d : Nat} {t : Nat} {u : Nat} {w : Nat} {v : Nat} (hX : Ok X G ρ cX10_datum 4 RX10 d) (hd0 : 1 ≤ d) (hn : 126 ≤ n) (ht : isTo t) (hu : isTo u) (hw : isWk w) (hv : isWk v) {rE : Int32} {mE : Mm} (hF : Fin' X G ρ n (some .int) (some (.int rE)) (RT t u w v x) mE) {x1 : Int32} {x2 : Int32} {m : Mm} (h : f_X10_datum t u w v x1 x2 m = some (rE, mE)) : J X G ρ n 4 0 [(0, .ref 0), (1, .int x1), (2, .int x2)] [] (RT t u w v x) m := by
  unfold f_X10_datum at h
  refine J_aload_n hX dX10_datum_0 rfl 0 rfl ?_
  refine J_iload_n hX dX10_datum_1 rfl 1 rfl ?_
  obtain ⟨r2, m1, h0, h⟩ := bd2_some h
  refine J_callVi (As := [.int x1]) (st := []) hX dX10_datum_2 cw_RX10_158 (by omega) (c_X10_isDatum hn ht hu hw hv h0) (ltn ltc_0 hn) lo_0 (by decide) rfl rfl rfl (Nat.le_of_ble_eq_true rfl) ?_
  clear h0
  refine J_if_ne hX 11 dX10_datum_5 (by decide) h (fun c h => ?_) (fun c h => ?_)
  · refine J_bipush hX (-2 : Int32) dX10_datum_8 (by decide) ?_
    exact J_ireturn hX dX10_datum_10 h hF rfl
  · refine J_aload_n hX dX10_datum_11 rfl 0 rfl ?_
    refine J_getR hX dX10_datum_12 fl_RX10_50 (ltn ltc_0 hn) lo_0 rfl (rt_0_6 _ _ _ _ _) ?_
    refine J_getR hX dX10_datum_15 fl_RX10_161 (ltn ltc_26 hn) lo_26 rfl (rt_26_12 _ _ _ _ _) ?_
    refine J_iload_n hX dX10_datum_18 rfl 1 rfl ?_
    refine J_iaload hX dX10_datum_19 (ltn ltc_36 hn) lay_36 h (fun h => ?_)
    refine J_istore_n hX [(3, .int (gI m1 36 (ix x1))), (0, .ref 0), (1, .int x1), (2, .int x2)] dX10_datum_20 rfl (by decide) rfl ?_
    refine J_iload_n hX dX10_datum_21 rfl 3 rfl ?_
    refine J_split h (fun c0 h => ?_) (fun c0 h => ?_)
    · refine J_tabIn hX 52 (0 : Int32) dX10_datum_22 c0 (by decide) (by decide) (by decide) (by decide) ?_
      refine J_iload_n hX dX10_datum_52 rfl 0 rfl ?_
      refine J_iconst hX (5 : Int32) dX10_datum_53 ic_5 ?_
      refine J_idiv0 hX dX10_datum_54 (by decide) ?_
      exact J_ireturn hX dX10_datum_55 h hF rfl
    · refine J_split h (fun c1 h => ?_) (fun c1 h => ?_)
      · refine J_tabIn hX 56 (1 : Int32) dX10_datum_22 c1 (by decide) (by decide) (by decide) (by decide) ?_
        refine J_iload_n hX dX10_datum_56 rfl 0 rfl ?_
        refine J_iconst hX (5 : Int32) dX10_datum_57 ic_5 ?_
        refine J_irem0 hX dX10_datum_58 (by decide) ?_
        exact J_ireturn hX dX10_datum_59 h hF rfl
      · refine J_split h (fun c2 h => ?_) (fun c2 h => ?_)
        · refine J_tabIn hX 60 (2 : Int32) dX10_datum_22 c2 (by decide) (by decide) (by decide) (by decide) ?_
          refine J_aload_n hX dX10_datum_60 rfl 1 rfl ?_
          refine J_getR hX dX10_datum_61 fl_RX10_62 (ltn ltc_0 hn) lo_0 rfl (rt_0_8 _ _ _ _ _) ?_
          refine J_iload_n hX dX10_datum_64 rfl 0 rfl ?_
          obtain ⟨r4, m3, h0, h⟩ := bd2_some h
          refine J_callVi (As := [.int (gI m1 36 (ix x1))]) (st := []) hX dX10_datum_65 cw_RX10_164 (by omega) (c_X6_diskNow hn p_isSt_54 h0) (ltn ltc_54 hn) lo_54 (by decide) rfl rfl rfl (Nat.le_of_ble_eq_true rfl) ?_
          clear h0
          exact J_ireturn hX dX10_datum_68 h hF rfl
        · refine J_split h (fun c3 h => ?_) (fun c3 h => ?_)
          · refine J_tabIn hX 69 (3 : Int32) dX10_datum_22 c3 (by decide) (by decide) (by decide) (by decide) ?_
            refine J_aload_n hX dX10_datum_69 rfl 1 rfl ?_
            refine J_getR hX dX10_datum_70 fl_RX10_62 (ltn ltc_0 hn) lo_0 rfl (rt_0_8 _ _ _ _ _) ?_
            refine J_iload_n hX dX10_datum_73 rfl 0 rfl ?_
            obtain ⟨r6, m5, h0, h⟩ := bd2_some h
            refine J_callVi (As := [.int (gI m1 36 (ix x1))]) (st := []) hX dX10_datum_74 cw_RX10_167 (by omega) (c_X6_placeNow hn p_isSt_54 h0) (ltn ltc_54 hn) lo_54 (by decide) rfl rfl rfl (Nat.le_of_ble_eq_true rfl) ?_
            clear h0
            exact J_ireturn hX dX10_datum_77 h hF rfl
          · refine J_tabOut hX 78 [(0 : Int32), (1 : Int32), (2 : Int32), (3 : Int32)] dX10_datum_22 (by decide) (by simp only [List.mem_cons, List.not_mem_nil, or_false, not_or]; exact ⟨c0, c1, c2, c3⟩) (by decide) ?_
            refine J_bipush hX (-2 : Int32) dX10_datum_78 (by decide) ?_
            exact J_ireturn hX dX10_datum_80 h hF rfl
theorem c_X10_datum {G : GG} {l : Launch} {ρ : Nat → Nat} {n : Nat} {x : Option Nat} (hn : 126 ≤ n) {t : Nat} {u : Nat} {w : Nat} {v : Nat} (ht : isTo t) (hu : isTo u) (hw : isWk w) (hv : isWk v) {x1 : Int32} {x2 : Int32} {m : Mm} {rE : Int32} {mE : Mm} (h : f_X10_datum t u w v x1 x2 m = some (rE, mE)) : CT G l yX10_datum cX10_datum 4 (some .int) 1 0 0 ρ n (RT t u w v x) [.ref 0, .int x1, .int x2] m (some (.int rE)) (RT t u w v x) mE := ct_of_J (by decide) rfl (Nat.le_of_ble_eq_true rfl) (fun X hX e1 e2 e3 e4 hQ hr hl => t_X10_datum hX (Nat.le_refl _) hn ht hu hw hv ⟨by rw [hQ, e3, e4], hr, hl⟩ h)
theorem t_X11_datum {X : XX} {G : GG} {ρ : Nat → Nat} {n t u w v : Nat} {x : Option Nat} {d : Nat} (hX : Ok X G ρ cX11_datum 4 RX11 d) (hd0 : 1 ≤ d) (hn : 126 ≤ n) {rE : Int32} {mE : Mm} (hF : Fin' X G ρ n (some .int) (some (.int rE)) (RT t u w v x) mE) {x1 : Int32} {x2 : Int32} {m : Mm} (h : f_X11_datum x1 x2 m = some (rE, mE)) : J X G ρ n 4 0 [(0, .ref 78), (1, .int x1), (2, .int x2)] [] (RT t u w v x) m := by
  unfold f_X11_datum at h
  refine J_aload_n hX dX11_datum_0 rfl 0 rfl ?_
  refine J_iconst hX (0 : Int32) dX11_datum_1 ic_0 ?_
  refine J_putI hX dX11_datum_2 pl_RX11_152 (ltn ltc_78 hn) lo_78 rfl rfl rfl h (fun m1 h => ?_)
  refine J_aload_n hX dX11_datum_5 rfl 0 rfl ?_
  refine J_iload_n hX dX11_datum_6 rfl 1 rfl ?_
  obtain ⟨r3, m2, h0, h⟩ := bd2_some h
  refine J_callVi (As := [.int x1]) (st := []) hX dX11_datum_7 cw_RX11_382 (by omega) (c_X11_isDatum hn  h0) (ltn ltc_78 hn) lo_78 (by decide) rfl rfl rfl (Nat.le_of_ble_eq_true rfl) ?_
  clear h0
  refine J_if_eq hX 22 dX11_datum_10 (by decide) h (fun c h => ?_) (fun c h => ?_)
  · refine J_bipush hX (-2 : Int32) dX11_datum_22 (by decide) ?_
    exact J_ireturn hX dX11_datum_24 h hF rfl
  · refine J_iload_n hX dX11_datum_13 rfl 2 rfl ?_
    refine J_iconst hX (0 : Int32) dX11_datum_14 ic_0 ?_
    refine J_iconst hX (3 : Int32) dX11_datum_15 ic_3 ?_
    obtain ⟨r5, m4, h0, h⟩ := bd2_some h
    refine J_callSi (As := [.int x2, .int (0 : Int32), .int (3 : Int32)]) (st := []) hX dX11_datum_16 cw_RX11_239 (by omega) (c_X11_within hn  h0) rfl rfl (Nat.le_of_ble_eq_true rfl) ?_
    clear h0
    refine J_if_ne hX 25 dX11_datum_19 (by decide) h (fun c h => ?_) (fun c h => ?_)
    · refine J_bipush hX (-2 : Int32) dX11_datum_22 (by decide) ?_
      exact J_ireturn hX dX11_datum_24 h hF rfl
    · refine J_aload_n hX dX11_datum_25 rfl 0 rfl ?_
      refine J_getR hX dX11_datum_26 fl_RX11_95 (ltn ltc_78 hn) lo_78 rfl (rt_78_40 _ _ _ _ _) ?_
      refine J_iload_n hX dX11_datum_29 rfl 1 rfl ?_
      refine J_iaload hX dX11_datum_30 (ltn ltc_107 hn) lay_107 h (fun h => ?_)
      refine J_istore_n hX [(3, .int (gI m4 107 (ix x1))), (0, .ref 78), (1, .int x1), (2, .int x2)] dX11_datum_31 rfl (by decide) rfl ?_
      refine J_iload_n hX dX11_datum_32 rfl 3 rfl ?_
      refine J_iconst hX (2 : Int32) dX11_datum_33 ic_2 ?_
      refine J_icmp_ge hX 51 dX11_datum_34 (by decide) h (fun c h => ?_) (fun c h => ?_)
      · refine J_iload_n hX dX11_datum_37 rfl 3 rfl ?_
        refine J_if_ne hX 47 dX11_datum_38 (by decide) h (fun c h => ?_) (fun c h => ?_)
        · refine J_iload_n hX dX11_datum_41 rfl 0 rfl ?_
          refine J_iconst hX (5 : Int32) dX11_datum_42 ic_5 ?_
          refine J_idiv0 hX dX11_datum_43 (by decide) ?_
          refine J_goto hX 50 dX11_datum_44 (by decide) ?_
          exact J_ireturn hX dX11_datum_50 h hF rfl
        · refine J_iload_n hX dX11_datum_47 rfl 0 rfl ?_
          refine J_iconst hX (5 : Int32) dX11_datum_48 ic_5 ?_
          refine J_irem0 hX dX11_datum_49 (by decide) ?_
          exact J_ireturn hX dX11_datum_50 h hF rfl
      · refine J_iload_n hX dX11_datum_51 rfl 3 rfl ?_
        refine J_iconst hX (2 : Int32) dX11_datum_52 ic_2 ?_
        refine J_icmp_eq hX 69 dX11_datum_53 (by decide) h (fun c h => ?_) (fun c h => ?_)
        · refine J_aload_n hX dX11_datum_69 rfl 1 rfl ?_
          refine J_iload_n hX dX11_datum_70 rfl 0 rfl ?_
          obtain ⟨r7, m6, h0, h⟩ := bd2_some h
          refine J_callVi (As := [.int (gI m4 107 (ix x1))]) (st := []) hX dX11_datum_71 cw_RX11_358 (by omega) (c_X11_diskNow hn  h0) (ltn ltc_78 hn) lo_78 (by decide) rfl rfl rfl (Nat.le_of_ble_eq_true rfl) ?_
          clear h0
          exact J_ireturn hX dX11_datum_74 h hF rfl
        · refine J_aload_n hX dX11_datum_56 rfl 1 rfl ?_
          refine J_getR hX dX11_datum_57 fl_RX11_125 (ltn ltc_78 hn) lo_78 rfl (rt_78_50 _ _ _ _ _) ?_
          refine J_bipush hX (14 : Int32) dX11_datum_60 (by decide) ?_
          refine J_iload_n hX dX11_datum_62 rfl 0 rfl ?_
          refine J_iadd hX dX11_datum_63 ?_
          refine J_iaload hX dX11_datum_64 (ltn ltc_117 hn) lay_117 h (fun h => ?_)
          refine J_iconst hX (2 : Int32) dX11_datum_65 ic_2 ?_
          refine J_icmp_ne hX 75 dX11_datum_66 (by decide) h (fun c h => ?_) (fun c h => ?_)
          · refine J_aload_n hX dX11_datum_69 rfl 1 rfl ?_
            refine J_iload_n hX dX11_datum_70 rfl 0 rfl ?_
            obtain ⟨r9, m8, h0, h⟩ := bd2_some h
            refine J_callVi (As := [.int (gI m4 107 (ix x1))]) (st := []) hX dX11_datum_71 cw_RX11_358 (by omega) (c_X11_diskNow hn  h0) (ltn ltc_78 hn) lo_78 (by decide) rfl rfl rfl (Nat.le_of_ble_eq_true rfl) ?_
            clear h0
            exact J_ireturn hX dX11_datum_74 h hF rfl
          · refine J_aload_n hX dX11_datum_75 rfl 1 rfl ?_
            refine J_getR hX dX11_datum_76 fl_RX11_125 (ltn ltc_78 hn) lo_78 rfl (rt_78_50 _ _ _ _ _) ?_
            refine J_bipush hX (14 : Int32) dX11_datum_79 (by decide) ?_
            refine J_iload_n hX dX11_datum_81 rfl 0 rfl ?_
            refine J_iadd hX dX11_datum_82 ?_
            refine J_iaload hX dX11_datum_83 (ltn ltc_117 hn) lay_117 h (fun h => ?_)
            refine J_iconst hX (1 : Int32) dX11_datum_84 ic_1 ?_
            refine J_icmp_ne hX 99 dX11_datum_85 (by decide) h (fun c h => ?_) (fun c h => ?_)
            · refine J_aload_n hX dX11_datum_88 rfl 1 rfl ?_
              refine J_getR hX dX11_datum_89 fl_RX11_86 (ltn ltc_78 hn) lo_78 rfl (rt_78_37 _ _ _ _ _) ?_
              refine J_iload_n hX dX11_datum_92 rfl 0 rfl ?_
              refine J_iconst hX (5 : Int32) dX11_datum_93 ic_5 ?_
              refine J_idiv0 hX dX11_datum_94 (by decide) ?_
              refine J_iaload hX dX11_datum_95 (ltn ltc_104 hn) lay_104 h (fun h => ?_)
              refine J_goto hX 105 dX11_datum_96 (by decide) ?_
              exact J_ireturn hX dX11_datum_105 h hF rfl
            · refine J_aload_n hX dX11_datum_99 rfl 1 rfl ?_
              refine J_getR hX dX11_datum_100 fl_RX11_92 (ltn ltc_78 hn) lo_78 rfl (rt_78_39 _ _ _ _ _) ?_
              refine J_iload_n hX dX11_datum_103 rfl 0 rfl ?_
              refine J_iaload hX dX11_datum_104 (ltn ltc_106 hn) lay_106 h (fun h => ?_)
              exact J_ireturn hX dX11_datum_105 h hF rfl
theorem c_X11_datum {G : GG} {l : Launch} {ρ : Nat → Nat} {n t u w v : Nat} {x : Option Nat} (hn : 126 ≤ n) {x1 : Int32} {x2 : Int32} {m : Mm} {rE : Int32} {mE : Mm} (h : f_X11_datum x1 x2 m = some (rE, mE)) : CT G l yX11_datum cX11_datum 4 (some .int) 1 0 0 ρ n (RT t u w v x) [.ref 78, .int x1, .int x2] m (some (.int rE)) (RT t u w v x) mE := ct_of_J (by decide) rfl (Nat.le_of_ble_eq_true rfl) (fun X hX e1 e2 e3 e4 hQ hr hl => t_X11_datum hX (Nat.le_refl _) hn ⟨by rw [hQ, e3, e4], hr, hl⟩ h)
theorem t_X4_heldAt_L41 {X : XX} {G : GG} {ρ : Nat → Nat} {n t u w v : Nat} {x : Option Nat} {d : Nat} {a : Nat} (hX : Ok X G ρ cX4_heldAt 6 RX4 d) (hd0 : 0 ≤ d) (hn : 126 ≤ n) (ha : isLa a) {rE : Int32} {mE : Mm} (hF : Fin' X G ρ n (some .int) (some (.int rE)) (RT t u w v x) mE) {v1 : Int32} {v2 : Int32} {v3 : Int32} {K : Mm → Option (Int32 × Mm)} (hK : ∀ (m : Mm), K m = some (rE, mE) → J X G ρ n 6 96 [(0, .ref a), (1, .int v1), (2, .int v2), (3, .int v3)] [] (RT t u w v x) m) : ∀ (k : Nat) (v4 : Int32) (m : Mm), f_X4_heldAt_L41 a v1 v2 v3 K k v4 m = some (rE, mE) → J X G ρ n 6 41 [(0, .ref a), (1, .int v1), (2, .int v2), (3, .int v3), (4, .int v4)] [] (RT t u w v x) m := by
  intro k
  induction k with
  | zero => intro _ _ h; rw [f_X4_heldAt_L41] at h; cases h
  | succ k ih =>
    intro v4 m h
    rw [f_X4_heldAt_L41] at h
    refine J_iload hX dX4_heldAt_41 4 rfl ?_
    refine J_aload_n hX dX4_heldAt_43 rfl 0 rfl ?_
    refine J_getR hX dX4_heldAt_44 fl_RX4_9 (ltn (lt_isLa_0 ha) hn) (lo_isLa_0 ha) rfl (rt_isLa_0_3 _ _ _ _ _ ha) ?_
    refine J_iload_n hX dX4_heldAt_47 rfl 3 rfl ?_
    refine J_iaload hX dX4_heldAt_48 (ltn (lt_isLa_1 ha) hn) (lay_isLa_1 ha) h (fun h => ?_)
    refine J_icmp_ge hX 96 dX4_heldAt_49 (by decide) h (fun c h => ?_) (fun c h => ?_)
    · refine J_iload_n hX dX4_heldAt_52 rfl 3 rfl ?_
      refine J_iconst hX (5 : Int32) dX4_heldAt_53 ic_5 ?_
      refine J_imul hX dX4_heldAt_54 ?_
      refine J_iload hX dX4_heldAt_55 4 rfl ?_
      refine J_iadd hX dX4_heldAt_57 ?_
      refine J_istore hX [(5, .int ((v3 * (5 : Int32)) + v4)), (0, .ref a), (1, .int v1), (2, .int v2), (3, .int v3), (4, .int v4)] dX4_heldAt_58 (by decide) rfl ?_
      refine J_aload_n hX dX4_heldAt_60 rfl 1 rfl ?_
      refine J_getR hX dX4_heldAt_61 fl_RX4_30 (ltn (lt_isLa_0 ha) hn) (lo_isLa_0 ha) rfl (rt_isLa_0_9 _ _ _ _ _ ha) ?_
      refine J_iload hX dX4_heldAt_64 0 rfl ?_
      refine J_iaload hX dX4_heldAt_66 (ltn (lt_isLa_7 ha) hn) (lay_isLa_7 ha) h (fun h => ?_)
      refine J_iload_n hX dX4_heldAt_67 rfl 2 rfl ?_
      refine J_icmp_ne hX 90 dX4_heldAt_68 (by decide) h (fun c h => ?_) (fun c h => ?_)
      · refine J_aload_n hX dX4_heldAt_71 rfl 1 rfl ?_
        refine J_getR hX dX4_heldAt_72 fl_RX4_33 (ltn (lt_isLa_0 ha) hn) (lo_isLa_0 ha) rfl (rt_isLa_0_10 _ _ _ _ _ ha) ?_
        refine J_iload hX dX4_heldAt_75 0 rfl ?_
        refine J_iaload hX dX4_heldAt_77 (ltn (lt_isLa_8 ha) hn) (lay_isLa_8 ha) h (fun h => ?_)
        refine J_iload_n hX dX4_heldAt_78 rfl 3 rfl ?_
        refine J_icmp_ne hX 90 dX4_heldAt_79 (by decide) h (fun c h => ?_) (fun c h => ?_)
        · refine J_iload_n hX dX4_heldAt_82 rfl 4 rfl ?_
          refine J_bipush hX (8 : Int32) dX4_heldAt_83 (by decide) ?_
          refine J_imul hX dX4_heldAt_85 ?_
          refine J_iload hX dX4_heldAt_86 5 rfl ?_
          refine J_iadd hX dX4_heldAt_88 ?_
          exact J_ireturn hX dX4_heldAt_89 h hF rfl
        · refine J_iinc hX (v4 + (1 : Int32)) [(4, .int (v4 + (1 : Int32))), (5, .int ((v3 * (5 : Int32)) + v4)), (0, .ref a), (1, .int v1), (2, .int v2), (3, .int v3)] dX4_heldAt_90 5 rfl (congrArg (fun z => v4 + z) ic_1) (by decide) rfl ?_
          refine J_goto hX 41 dX4_heldAt_93 (by decide) ?_
          refine J_sub [(0, .ref a), (1, .int v1), (2, .int v2), (3, .int v3), (4, .int (v4 + (1 : Int32)))] [2, 3, 4, 5, 0] rfl ?_
          exact ih (v4 + (1 : Int32)) m h
      · refine J_iinc hX (v4 + (1 : Int32)) [(4, .int (v4 + (1 : Int32))), (5, .int ((v3 * (5 : Int32)) + v4)), (0, .ref a), (1, .int v1), (2, .int v2), (3, .int v3)] dX4_heldAt_90 5 rfl (congrArg (fun z => v4 + z) ic_1) (by decide) rfl ?_
        refine J_goto hX 41 dX4_heldAt_93 (by decide) ?_
        refine J_sub [(0, .ref a), (1, .int v1), (2, .int v2), (3, .int v3), (4, .int (v4 + (1 : Int32)))] [2, 3, 4, 5, 0] rfl ?_
        exact ih (v4 + (1 : Int32)) m h
    · refine J_sub [(0, .ref a), (1, .int v1), (2, .int v2), (3, .int v3)] [0, 1, 2, 3] rfl ?_
      exact hK  m h
theorem t_X4_heldAt_J38 {X : XX} {G : GG} {ρ : Nat → Nat} {n t u w v : Nat} {x : Option Nat} {d : Nat} {a : Nat} (hX : Ok X G ρ cX4_heldAt 6 RX4 d) (hd0 : 0 ≤ d) (hn : 126 ≤ n) (ha : isLa a) {rE : Int32} {mE : Mm} (hF : Fin' X G ρ n (some .int) (some (.int rE)) (RT t u w v x) mE) {K2 : Int32 → Int32 → Int32 → Mm → Option (Int32 × Mm)} (v1 : Int32) (v2 : Int32) (v3 : Int32) (hK2 : ∀ (w1 : Int32) (w2 : Int32) (w3 : Int32) (m : Mm), K2 w1 w2 w3 m = some (rE, mE) → J X G ρ n 6 2 [(0, .ref a), (1, .int w1), (2, .int w2), (3, .int w3)] [] (RT t u w v x) m) (m : Mm) (h : f_X4_heldAt_J38 a K2 v1 v2 v3 m = some (rE, mE)) : J X G ρ n 6 38 [(0, .ref a), (1, .int v1), (2, .int v2), (3, .int v3)] [] (RT t u w v x) m := by
  unfold f_X4_heldAt_J38 at h
  refine J_iconst hX (0 : Int32) dX4_heldAt_38 ic_0 ?_
  refine J_istore hX [(4, .int (0 : Int32)), (0, .ref a), (1, .int v1), (2, .int v2), (3, .int v3)] dX4_heldAt_39 (by decide) rfl ?_
  refine J_sub [(0, .ref a), (1, .int v1), (2, .int v2), (3, .int v3), (4, .int (0 : Int32))] [1, 2, 3, 4, 0] rfl ?_
  refine t_X4_heldAt_L41 hX hd0 hn ha hF (fun m1 h => ?_) FU (0 : Int32) m h
  refine J_iinc hX (v3 + (1 : Int32)) [(3, .int (v3 + (1 : Int32))), (0, .ref a), (1, .int v1), (2, .int v2)] dX4_heldAt_96 3 rfl (congrArg (fun z => v3 + z) ic_1) (by decide) rfl ?_
  refine J_goto hX 2 dX4_heldAt_99 (by decide) ?_
  refine J_sub [(0, .ref a), (1, .int v1), (2, .int v2), (3, .int (v3 + (1 : Int32)))] [1, 2, 3, 0] rfl ?_
  exact hK2 v1 v2 (v3 + (1 : Int32)) m1 h
theorem t_X4_heldAt_L2 {X : XX} {G : GG} {ρ : Nat → Nat} {n t u w v : Nat} {x : Option Nat} {d : Nat} {a : Nat} (hX : Ok X G ρ cX4_heldAt 6 RX4 d) (hd0 : 0 ≤ d) (hn : 126 ≤ n) (ha : isLa a) {rE : Int32} {mE : Mm} (hF : Fin' X G ρ n (some .int) (some (.int rE)) (RT t u w v x) mE) : ∀ (k : Nat) (v1 : Int32) (v2 : Int32) (v3 : Int32) (m : Mm), f_X4_heldAt_L2 a k v1 v2 v3 m = some (rE, mE) → J X G ρ n 6 2 [(0, .ref a), (1, .int v1), (2, .int v2), (3, .int v3)] [] (RT t u w v x) m := by
  intro k
  induction k with
  | zero => intro _ _ _ _ h; rw [f_X4_heldAt_L2] at h; cases h
  | succ k ih =>
    intro v1 v2 v3 m h
    rw [f_X4_heldAt_L2] at h
    refine J_iload_n hX dX4_heldAt_2 rfl 3 rfl ?_
    refine J_aload_n hX dX4_heldAt_3 rfl 0 rfl ?_
    refine J_getI hX dX4_heldAt_4 fl_RX4_72 (ltn (lt_isLa_0 ha) hn) (lo_isLa_0 ha) rfl ?_
    refine J_icmp_ge hX 102 dX4_heldAt_7 (by decide) h (fun c h => ?_) (fun c h => ?_)
    · refine J_aload_n hX dX4_heldAt_10 rfl 0 rfl ?_
      refine J_getR hX dX4_heldAt_11 fl_RX4_21 (ltn (lt_isLa_0 ha) hn) (lo_isLa_0 ha) rfl (rt_isLa_0_6 _ _ _ _ _ ha) ?_
      refine J_iload_n hX dX4_heldAt_14 rfl 3 rfl ?_
      refine J_iaload hX dX4_heldAt_15 (ltn (lt_isLa_4 ha) hn) (lay_isLa_4 ha) h (fun h => ?_)
      refine J_iload_n hX dX4_heldAt_16 rfl 1 rfl ?_
      refine J_icmp_ne hX 38 dX4_heldAt_17 (by decide) h (fun c h => ?_) (fun c h => ?_)
      · refine J_aload_n hX dX4_heldAt_20 rfl 0 rfl ?_
        refine J_getR hX dX4_heldAt_21 fl_RX4_24 (ltn (lt_isLa_0 ha) hn) (lo_isLa_0 ha) rfl (rt_isLa_0_7 _ _ _ _ _ ha) ?_
        refine J_iload_n hX dX4_heldAt_24 rfl 3 rfl ?_
        refine J_iaload hX dX4_heldAt_25 (ltn (lt_isLa_5 ha) hn) (lay_isLa_5 ha) h (fun h => ?_)
        refine J_iload_n hX dX4_heldAt_26 rfl 2 rfl ?_
        refine J_icmp_ne hX 38 dX4_heldAt_27 (by decide) h (fun c h => ?_) (fun c h => ?_)
        · refine J_iload_n hX dX4_heldAt_30 rfl 3 rfl ?_
          refine J_bipush hX (8 : Int32) dX4_heldAt_31 (by decide) ?_
          refine J_imul hX dX4_heldAt_33 ?_
          refine J_bipush hX (7 : Int32) dX4_heldAt_34 (by decide) ?_
          refine J_iadd hX dX4_heldAt_36 ?_
          exact J_ireturn hX dX4_heldAt_37 h hF rfl
        · exact t_X4_heldAt_J38 hX hd0 hn ha hF v1 v2 v3 (fun w1 w2 w3 m h => ih w1 w2 w3 m h) m h
      · exact t_X4_heldAt_J38 hX hd0 hn ha hF v1 v2 v3 (fun w1 w2 w3 m h => ih w1 w2 w3 m h) m h
    · refine J_iconst hX (-1 : Int32) dX4_heldAt_102 ic_m1 ?_
      exact J_ireturn hX dX4_heldAt_103 h hF rfl
theorem t_X4_heldAt {X : XX} {G : GG} {ρ : Nat → Nat} {n t u w v : Nat} {x : Option Nat} {d : Nat} {a : Nat} (hX : Ok X G ρ cX4_heldAt 6 RX4 d) (hd0 : 0 ≤ d) (hn : 126 ≤ n) (ha : isLa a) {rE : Int32} {mE : Mm} (hF : Fin' X G ρ n (some .int) (some (.int rE)) (RT t u w v x) mE) {x1 : Int32} {x2 : Int32} {m : Mm} (h : f_X4_heldAt a x1 x2 m = some (rE, mE)) : J X G ρ n 6 0 [(0, .ref a), (1, .int x1), (2, .int x2)] [] (RT t u w v x) m := by
  unfold f_X4_heldAt at h
  refine J_iconst hX (0 : Int32) dX4_heldAt_0 ic_0 ?_
  refine J_istore_n hX [(3, .int (0 : Int32)), (0, .ref a), (1, .int x1), (2, .int x2)] dX4_heldAt_1 rfl (by decide) rfl ?_
  refine J_sub [(0, .ref a), (1, .int x1), (2, .int x2), (3, .int (0 : Int32))] [1, 2, 3, 0] rfl ?_
  exact t_X4_heldAt_L2 hX hd0 hn ha hF FU x1 x2 (0 : Int32)  m h
theorem c_X4_heldAt {G : GG} {l : Launch} {ρ : Nat → Nat} {n t u w v : Nat} {x : Option Nat} (hn : 126 ≤ n) {a : Nat} (ha : isLa a) {x1 : Int32} {x2 : Int32} {m : Mm} {rE : Int32} {mE : Mm} (h : f_X4_heldAt a x1 x2 m = some (rE, mE)) : CT G l yX4_heldAt cX4_heldAt 6 (some .int) 0 0 0 ρ n (RT t u w v x) [.ref a, .int x1, .int x2] m (some (.int rE)) (RT t u w v x) mE := ct_of_J (by decide) rfl (Nat.le_of_ble_eq_true rfl) (fun X hX e1 e2 e3 e4 hQ hr hl => t_X4_heldAt hX (Nat.le_refl _) hn ha ⟨by rw [hQ, e3, e4], hr, hl⟩ h)
theorem t_X10_at {X : XX} {G : GG} {ρ : Nat → Nat} {n : Nat} {x : Option Nat} {d : Nat} {t : Nat} {u : Nat} {w : Nat} {v : Nat} (hX : Ok X G ρ cX10_at 3 RX10 d) (hd0 : 1 ≤ d) (hn : 126 ≤ n) (ht : isTo t) (hu : isTo u) (hw : isWk w) (hv : isWk v) {rE : Int32} {mE : Mm} (hF : Fin' X G ρ n (some .int) (some (.int rE)) (RT t u w v x) mE) {x1 : Int32} {x2 : Int32} {m : Mm} (h : f_X10_at t u w v x1 x2 m = some (rE, mE)) : J X G ρ n 3 0 [(0, .ref 0), (1, .int x1), (2, .int x2)] [] (RT t u w v x) m := by
  unfold f_X10_at at h
  refine J_aload_n hX dX10_at_0 rfl 0 rfl ?_
  refine J_iload_n hX dX10_at_1 rfl 1 rfl ?_
  obtain ⟨r2, m1, h0, h⟩ := bd2_some h
  refine J_callVi (As := [.int x1]) (st := []) hX dX10_at_2 cw_RX10_170 (by omega) (c_X10_isDisk hn ht hu hw hv h0) (ltn ltc_0 hn) lo_0 (by decide) rfl rfl rfl (Nat.le_of_ble_eq_true rfl) ?_
  clear h0
  refine J_if_eq hX 20 dX10_at_5 (by decide) h (fun c h => ?_) (fun c h => ?_)
  · refine J_iconst hX (-1 : Int32) dX10_at_20 ic_m1 ?_
    exact J_ireturn hX dX10_at_21 h hF rfl
  · refine J_aload_n hX dX10_at_8 rfl 0 rfl ?_
    refine J_getR hX dX10_at_9 fl_RX10_50 (ltn ltc_0 hn) lo_0 rfl (rt_0_6 _ _ _ _ _) ?_
    refine J_iload_n hX dX10_at_12 rfl 1 rfl ?_
    refine J_iload_n hX dX10_at_13 rfl 2 rfl ?_
    obtain ⟨r4, m3, h0, h⟩ := bd2_some h
    refine J_callVi (As := [.int x1, .int x2]) (st := []) hX dX10_at_14 cw_RX10_173 (by omega) (c_X4_heldAt hn p_isLa_26 h0) (ltn ltc_26 hn) lo_26 (by decide) rfl rfl rfl (Nat.le_of_ble_eq_true rfl) ?_
    clear h0
    refine J_goto hX 21 dX10_at_17 (by decide) ?_
    exact J_ireturn hX dX10_at_21 h hF rfl
theorem c_X10_at {G : GG} {l : Launch} {ρ : Nat → Nat} {n : Nat} {x : Option Nat} (hn : 126 ≤ n) {t : Nat} {u : Nat} {w : Nat} {v : Nat} (ht : isTo t) (hu : isTo u) (hw : isWk w) (hv : isWk v) {x1 : Int32} {x2 : Int32} {m : Mm} {rE : Int32} {mE : Mm} (h : f_X10_at t u w v x1 x2 m = some (rE, mE)) : CT G l yX10_at cX10_at 3 (some .int) 1 0 0 ρ n (RT t u w v x) [.ref 0, .int x1, .int x2] m (some (.int rE)) (RT t u w v x) mE := ct_of_J (by decide) rfl (Nat.le_of_ble_eq_true rfl) (fun X hX e1 e2 e3 e4 hQ hr hl => t_X10_at hX (Nat.le_refl _) hn ht hu hw hv ⟨by rw [hQ, e3, e4], hr, hl⟩ h)
theorem t_X11_at_J67 {X : XX} {G : GG} {ρ : Nat → Nat} {n t u w v : Nat} {x : Option Nat} {d : Nat} (hX : Ok X G ρ cX11_at 5 RX11 d) (hd0 : 1 ≤ d) (hn : 126 ≤ n) {rE : Int32} {mE : Mm} (hF : Fin' X G ρ n (some .int) (some (.int rE)) (RT t u w v x) mE) {K21 : Int32 → Int32 → Int32 → Mm → Option (Int32 × Mm)} (v1 : Int32) (v2 : Int32) (v3 : Int32) (hK21 : ∀ (w1 : Int32) (w2 : Int32) (w3 : Int32) (m : Mm), K21 w1 w2 w3 m = some (rE, mE) → J X G ρ n 5 21 [(0, .ref 78), (1, .int w1), (2, .int w2), (3, .int w3)] [] (RT t u w v x) m) (m : Mm) (h : f_X11_at_J67 K21 v1 v2 v3 m = some (rE, mE)) : J X G ρ n 5 67 [(0, .ref 78), (1, .int v1), (2, .int v2), (3, .int v3)] [] (RT t u w v x) m := by
  unfold f_X11_at_J67 at h
  refine J_aload_n hX dX11_at_67 rfl 0 rfl ?_
  refine J_getR hX dX11_at_68 fl_RX11_83 (ltn ltc_78 hn) lo_78 rfl (rt_78_36 _ _ _ _ _) ?_
  refine J_iload_n hX dX11_at_71 rfl 3 rfl ?_
  refine J_iaload hX dX11_at_72 (ltn ltc_103 hn) lay_103 h (fun h => ?_)
  refine J_iload_n hX dX11_at_73 rfl 1 rfl ?_
  refine J_icmp_ne hX 95 dX11_at_74 (by decide) h (fun c h => ?_) (fun c h => ?_)
  · refine J_aload_n hX dX11_at_77 rfl 0 rfl ?_
    refine J_getR hX dX11_at_78 fl_RX11_86 (ltn ltc_78 hn) lo_78 rfl (rt_78_37 _ _ _ _ _) ?_
    refine J_iload_n hX dX11_at_81 rfl 3 rfl ?_
    refine J_iaload hX dX11_at_82 (ltn ltc_104 hn) lay_104 h (fun h => ?_)
    refine J_iload_n hX dX11_at_83 rfl 2 rfl ?_
    refine J_icmp_ne hX 95 dX11_at_84 (by decide) h (fun c h => ?_) (fun c h => ?_)
    · refine J_bipush hX (8 : Int32) dX11_at_87 (by decide) ?_
      refine J_iload_n hX dX11_at_89 rfl 3 rfl ?_
      refine J_imul hX dX11_at_90 ?_
      refine J_bipush hX (7 : Int32) dX11_at_91 (by decide) ?_
      refine J_iadd hX dX11_at_93 ?_
      exact J_ireturn hX dX11_at_94 h hF rfl
    · refine J_iinc hX (v3 + (1 : Int32)) [(3, .int (v3 + (1 : Int32))), (0, .ref 78), (1, .int v1), (2, .int v2)] dX11_at_95 3 rfl (congrArg (fun z => v3 + z) ic_1) (by decide) rfl ?_
      refine J_goto hX 21 dX11_at_98 (by decide) ?_
      refine J_sub [(0, .ref 78), (1, .int v1), (2, .int v2), (3, .int (v3 + (1 : Int32)))] [1, 2, 3, 0] rfl ?_
      exact hK21 v1 v2 (v3 + (1 : Int32)) m h
  · refine J_iinc hX (v3 + (1 : Int32)) [(3, .int (v3 + (1 : Int32))), (0, .ref 78), (1, .int v1), (2, .int v2)] dX11_at_95 3 rfl (congrArg (fun z => v3 + z) ic_1) (by decide) rfl ?_
    refine J_goto hX 21 dX11_at_98 (by decide) ?_
    refine J_sub [(0, .ref 78), (1, .int v1), (2, .int v2), (3, .int (v3 + (1 : Int32)))] [1, 2, 3, 0] rfl ?_
    exact hK21 v1 v2 (v3 + (1 : Int32)) m h
theorem t_X11_at_L21 {X : XX} {G : GG} {ρ : Nat → Nat} {n t u w v : Nat} {x : Option Nat} {d : Nat} (hX : Ok X G ρ cX11_at 5 RX11 d) (hd0 : 1 ≤ d) (hn : 126 ≤ n) {rE : Int32} {mE : Mm} (hF : Fin' X G ρ n (some .int) (some (.int rE)) (RT t u w v x) mE) : ∀ (k : Nat) (v1 : Int32) (v2 : Int32) (v3 : Int32) (m : Mm), f_X11_at_L21 k v1 v2 v3 m = some (rE, mE) → J X G ρ n 5 21 [(0, .ref 78), (1, .int v1), (2, .int v2), (3, .int v3)] [] (RT t u w v x) m := by
  intro k
  induction k with
  | zero => intro _ _ _ _ h; rw [f_X11_at_L21] at h; cases h
  | succ k ih =>
    intro v1 v2 v3 m h
    rw [f_X11_at_L21] at h
    refine J_iload_n hX dX11_at_21 rfl 3 rfl ?_
    refine J_aload_n hX dX11_at_22 rfl 0 rfl ?_
    refine J_getR hX dX11_at_23 fl_RX11_71 (ltn ltc_78 hn) lo_78 rfl (rt_78_32 _ _ _ _ _) ?_
    refine J_iconst hX (0 : Int32) dX11_at_26 ic_0 ?_
    refine J_iaload0 hX dX11_at_27 (ltn ltc_99 hn) lay_99 (by decide) ?_
    refine J_icmp_ge hX 101 dX11_at_28 (by decide) h (fun c h => ?_) (fun c h => ?_)
    · refine J_aload_n hX dX11_at_31 rfl 0 rfl ?_
      refine J_iload_n hX dX11_at_32 rfl 3 rfl ?_
      refine J_iload_n hX dX11_at_33 rfl 1 rfl ?_
      obtain ⟨r5, m4, h0, h⟩ := bd2_some h
      refine J_callVi (As := [.int v3, .int v1]) (st := []) hX dX11_at_34 cw_RX11_309 (by omega) (c_X11_unitOn hn  h0) (ltn ltc_78 hn) lo_78 (by decide) rfl rfl rfl (Nat.le_of_ble_eq_true rfl) ?_
      clear h0
      refine J_istore hX [(4, .int r5), (0, .ref 78), (1, .int v1), (2, .int v2), (3, .int v3)] dX11_at_37 (by decide) rfl ?_
      refine J_iload hX dX11_at_39 0 rfl ?_
      refine J_if_lt hX 67 dX11_at_41 (by decide) h (fun c h => ?_) (fun c h => ?_)
      · refine J_sub [(0, .ref 78), (1, .int v1), (2, .int v2), (3, .int v3)] [1, 2, 3, 4] rfl ?_
        exact t_X11_at_J67 hX hd0 hn hF v1 v2 v3 (fun w1 w2 w3 m h => ih w1 w2 w3 m h) m4 h
      · refine J_aload_n hX dX11_at_44 rfl 1 rfl ?_
        refine J_getR hX dX11_at_45 fl_RX11_92 (ltn ltc_78 hn) lo_78 rfl (rt_78_39 _ _ _ _ _) ?_
        refine J_iconst hX (5 : Int32) dX11_at_48 ic_5 ?_
        refine J_iload_n hX dX11_at_49 rfl 4 rfl ?_
        refine J_imul hX dX11_at_50 ?_
        refine J_iload hX dX11_at_51 0 rfl ?_
        refine J_iadd hX dX11_at_53 ?_
        refine J_iaload hX dX11_at_54 (ltn ltc_106 hn) lay_106 h (fun h => ?_)
        refine J_iload_n hX dX11_at_55 rfl 3 rfl ?_
        refine J_icmp_ne hX 67 dX11_at_56 (by decide) h (fun c h => ?_) (fun c h => ?_)
        · refine J_bipush hX (8 : Int32) dX11_at_59 (by decide) ?_
          refine J_iload_n hX dX11_at_61 rfl 4 rfl ?_
          refine J_imul hX dX11_at_62 ?_
          refine J_iload hX dX11_at_63 0 rfl ?_
          refine J_iadd hX dX11_at_65 ?_
          exact J_ireturn hX dX11_at_66 h hF rfl
        · refine J_sub [(0, .ref 78), (1, .int v1), (2, .int v2), (3, .int v3)] [1, 2, 3, 4] rfl ?_
          exact t_X11_at_J67 hX hd0 hn hF v1 v2 v3 (fun w1 w2 w3 m h => ih w1 w2 w3 m h) m4 h
    · refine J_iconst hX (-1 : Int32) dX11_at_101 ic_m1 ?_
      exact J_ireturn hX dX11_at_102 h hF rfl
theorem t_X11_at {X : XX} {G : GG} {ρ : Nat → Nat} {n t u w v : Nat} {x : Option Nat} {d : Nat} (hX : Ok X G ρ cX11_at 5 RX11 d) (hd0 : 1 ≤ d) (hn : 126 ≤ n) {rE : Int32} {mE : Mm} (hF : Fin' X G ρ n (some .int) (some (.int rE)) (RT t u w v x) mE) {x1 : Int32} {x2 : Int32} {m : Mm} (h : f_X11_at x1 x2 m = some (rE, mE)) : J X G ρ n 5 0 [(0, .ref 78), (1, .int x1), (2, .int x2)] [] (RT t u w v x) m := by
  unfold f_X11_at at h
  refine J_aload_n hX dX11_at_0 rfl 0 rfl ?_
  refine J_iconst hX (0 : Int32) dX11_at_1 ic_0 ?_
  refine J_putI hX dX11_at_2 pl_RX11_152 (ltn ltc_78 hn) lo_78 rfl rfl rfl h (fun m1 h => ?_)
  refine J_aload_n hX dX11_at_5 rfl 0 rfl ?_
  refine J_iload_n hX dX11_at_6 rfl 1 rfl ?_
  obtain ⟨r3, m2, h0, h⟩ := bd2_some h
  refine J_callVi (As := [.int x1]) (st := []) hX dX11_at_7 cw_RX11_385 (by omega) (c_X11_isDisk hn  h0) (ltn ltc_78 hn) lo_78 (by decide) rfl rfl rfl (Nat.le_of_ble_eq_true rfl) ?_
  clear h0
  refine J_if_eq hX 17 dX11_at_10 (by decide) h (fun c h => ?_) (fun c h => ?_)
  · refine J_iconst hX (-1 : Int32) dX11_at_17 ic_m1 ?_
    exact J_ireturn hX dX11_at_18 h hF rfl
  · refine J_iload_n hX dX11_at_13 rfl 2 rfl ?_
    refine J_if_ge hX 19 dX11_at_14 (by decide) h (fun c h => ?_) (fun c h => ?_)
    · refine J_iconst hX (-1 : Int32) dX11_at_17 ic_m1 ?_
      exact J_ireturn hX dX11_at_18 h hF rfl
    · refine J_iconst hX (0 : Int32) dX11_at_19 ic_0 ?_
      refine J_istore_n hX [(3, .int (0 : Int32)), (0, .ref 78), (1, .int x1), (2, .int x2)] dX11_at_20 rfl (by decide) rfl ?_
      refine J_sub [(0, .ref 78), (1, .int x1), (2, .int x2), (3, .int (0 : Int32))] [1, 2, 3, 0] rfl ?_
      exact t_X11_at_L21 hX hd0 hn hF FU x1 x2 (0 : Int32)  m2 h
theorem c_X11_at {G : GG} {l : Launch} {ρ : Nat → Nat} {n t u w v : Nat} {x : Option Nat} (hn : 126 ≤ n) {x1 : Int32} {x2 : Int32} {m : Mm} {rE : Int32} {mE : Mm} (h : f_X11_at x1 x2 m = some (rE, mE)) : CT G l yX11_at cX11_at 5 (some .int) 1 0 0 ρ n (RT t u w v x) [.ref 78, .int x1, .int x2] m (some (.int rE)) (RT t u w v x) mE := ct_of_J (by decide) rfl (Nat.le_of_ble_eq_true rfl) (fun X hX e1 e2 e3 e4 hQ hr hl => t_X11_at hX (Nat.le_refl _) hn ⟨by rw [hQ, e3, e4], hr, hl⟩ h)
theorem t_X10_disk {X : XX} {G : GG} {ρ : Nat → Nat} {n : Nat} {x : Option Nat} {d : Nat} {t : Nat} {u : Nat} {w : Nat} {v : Nat} (hX : Ok X G ρ cX10_disk 3 RX10 d) (hd0 : 3 ≤ d) (hn : 126 ≤ n) (ht : isTo t) (hu : isTo u) (hw : isWk w) (hv : isWk v) {rE : Int32} {mE : Mm} (hF : Fin' X G ρ n (some .int) (some (.int rE)) (RT t u w v x) mE) {x1 : Int32} {x2 : Int32} {m : Mm} (h : f_X10_disk t u w v x1 x2 m = some (rE, mE)) : J X G ρ n 3 0 [(0, .ref 0), (1, .int x1), (2, .int x2)] [] (RT t u w v x) m := by
  unfold f_X10_disk at h
  refine J_aload_n hX dX10_disk_0 rfl 0 rfl ?_
  refine J_iload_n hX dX10_disk_1 rfl 1 rfl ?_
  obtain ⟨r2, m1, h0, h⟩ := bd2_some h
  refine J_callVi (As := [.int x1]) (st := []) hX dX10_disk_2 cw_RX10_170 (by omega) (c_X10_isDisk hn ht hu hw hv h0) (ltn ltc_0 hn) lo_0 (by decide) rfl rfl rfl (Nat.le_of_ble_eq_true rfl) ?_
  clear h0
  refine J_if_ne hX 10 dX10_disk_5 (by decide) h (fun c h => ?_) (fun c h => ?_)
  · refine J_iconst hX (-1 : Int32) dX10_disk_8 ic_m1 ?_
    exact J_ireturn hX dX10_disk_9 h hF rfl
  · refine J_iload_n hX dX10_disk_10 rfl 2 rfl ?_
    refine J_split h (fun c0 h => ?_) (fun c0 h => ?_)
    · refine J_tabIn hX 48 (0 : Int32) dX10_disk_11 c0 (by decide) (by decide) (by decide) (by decide) ?_
      refine J_aload_n hX dX10_disk_48 rfl 0 rfl ?_
      refine J_getR hX dX10_disk_49 fl_RX10_62 (ltn ltc_0 hn) lo_0 rfl (rt_0_8 _ _ _ _ _) ?_
      refine J_iload_n hX dX10_disk_52 rfl 1 rfl ?_
      obtain ⟨r4, m3, h0, h⟩ := bd2_some h
      refine J_callVi (As := [.int x1]) (st := []) hX dX10_disk_53 cw_RX10_176 (by omega) (c_X6_isUp hn p_isSt_54 h0) (ltn ltc_54 hn) lo_54 (by decide) rfl rfl rfl (Nat.le_of_ble_eq_true rfl) ?_
      clear h0
      refine J_if_eq hX 63 dX10_disk_56 (by decide) h (fun c h => ?_) (fun c h => ?_)
      · refine J_iconst hX (0 : Int32) dX10_disk_63 ic_0 ?_
        exact J_ireturn hX dX10_disk_64 h hF rfl
      · refine J_iconst hX (1 : Int32) dX10_disk_59 ic_1 ?_
        refine J_goto hX 64 dX10_disk_60 (by decide) ?_
        exact J_ireturn hX dX10_disk_64 h hF rfl
    · refine J_split h (fun c1 h => ?_) (fun c1 h => ?_)
      · refine J_tabIn hX 65 (1 : Int32) dX10_disk_11 c1 (by decide) (by decide) (by decide) (by decide) ?_
        refine J_aload_n hX dX10_disk_65 rfl 0 rfl ?_
        refine J_getR hX dX10_disk_66 fl_RX10_50 (ltn ltc_0 hn) lo_0 rfl (rt_0_6 _ _ _ _ _) ?_
        refine J_getR hX dX10_disk_69 fl_RX10_179 (ltn ltc_26 hn) lo_26 rfl (rt_26_13 _ _ _ _ _) ?_
        refine J_iload_n hX dX10_disk_72 rfl 1 rfl ?_
        refine J_iaload hX dX10_disk_73 (ltn ltc_37 hn) lay_37 h (fun h => ?_)
        exact J_ireturn hX dX10_disk_74 h hF rfl
      · refine J_split h (fun c2 h => ?_) (fun c2 h => ?_)
        · refine J_tabIn hX 75 (2 : Int32) dX10_disk_11 c2 (by decide) (by decide) (by decide) (by decide) ?_
          refine J_aload_n hX dX10_disk_75 rfl 0 rfl ?_
          refine J_getR hX dX10_disk_76 fl_RX10_50 (ltn ltc_0 hn) lo_0 rfl (rt_0_6 _ _ _ _ _) ?_
          refine J_getR hX dX10_disk_79 fl_RX10_182 (ltn ltc_26 hn) lo_26 rfl (rt_26_14 _ _ _ _ _) ?_
          refine J_iload_n hX dX10_disk_82 rfl 1 rfl ?_
          refine J_iaload hX dX10_disk_83 (ltn ltc_38 hn) lay_38 h (fun h => ?_)
          exact J_ireturn hX dX10_disk_84 h hF rfl
        · refine J_split h (fun c3 h => ?_) (fun c3 h => ?_)
          · refine J_tabIn hX 85 (3 : Int32) dX10_disk_11 c3 (by decide) (by decide) (by decide) (by decide) ?_
            refine J_aload_n hX dX10_disk_85 rfl 0 rfl ?_
            refine J_getR hX dX10_disk_86 fl_RX10_50 (ltn ltc_0 hn) lo_0 rfl (rt_0_6 _ _ _ _ _) ?_
            refine J_getR hX dX10_disk_89 fl_RX10_185 (ltn ltc_26 hn) lo_26 rfl (rt_26_15 _ _ _ _ _) ?_
            refine J_iload_n hX dX10_disk_92 rfl 1 rfl ?_
            refine J_iaload hX dX10_disk_93 (ltn ltc_39 hn) lay_39 h (fun h => ?_)
            exact J_ireturn hX dX10_disk_94 h hF rfl
          · refine J_split h (fun c4 h => ?_) (fun c4 h => ?_)
            · refine J_tabIn hX 95 (4 : Int32) dX10_disk_11 c4 (by decide) (by decide) (by decide) (by decide) ?_
              refine J_aload_n hX dX10_disk_95 rfl 0 rfl ?_
              refine J_getR hX dX10_disk_96 fl_RX10_62 (ltn ltc_0 hn) lo_0 rfl (rt_0_8 _ _ _ _ _) ?_
              refine J_getR hX dX10_disk_99 fl_RX10_188 (ltn ltc_54 hn) lo_54 rfl (rt_54_4 _ _ _ _ _) ?_
              refine J_iload_n hX dX10_disk_102 rfl 1 rfl ?_
              refine J_iaload hX dX10_disk_103 (ltn ltc_57 hn) lay_57 h (fun h => ?_)
              exact J_ireturn hX dX10_disk_104 h hF rfl
            · refine J_split h (fun c5 h => ?_) (fun c5 h => ?_)
              · refine J_tabIn hX 105 (5 : Int32) dX10_disk_11 c5 (by decide) (by decide) (by decide) (by decide) ?_
                refine J_aload_n hX dX10_disk_105 rfl 0 rfl ?_
                refine J_getR hX dX10_disk_106 fl_RX10_62 (ltn ltc_0 hn) lo_0 rfl (rt_0_8 _ _ _ _ _) ?_
                refine J_iload_n hX dX10_disk_109 rfl 1 rfl ?_
                obtain ⟨r6, m5, h0, h⟩ := bd2_some h
                refine J_callVi (As := [.int x1]) (st := []) hX dX10_disk_110 cw_RX10_191 (by omega) (c_X6_unitsNow hn p_isSt_54 h0) (ltn ltc_54 hn) lo_54 (by decide) rfl rfl rfl (Nat.le_of_ble_eq_true rfl) ?_
                clear h0
                exact J_ireturn hX dX10_disk_113 h hF rfl
              · refine J_tabOut hX 114 [(0 : Int32), (1 : Int32), (2 : Int32), (3 : Int32), (4 : Int32), (5 : Int32)] dX10_disk_11 (by decide) (by simp only [List.mem_cons, List.not_mem_nil, or_false, not_or]; exact ⟨c0, c1, c2, c3, c4, c5⟩) (by decide) ?_
                refine J_iconst hX (-1 : Int32) dX10_disk_114 ic_m1 ?_
                exact J_ireturn hX dX10_disk_115 h hF rfl
theorem c_X10_disk {G : GG} {l : Launch} {ρ : Nat → Nat} {n : Nat} {x : Option Nat} (hn : 126 ≤ n) {t : Nat} {u : Nat} {w : Nat} {v : Nat} (ht : isTo t) (hu : isTo u) (hw : isWk w) (hv : isWk v) {x1 : Int32} {x2 : Int32} {m : Mm} {rE : Int32} {mE : Mm} (h : f_X10_disk t u w v x1 x2 m = some (rE, mE)) : CT G l yX10_disk cX10_disk 3 (some .int) 3 0 0 ρ n (RT t u w v x) [.ref 0, .int x1, .int x2] m (some (.int rE)) (RT t u w v x) mE := ct_of_J (by decide) rfl (Nat.le_of_ble_eq_true rfl) (fun X hX e1 e2 e3 e4 hQ hr hl => t_X10_disk hX (Nat.le_refl _) hn ht hu hw hv ⟨by rw [hQ, e3, e4], hr, hl⟩ h)
theorem t_X11_disk {X : XX} {G : GG} {ρ : Nat → Nat} {n t u w v : Nat} {x : Option Nat} {d : Nat} (hX : Ok X G ρ cX11_disk 3 RX11 d) (hd0 : 3 ≤ d) (hn : 126 ≤ n) {rE : Int32} {mE : Mm} (hF : Fin' X G ρ n (some .int) (some (.int rE)) (RT t u w v x) mE) {x1 : Int32} {x2 : Int32} {m : Mm} (h : f_X11_disk x1 x2 m = some (rE, mE)) : J X G ρ n 3 0 [(0, .ref 78), (1, .int x1), (2, .int x2)] [] (RT t u w v x) m := by
  unfold f_X11_disk at h
  refine J_aload_n hX dX11_disk_0 rfl 0 rfl ?_
  refine J_iconst hX (0 : Int32) dX11_disk_1 ic_0 ?_
  refine J_putI hX dX11_disk_2 pl_RX11_152 (ltn ltc_78 hn) lo_78 rfl rfl rfl h (fun m1 h => ?_)
  refine J_aload_n hX dX11_disk_5 rfl 0 rfl ?_
  refine J_iload_n hX dX11_disk_6 rfl 1 rfl ?_
  obtain ⟨r3, m2, h0, h⟩ := bd2_some h
  refine J_callVi (As := [.int x1]) (st := []) hX dX11_disk_7 cw_RX11_385 (by omega) (c_X11_isDisk hn  h0) (ltn ltc_78 hn) lo_78 (by decide) rfl rfl rfl (Nat.le_of_ble_eq_true rfl) ?_
  clear h0
  refine J_if_eq hX 22 dX11_disk_10 (by decide) h (fun c h => ?_) (fun c h => ?_)
  · refine J_iconst hX (-1 : Int32) dX11_disk_22 ic_m1 ?_
    exact J_ireturn hX dX11_disk_23 h hF rfl
  · refine J_iload_n hX dX11_disk_13 rfl 2 rfl ?_
    refine J_iconst hX (0 : Int32) dX11_disk_14 ic_0 ?_
    refine J_iconst hX (5 : Int32) dX11_disk_15 ic_5 ?_
    obtain ⟨r5, m4, h0, h⟩ := bd2_some h
    refine J_callSi (As := [.int x2, .int (0 : Int32), .int (5 : Int32)]) (st := []) hX dX11_disk_16 cw_RX11_239 (by omega) (c_X11_within hn  h0) rfl rfl (Nat.le_of_ble_eq_true rfl) ?_
    clear h0
    refine J_if_ne hX 24 dX11_disk_19 (by decide) h (fun c h => ?_) (fun c h => ?_)
    · refine J_iconst hX (-1 : Int32) dX11_disk_22 ic_m1 ?_
      exact J_ireturn hX dX11_disk_23 h hF rfl
    · refine J_iload_n hX dX11_disk_24 rfl 2 rfl ?_
      refine J_if_ne hX 39 dX11_disk_25 (by decide) h (fun c h => ?_) (fun c h => ?_)
      · refine J_aload_n hX dX11_disk_28 rfl 0 rfl ?_
        refine J_getR hX dX11_disk_29 fl_RX11_125 (ltn ltc_78 hn) lo_78 rfl (rt_78_50 _ _ _ _ _) ?_
        refine J_iconst hX (0 : Int32) dX11_disk_32 ic_0 ?_
        refine J_iaload0 hX dX11_disk_33 (ltn ltc_117 hn) lay_117 (by decide) ?_
        refine J_iload_n hX dX11_disk_34 rfl 1 rfl ?_
        refine J_ishr hX dX11_disk_35 ?_
        refine J_iconst hX (1 : Int32) dX11_disk_36 ic_1 ?_
        refine J_iand hX dX11_disk_37 ?_
        exact J_ireturn hX dX11_disk_38 h hF rfl
      · refine J_iload_n hX dX11_disk_39 rfl 2 rfl ?_
        refine J_iconst hX (4 : Int32) dX11_disk_40 ic_4 ?_
        refine J_icmp_ge hX 53 dX11_disk_41 (by decide) h (fun c h => ?_) (fun c h => ?_)
        · refine J_aload_n hX dX11_disk_44 rfl 0 rfl ?_
          refine J_iload_n hX dX11_disk_45 rfl 1 rfl ?_
          refine J_iload_n hX dX11_disk_46 rfl 2 rfl ?_
          obtain ⟨r9, m8, h0, h⟩ := bd2_some h
          refine J_callVi (As := [.int x1, .int x2]) (st := []) hX dX11_disk_47 cw_RX11_391 (by omega) (c_X11_ofDisk hn  h0) (ltn ltc_78 hn) lo_78 (by decide) rfl rfl rfl (Nat.le_of_ble_eq_true rfl) ?_
          clear h0
          refine J_goto hX 74 dX11_disk_50 (by decide) ?_
          exact J_ireturn hX dX11_disk_74 h hF rfl
        · refine J_iload_n hX dX11_disk_53 rfl 2 rfl ?_
          refine J_iconst hX (4 : Int32) dX11_disk_54 ic_4 ?_
          refine J_icmp_ne hX 69 dX11_disk_55 (by decide) h (fun c h => ?_) (fun c h => ?_)
          · refine J_aload_n hX dX11_disk_58 rfl 0 rfl ?_
            refine J_getR hX dX11_disk_59 fl_RX11_125 (ltn ltc_78 hn) lo_78 rfl (rt_78_50 _ _ _ _ _) ?_
            refine J_iconst hX (1 : Int32) dX11_disk_62 ic_1 ?_
            refine J_iload_n hX dX11_disk_63 rfl 1 rfl ?_
            refine J_iadd hX dX11_disk_64 ?_
            refine J_iaload hX dX11_disk_65 (ltn ltc_117 hn) lay_117 h (fun h => ?_)
            refine J_goto hX 74 dX11_disk_66 (by decide) ?_
            exact J_ireturn hX dX11_disk_74 h hF rfl
          · refine J_aload_n hX dX11_disk_69 rfl 0 rfl ?_
            refine J_iload_n hX dX11_disk_70 rfl 1 rfl ?_
            obtain ⟨r7, m6, h0, h⟩ := bd2_some h
            refine J_callVi (As := [.int x1]) (st := []) hX dX11_disk_71 cw_RX11_394 (by omega) (c_X11_thereOn hn  h0) (ltn ltc_78 hn) lo_78 (by decide) rfl rfl rfl (Nat.le_of_ble_eq_true rfl) ?_
            clear h0
            exact J_ireturn hX dX11_disk_74 h hF rfl
theorem c_X11_disk {G : GG} {l : Launch} {ρ : Nat → Nat} {n t u w v : Nat} {x : Option Nat} (hn : 126 ≤ n) {x1 : Int32} {x2 : Int32} {m : Mm} {rE : Int32} {mE : Mm} (h : f_X11_disk x1 x2 m = some (rE, mE)) : CT G l yX11_disk cX11_disk 3 (some .int) 3 0 0 ρ n (RT t u w v x) [.ref 78, .int x1, .int x2] m (some (.int rE)) (RT t u w v x) mE := ct_of_J (by decide) rfl (Nat.le_of_ble_eq_true rfl) (fun X hX e1 e2 e3 e4 hQ hr hl => t_X11_disk hX (Nat.le_refl _) hn ⟨by rw [hQ, e3, e4], hr, hl⟩ h)
theorem t_X10_read {X : XX} {G : GG} {ρ : Nat → Nat} {n : Nat} {x : Option Nat} {d : Nat} {t : Nat} {u : Nat} {w : Nat} {v : Nat} (hX : Ok X G ρ cX10_read 2 RX10 d) (hd0 : 4 ≤ d) (hn : 126 ≤ n) (ht : isTo t) (hu : isTo u) (hw : isWk w) (hv : isWk v) {rE : Int32} {mE : Mm} (hF : Fin' X G ρ n (some .int) (some (.int rE)) (RT t u w v x) mE) {x1 : Int32} {m : Mm} (h : f_X10_read t u w v x1 m = some (rE, mE)) : J X G ρ n 2 0 [(0, .ref 0), (1, .int x1)] [] (RT t u w v x) m := by
  unfold f_X10_read at h
  refine J_aload_n hX dX10_read_0 rfl 0 rfl ?_
  refine J_iload_n hX dX10_read_1 rfl 1 rfl ?_
  obtain ⟨r2, m1, h0, h⟩ := bd2_some h
  refine J_callVi (As := [.int x1]) (st := []) hX dX10_read_2 cw_RX10_158 (by omega) (c_X10_isDatum hn ht hu hw hv h0) (ltn ltc_0 hn) lo_0 (by decide) rfl rfl rfl (Nat.le_of_ble_eq_true rfl) ?_
  clear h0
  refine J_if_eq hX 38 dX10_read_5 (by decide) h (fun c h => ?_) (fun c h => ?_)
  · refine J_iconst hX (-1 : Int32) dX10_read_38 ic_m1 ?_
    exact J_ireturn hX dX10_read_39 h hF rfl
  · refine J_aload_n hX dX10_read_8 rfl 0 rfl ?_
    refine J_getR hX dX10_read_9 fl_RX10_62 (ltn ltc_0 hn) lo_0 rfl (rt_0_8 _ _ _ _ _) ?_
    refine J_iload_n hX dX10_read_12 rfl 1 rfl ?_
    obtain ⟨r4, m3, h0, h⟩ := bd2_some h
    refine J_callVi (As := [.int x1]) (st := []) hX dX10_read_13 cw_RX10_194 (by omega) (c_X6_readDatum hn p_isSt_54 h0) (ltn ltc_54 hn) lo_54 (by decide) rfl rfl rfl (Nat.le_of_ble_eq_true rfl) ?_
    clear h0
    refine J_if_eq hX 38 dX10_read_16 (by decide) h (fun c h => ?_) (fun c h => ?_)
    · refine J_iconst hX (-1 : Int32) dX10_read_38 ic_m1 ?_
      exact J_ireturn hX dX10_read_39 h hF rfl
    · refine J_aload_n hX dX10_read_19 rfl 0 rfl ?_
      refine J_getR hX dX10_read_20 fl_RX10_62 (ltn ltc_0 hn) lo_0 rfl (rt_0_8 _ _ _ _ _) ?_
      refine J_aload_n hX dX10_read_23 rfl 0 rfl ?_
      refine J_getR hX dX10_read_24 fl_RX10_50 (ltn ltc_0 hn) lo_0 rfl (rt_0_6 _ _ _ _ _) ?_
      refine J_getR hX dX10_read_27 fl_RX10_161 (ltn ltc_26 hn) lo_26 rfl (rt_26_12 _ _ _ _ _) ?_
      refine J_iload_n hX dX10_read_30 rfl 1 rfl ?_
      refine J_iaload hX dX10_read_31 (ltn ltc_36 hn) lay_36 h (fun h => ?_)
      obtain ⟨r6, m5, h0, h⟩ := bd2_some h
      refine J_callVi (As := [.int (gI m3 36 (ix x1))]) (st := []) hX dX10_read_32 cw_RX10_152 (by omega) (c_X6_byteOf hn p_isSt_54 h0) (ltn ltc_54 hn) lo_54 (by decide) rfl rfl rfl (Nat.le_of_ble_eq_true rfl) ?_
      clear h0
      refine J_goto hX 39 dX10_read_35 (by decide) ?_
      exact J_ireturn hX dX10_read_39 h hF rfl
theorem c_X10_read {G : GG} {l : Launch} {ρ : Nat → Nat} {n : Nat} {x : Option Nat} (hn : 126 ≤ n) {t : Nat} {u : Nat} {w : Nat} {v : Nat} (ht : isTo t) (hu : isTo u) (hw : isWk w) (hv : isWk v) {x1 : Int32} {m : Mm} {rE : Int32} {mE : Mm} (h : f_X10_read t u w v x1 m = some (rE, mE)) : CT G l yX10_read cX10_read 2 (some .int) 4 0 0 ρ n (RT t u w v x) [.ref 0, .int x1] m (some (.int rE)) (RT t u w v x) mE := ct_of_J (by decide) rfl (Nat.le_of_ble_eq_true rfl) (fun X hX e1 e2 e3 e4 hQ hr hl => t_X10_read hX (Nat.le_refl _) hn ht hu hw hv ⟨by rw [hQ, e3, e4], hr, hl⟩ h)
theorem t_X11_read {X : XX} {G : GG} {ρ : Nat → Nat} {n t u w v : Nat} {x : Option Nat} {d : Nat} (hX : Ok X G ρ cX11_read 2 RX11 d) (hd0 : 3 ≤ d) (hn : 126 ≤ n) {rE : Int32} {mE : Mm} (hF : Fin' X G ρ n (some .int) (some (.int rE)) (RT t u w v x) mE) {x1 : Int32} {m : Mm} (h : f_X11_read x1 m = some (rE, mE)) : J X G ρ n 2 0 [(0, .ref 78), (1, .int x1)] [] (RT t u w v x) m := by
  unfold f_X11_read at h
  refine J_aload_n hX dX11_read_0 rfl 0 rfl ?_
  refine J_iconst hX (0 : Int32) dX11_read_1 ic_0 ?_
  refine J_putI hX dX11_read_2 pl_RX11_152 (ltn ltc_78 hn) lo_78 rfl rfl rfl h (fun m1 h => ?_)
  refine J_aload_n hX dX11_read_5 rfl 0 rfl ?_
  refine J_iload_n hX dX11_read_6 rfl 1 rfl ?_
  obtain ⟨r3, m2, h0, h⟩ := bd2_some h
  refine J_callVi (As := [.int x1]) (st := []) hX dX11_read_7 cw_RX11_382 (by omega) (c_X11_isDatum hn  h0) (ltn ltc_78 hn) lo_78 (by decide) rfl rfl rfl (Nat.le_of_ble_eq_true rfl) ?_
  clear h0
  refine J_if_eq hX 29 dX11_read_10 (by decide) h (fun c h => ?_) (fun c h => ?_)
  · refine J_iconst hX (-1 : Int32) dX11_read_29 ic_m1 ?_
    exact J_ireturn hX dX11_read_30 h hF rfl
  · refine J_aload_n hX dX11_read_13 rfl 0 rfl ?_
    refine J_iload_n hX dX11_read_14 rfl 1 rfl ?_
    obtain ⟨r5, m4, h0, h⟩ := bd2_some h
    refine J_callVi (As := [.int x1]) (st := []) hX dX11_read_15 cw_RX11_397 (by omega) (c_X11_canRead hn  h0) (ltn ltc_78 hn) lo_78 (by decide) rfl rfl rfl (Nat.le_of_ble_eq_true rfl) ?_
    clear h0
    refine J_if_eq hX 29 dX11_read_18 (by decide) h (fun c h => ?_) (fun c h => ?_)
    · refine J_iconst hX (-1 : Int32) dX11_read_29 ic_m1 ?_
      exact J_ireturn hX dX11_read_30 h hF rfl
    · refine J_aload_n hX dX11_read_21 rfl 0 rfl ?_
      refine J_iload_n hX dX11_read_22 rfl 1 rfl ?_
      obtain ⟨r7, m6, h0, h⟩ := bd2_some h
      refine J_callVi (As := [.int x1]) (st := []) hX dX11_read_23 cw_RX11_400 (by omega) (c_X11_readsDatum hn  h0) (ltn ltc_78 hn) lo_78 (by decide) rfl rfl rfl (Nat.le_of_ble_eq_true rfl) ?_
      clear h0
      refine J_goto hX 30 dX11_read_26 (by decide) ?_
      exact J_ireturn hX dX11_read_30 h hF rfl
theorem c_X11_read {G : GG} {l : Launch} {ρ : Nat → Nat} {n t u w v : Nat} {x : Option Nat} (hn : 126 ≤ n) {x1 : Int32} {m : Mm} {rE : Int32} {mE : Mm} (h : f_X11_read x1 m = some (rE, mE)) : CT G l yX11_read cX11_read 2 (some .int) 3 0 0 ρ n (RT t u w v x) [.ref 78, .int x1] m (some (.int rE)) (RT t u w v x) mE := ct_of_J (by decide) rfl (Nat.le_of_ble_eq_true rfl) (fun X hX e1 e2 e3 e4 hQ hr hl => t_X11_read hX (Nat.le_refl _) hn ⟨by rw [hQ, e3, e4], hr, hl⟩ h)
theorem t_X10_write {X : XX} {G : GG} {ρ : Nat → Nat} {n : Nat} {x : Option Nat} {d : Nat} {t : Nat} {u : Nat} {w : Nat} {v : Nat} (hX : Ok X G ρ cX10_write 3 RX10 d) (hd0 : 4 ≤ d) (hn : 126 ≤ n) (ht : isTo t) (hu : isTo u) (hw : isWk w) (hv : isWk v) {rE : Int32} {mE : Mm} (hF : Fin' X G ρ n (some .int) (some (.int rE)) (RT t u w v x) mE) {x1 : Int32} {x2 : Int32} {m : Mm} (h : f_X10_write t u w v x1 x2 m = some (rE, mE)) : J X G ρ n 3 0 [(0, .ref 0), (1, .int x1), (2, .int x2)] [] (RT t u w v x) m := by
  unfold f_X10_write at h
  refine J_aload_n hX dX10_write_0 rfl 0 rfl ?_
  refine J_iload_n hX dX10_write_1 rfl 1 rfl ?_
  obtain ⟨r2, m1, h0, h⟩ := bd2_some h
  refine J_callVi (As := [.int x1]) (st := []) hX dX10_write_2 cw_RX10_158 (by omega) (c_X10_isDatum hn ht hu hw hv h0) (ltn ltc_0 hn) lo_0 (by decide) rfl rfl rfl (Nat.le_of_ble_eq_true rfl) ?_
  clear h0
  refine J_if_eq hX 31 dX10_write_5 (by decide) h (fun c h => ?_) (fun c h => ?_)
  · refine J_iconst hX (-1 : Int32) dX10_write_31 ic_m1 ?_
    exact J_ireturn hX dX10_write_32 h hF rfl
  · refine J_iload_n hX dX10_write_8 rfl 2 rfl ?_
    refine J_if_lt hX 31 dX10_write_9 (by decide) h (fun c h => ?_) (fun c h => ?_)
    · refine J_iconst hX (-1 : Int32) dX10_write_31 ic_m1 ?_
      exact J_ireturn hX dX10_write_32 h hF rfl
    · refine J_iload_n hX dX10_write_12 rfl 2 rfl ?_
      refine J_sipush hX (255 : Int32) dX10_write_13 (by decide) ?_
      refine J_icmp_gt hX 31 dX10_write_16 (by decide) h (fun c h => ?_) (fun c h => ?_)
      · refine J_iconst hX (-1 : Int32) dX10_write_31 ic_m1 ?_
        exact J_ireturn hX dX10_write_32 h hF rfl
      · refine J_aload_n hX dX10_write_19 rfl 0 rfl ?_
        refine J_getR hX dX10_write_20 fl_RX10_62 (ltn ltc_0 hn) lo_0 rfl (rt_0_8 _ _ _ _ _) ?_
        refine J_iload_n hX dX10_write_23 rfl 1 rfl ?_
        refine J_iload_n hX dX10_write_24 rfl 2 rfl ?_
        obtain ⟨r4, m3, h0, h⟩ := bd2_some h
        refine J_callVi (As := [.int x1, .int x2]) (st := []) hX dX10_write_25 cw_RX10_197 (by omega) (c_X6_writeDatum hn p_isSt_54 h0) (ltn ltc_54 hn) lo_54 (by decide) rfl rfl rfl (Nat.le_of_ble_eq_true rfl) ?_
        clear h0
        refine J_goto hX 32 dX10_write_28 (by decide) ?_
        exact J_ireturn hX dX10_write_32 h hF rfl
theorem c_X10_write {G : GG} {l : Launch} {ρ : Nat → Nat} {n : Nat} {x : Option Nat} (hn : 126 ≤ n) {t : Nat} {u : Nat} {w : Nat} {v : Nat} (ht : isTo t) (hu : isTo u) (hw : isWk w) (hv : isWk v) {x1 : Int32} {x2 : Int32} {m : Mm} {rE : Int32} {mE : Mm} (h : f_X10_write t u w v x1 x2 m = some (rE, mE)) : CT G l yX10_write cX10_write 3 (some .int) 4 0 0 ρ n (RT t u w v x) [.ref 0, .int x1, .int x2] m (some (.int rE)) (RT t u w v x) mE := ct_of_J (by decide) rfl (Nat.le_of_ble_eq_true rfl) (fun X hX e1 e2 e3 e4 hQ hr hl => t_X10_write hX (Nat.le_refl _) hn ht hu hw hv ⟨by rw [hQ, e3, e4], hr, hl⟩ h)
theorem t_X11_write {X : XX} {G : GG} {ρ : Nat → Nat} {n t u w v : Nat} {x : Option Nat} {d : Nat} (hX : Ok X G ρ cX11_write 3 RX11 d) (hd0 : 3 ≤ d) (hn : 126 ≤ n) {rE : Int32} {mE : Mm} (hF : Fin' X G ρ n (some .int) (some (.int rE)) (RT t u w v x) mE) {x1 : Int32} {x2 : Int32} {m : Mm} (h : f_X11_write x1 x2 m = some (rE, mE)) : J X G ρ n 3 0 [(0, .ref 78), (1, .int x1), (2, .int x2)] [] (RT t u w v x) m := by
  unfold f_X11_write at h
  refine J_aload_n hX dX11_write_0 rfl 0 rfl ?_
  refine J_iconst hX (0 : Int32) dX11_write_1 ic_0 ?_
  refine J_putI hX dX11_write_2 pl_RX11_152 (ltn ltc_78 hn) lo_78 rfl rfl rfl h (fun m1 h => ?_)
  refine J_aload_n hX dX11_write_5 rfl 0 rfl ?_
  refine J_iload_n hX dX11_write_6 rfl 1 rfl ?_
  obtain ⟨r3, m2, h0, h⟩ := bd2_some h
  refine J_callVi (As := [.int x1]) (st := []) hX dX11_write_7 cw_RX11_382 (by omega) (c_X11_isDatum hn  h0) (ltn ltc_78 hn) lo_78 (by decide) rfl rfl rfl (Nat.le_of_ble_eq_true rfl) ?_
  clear h0
  refine J_if_eq hX 41 dX11_write_10 (by decide) h (fun c h => ?_) (fun c h => ?_)
  · refine J_iconst hX (-1 : Int32) dX11_write_41 ic_m1 ?_
    exact J_ireturn hX dX11_write_42 h hF rfl
  · refine J_iload_n hX dX11_write_13 rfl 2 rfl ?_
    refine J_iconst hX (0 : Int32) dX11_write_14 ic_0 ?_
    refine J_sipush hX (255 : Int32) dX11_write_15 (by decide) ?_
    obtain ⟨r5, m4, h0, h⟩ := bd2_some h
    refine J_callSi (As := [.int x2, .int (0 : Int32), .int (255 : Int32)]) (st := []) hX dX11_write_18 cw_RX11_239 (by omega) (c_X11_within hn  h0) rfl rfl (Nat.le_of_ble_eq_true rfl) ?_
    clear h0
    refine J_if_eq hX 41 dX11_write_21 (by decide) h (fun c h => ?_) (fun c h => ?_)
    · refine J_iconst hX (-1 : Int32) dX11_write_41 ic_m1 ?_
      exact J_ireturn hX dX11_write_42 h hF rfl
    · refine J_aload_n hX dX11_write_24 rfl 0 rfl ?_
      refine J_iload_n hX dX11_write_25 rfl 1 rfl ?_
      obtain ⟨r7, m6, h0, h⟩ := bd2_some h
      refine J_callVi (As := [.int x1]) (st := []) hX dX11_write_26 cw_RX11_403 (by omega) (c_X11_canWrite hn  h0) (ltn ltc_78 hn) lo_78 (by decide) rfl rfl rfl (Nat.le_of_ble_eq_true rfl) ?_
      clear h0
      refine J_if_eq hX 41 dX11_write_29 (by decide) h (fun c h => ?_) (fun c h => ?_)
      · refine J_iconst hX (-1 : Int32) dX11_write_41 ic_m1 ?_
        exact J_ireturn hX dX11_write_42 h hF rfl
      · refine J_aload_n hX dX11_write_32 rfl 0 rfl ?_
        refine J_iload_n hX dX11_write_33 rfl 1 rfl ?_
        refine J_iload_n hX dX11_write_34 rfl 2 rfl ?_
        obtain ⟨r9, m8, h0, h⟩ := bd2_some h
        refine J_callVi (As := [.int x1, .int x2]) (st := []) hX dX11_write_35 cw_RX11_406 (by omega) (c_X11_writesDatum hn  h0) (ltn ltc_78 hn) lo_78 (by decide) rfl rfl rfl (Nat.le_of_ble_eq_true rfl) ?_
        clear h0
        refine J_goto hX 42 dX11_write_38 (by decide) ?_
        exact J_ireturn hX dX11_write_42 h hF rfl
theorem c_X11_write {G : GG} {l : Launch} {ρ : Nat → Nat} {n t u w v : Nat} {x : Option Nat} (hn : 126 ≤ n) {x1 : Int32} {x2 : Int32} {m : Mm} {rE : Int32} {mE : Mm} (h : f_X11_write x1 x2 m = some (rE, mE)) : CT G l yX11_write cX11_write 3 (some .int) 3 0 0 ρ n (RT t u w v x) [.ref 78, .int x1, .int x2] m (some (.int rE)) (RT t u w v x) mE := ct_of_J (by decide) rfl (Nat.le_of_ble_eq_true rfl) (fun X hX e1 e2 e3 e4 hQ hr hl => t_X11_write hX (Nat.le_refl _) hn ⟨by rw [hQ, e3, e4], hr, hl⟩ h)
theorem t_X10_lose {X : XX} {G : GG} {ρ : Nat → Nat} {n : Nat} {x : Option Nat} {d : Nat} {t : Nat} {u : Nat} {w : Nat} {v : Nat} (hX : Ok X G ρ cX10_lose 2 RX10 d) (hd0 : 2 ≤ d) (hn : 126 ≤ n) (ht : isTo t) (hu : isTo u) (hw : isWk w) (hv : isWk v) {rE : Int32} {mE : Mm} (hF : Fin' X G ρ n (some .int) (some (.int rE)) (RT t u w v x) mE) {x1 : Int32} {m : Mm} (h : f_X10_lose t u w v x1 m = some (rE, mE)) : J X G ρ n 2 0 [(0, .ref 0), (1, .int x1)] [] (RT t u w v x) m := by
  unfold f_X10_lose at h
  refine J_aload_n hX dX10_lose_0 rfl 0 rfl ?_
  refine J_iload_n hX dX10_lose_1 rfl 1 rfl ?_
  obtain ⟨r2, m1, h0, h⟩ := bd2_some h
  refine J_callVi (As := [.int x1]) (st := []) hX dX10_lose_2 cw_RX10_170 (by omega) (c_X10_isDisk hn ht hu hw hv h0) (ltn ltc_0 hn) lo_0 (by decide) rfl rfl rfl (Nat.le_of_ble_eq_true rfl) ?_
  clear h0
  refine J_if_eq hX 19 dX10_lose_5 (by decide) h (fun c h => ?_) (fun c h => ?_)
  · refine J_iconst hX (-1 : Int32) dX10_lose_19 ic_m1 ?_
    exact J_ireturn hX dX10_lose_20 h hF rfl
  · refine J_aload_n hX dX10_lose_8 rfl 0 rfl ?_
    refine J_getR hX dX10_lose_9 fl_RX10_62 (ltn ltc_0 hn) lo_0 rfl (rt_0_8 _ _ _ _ _) ?_
    refine J_iload_n hX dX10_lose_12 rfl 1 rfl ?_
    obtain ⟨r4, m3, h0, h⟩ := bd2_some h
    refine J_callVi (As := [.int x1]) (st := []) hX dX10_lose_13 cw_RX10_200 (by omega) (c_X6_loseDisk hn p_isSt_54 h0) (ltn ltc_54 hn) lo_54 (by decide) rfl rfl rfl (Nat.le_of_ble_eq_true rfl) ?_
    clear h0
    refine J_goto hX 20 dX10_lose_16 (by decide) ?_
    exact J_ireturn hX dX10_lose_20 h hF rfl
theorem c_X10_lose {G : GG} {l : Launch} {ρ : Nat → Nat} {n : Nat} {x : Option Nat} (hn : 126 ≤ n) {t : Nat} {u : Nat} {w : Nat} {v : Nat} (ht : isTo t) (hu : isTo u) (hw : isWk w) (hv : isWk v) {x1 : Int32} {m : Mm} {rE : Int32} {mE : Mm} (h : f_X10_lose t u w v x1 m = some (rE, mE)) : CT G l yX10_lose cX10_lose 2 (some .int) 2 0 0 ρ n (RT t u w v x) [.ref 0, .int x1] m (some (.int rE)) (RT t u w v x) mE := ct_of_J (by decide) rfl (Nat.le_of_ble_eq_true rfl) (fun X hX e1 e2 e3 e4 hQ hr hl => t_X10_lose hX (Nat.le_refl _) hn ht hu hw hv ⟨by rw [hQ, e3, e4], hr, hl⟩ h)
theorem t_X11_lose {X : XX} {G : GG} {ρ : Nat → Nat} {n t u w v : Nat} {x : Option Nat} {d : Nat} (hX : Ok X G ρ cX11_lose 2 RX11 d) (hd0 : 2 ≤ d) (hn : 126 ≤ n) {rE : Int32} {mE : Mm} (hF : Fin' X G ρ n (some .int) (some (.int rE)) (RT t u w v x) mE) {x1 : Int32} {m : Mm} (h : f_X11_lose x1 m = some (rE, mE)) : J X G ρ n 2 0 [(0, .ref 78), (1, .int x1)] [] (RT t u w v x) m := by
  unfold f_X11_lose at h
  refine J_aload_n hX dX11_lose_0 rfl 0 rfl ?_
  refine J_iconst hX (0 : Int32) dX11_lose_1 ic_0 ?_
  refine J_putI hX dX11_lose_2 pl_RX11_152 (ltn ltc_78 hn) lo_78 rfl rfl rfl h (fun m1 h => ?_)
  refine J_aload_n hX dX11_lose_5 rfl 0 rfl ?_
  refine J_iload_n hX dX11_lose_6 rfl 1 rfl ?_
  obtain ⟨r3, m2, h0, h⟩ := bd2_some h
  refine J_callVi (As := [.int x1]) (st := []) hX dX11_lose_7 cw_RX11_385 (by omega) (c_X11_isDisk hn  h0) (ltn ltc_78 hn) lo_78 (by decide) rfl rfl rfl (Nat.le_of_ble_eq_true rfl) ?_
  clear h0
  refine J_if_eq hX 29 dX11_lose_10 (by decide) h (fun c h => ?_) (fun c h => ?_)
  · refine J_iconst hX (-1 : Int32) dX11_lose_29 ic_m1 ?_
    exact J_ireturn hX dX11_lose_30 h hF rfl
  · refine J_aload_n hX dX11_lose_13 rfl 0 rfl ?_
    refine J_iload_n hX dX11_lose_14 rfl 1 rfl ?_
    obtain ⟨r5, m4, h0, h⟩ := bd2_some h
    refine J_callVi (As := [.int x1]) (st := []) hX dX11_lose_15 cw_RX11_373 (by omega) (c_X11_isUp hn  h0) (ltn ltc_78 hn) lo_78 (by decide) rfl rfl rfl (Nat.le_of_ble_eq_true rfl) ?_
    clear h0
    refine J_if_eq hX 29 dX11_lose_18 (by decide) h (fun c h => ?_) (fun c h => ?_)
    · refine J_iconst hX (-1 : Int32) dX11_lose_29 ic_m1 ?_
      exact J_ireturn hX dX11_lose_30 h hF rfl
    · refine J_aload_n hX dX11_lose_21 rfl 0 rfl ?_
      refine J_iload_n hX dX11_lose_22 rfl 1 rfl ?_
      obtain ⟨r7, m6, h0, h⟩ := bd2_some h
      refine J_callVi (As := [.int x1]) (st := []) hX dX11_lose_23 cw_RX11_409 (by omega) (c_X11_losesDisk hn  h0) (ltn ltc_78 hn) lo_78 (by decide) rfl rfl rfl (Nat.le_of_ble_eq_true rfl) ?_
      clear h0
      refine J_goto hX 30 dX11_lose_26 (by decide) ?_
      exact J_ireturn hX dX11_lose_30 h hF rfl
theorem c_X11_lose {G : GG} {l : Launch} {ρ : Nat → Nat} {n t u w v : Nat} {x : Option Nat} (hn : 126 ≤ n) {x1 : Int32} {m : Mm} {rE : Int32} {mE : Mm} (h : f_X11_lose x1 m = some (rE, mE)) : CT G l yX11_lose cX11_lose 2 (some .int) 2 0 0 ρ n (RT t u w v x) [.ref 78, .int x1] m (some (.int rE)) (RT t u w v x) mE := ct_of_J (by decide) rfl (Nat.le_of_ble_eq_true rfl) (fun X hX e1 e2 e3 e4 hQ hr hl => t_X11_lose hX (Nat.le_refl _) hn ⟨by rw [hQ, e3, e4], hr, hl⟩ h)
theorem t_X10_replace {X : XX} {G : GG} {ρ : Nat → Nat} {n : Nat} {x : Option Nat} {d : Nat} {t : Nat} {u : Nat} {w : Nat} {v : Nat} (hX : Ok X G ρ cX10_replace 2 RX10 d) (hd0 : 2 ≤ d) (hn : 126 ≤ n) (ht : isTo t) (hu : isTo u) (hw : isWk w) (hv : isWk v) {rE : Int32} {mE : Mm} (hF : Fin' X G ρ n (some .boolean) (some (.int rE)) (RT t u w v x) mE) {x1 : Int32} {m : Mm} (h : f_X10_replace t u w v x1 m = some (rE, mE)) : J X G ρ n 2 0 [(0, .ref 0), (1, .int x1)] [] (RT t u w v x) m := by
  unfold f_X10_replace at h
  refine J_aload_n hX dX10_replace_0 rfl 0 rfl ?_
  refine J_iload_n hX dX10_replace_1 rfl 1 rfl ?_
  obtain ⟨r2, m1, h0, h⟩ := bd2_some h
  refine J_callVi (As := [.int x1]) (st := []) hX dX10_replace_2 cw_RX10_170 (by omega) (c_X10_isDisk hn ht hu hw hv h0) (ltn ltc_0 hn) lo_0 (by decide) rfl rfl rfl (Nat.le_of_ble_eq_true rfl) ?_
  clear h0
  refine J_if_eq hX 23 dX10_replace_5 (by decide) h (fun c h => ?_) (fun c h => ?_)
  · refine J_iconst hX (0 : Int32) dX10_replace_23 ic_0 ?_
    exact J_ireturn hX dX10_replace_24 h hF narrow_b0
  · refine J_aload_n hX dX10_replace_8 rfl 0 rfl ?_
    refine J_getR hX dX10_replace_9 fl_RX10_62 (ltn ltc_0 hn) lo_0 rfl (rt_0_8 _ _ _ _ _) ?_
    refine J_iload_n hX dX10_replace_12 rfl 1 rfl ?_
    obtain ⟨r4, m3, h0, h⟩ := bd2_some h
    refine J_callVi (As := [.int x1]) (st := []) hX dX10_replace_13 cw_RX10_203 (by omega) (c_X6_replaceDisk hn p_isSt_54 h0) (ltn ltc_54 hn) lo_54 (by decide) rfl rfl rfl (Nat.le_of_ble_eq_true rfl) ?_
    clear h0
    refine J_if_eq hX 23 dX10_replace_16 (by decide) h (fun c h => ?_) (fun c h => ?_)
    · refine J_iconst hX (0 : Int32) dX10_replace_23 ic_0 ?_
      exact J_ireturn hX dX10_replace_24 h hF narrow_b0
    · refine J_iconst hX (1 : Int32) dX10_replace_19 ic_1 ?_
      refine J_goto hX 24 dX10_replace_20 (by decide) ?_
      exact J_ireturn hX dX10_replace_24 h hF narrow_b1
theorem c_X10_replace {G : GG} {l : Launch} {ρ : Nat → Nat} {n : Nat} {x : Option Nat} (hn : 126 ≤ n) {t : Nat} {u : Nat} {w : Nat} {v : Nat} (ht : isTo t) (hu : isTo u) (hw : isWk w) (hv : isWk v) {x1 : Int32} {m : Mm} {rE : Int32} {mE : Mm} (h : f_X10_replace t u w v x1 m = some (rE, mE)) : CT G l yX10_replace cX10_replace 2 (some .boolean) 2 0 0 ρ n (RT t u w v x) [.ref 0, .int x1] m (some (.int rE)) (RT t u w v x) mE := ct_of_J (by decide) rfl (Nat.le_of_ble_eq_true rfl) (fun X hX e1 e2 e3 e4 hQ hr hl => t_X10_replace hX (Nat.le_refl _) hn ht hu hw hv ⟨by rw [hQ, e3, e4], hr, hl⟩ h)
theorem t_X11_replace {X : XX} {G : GG} {ρ : Nat → Nat} {n t u w v : Nat} {x : Option Nat} {d : Nat} (hX : Ok X G ρ cX11_replace 2 RX11 d) (hd0 : 2 ≤ d) (hn : 126 ≤ n) {rE : Int32} {mE : Mm} (hF : Fin' X G ρ n (some .boolean) (some (.int rE)) (RT t u w v x) mE) {x1 : Int32} {m : Mm} (h : f_X11_replace x1 m = some (rE, mE)) : J X G ρ n 2 0 [(0, .ref 78), (1, .int x1)] [] (RT t u w v x) m := by
  unfold f_X11_replace at h
  refine J_aload_n hX dX11_replace_0 rfl 0 rfl ?_
  refine J_iconst hX (0 : Int32) dX11_replace_1 ic_0 ?_
  refine J_putI hX dX11_replace_2 pl_RX11_152 (ltn ltc_78 hn) lo_78 rfl rfl rfl h (fun m1 h => ?_)
  refine J_aload_n hX dX11_replace_5 rfl 0 rfl ?_
  refine J_iload_n hX dX11_replace_6 rfl 1 rfl ?_
  obtain ⟨r3, m2, h0, h⟩ := bd2_some h
  refine J_callVi (As := [.int x1]) (st := []) hX dX11_replace_7 cw_RX11_385 (by omega) (c_X11_isDisk hn  h0) (ltn ltc_78 hn) lo_78 (by decide) rfl rfl rfl (Nat.le_of_ble_eq_true rfl) ?_
  clear h0
  refine J_if_eq hX 21 dX11_replace_10 (by decide) h (fun c h => ?_) (fun c h => ?_)
  · refine J_iconst hX (0 : Int32) dX11_replace_21 ic_0 ?_
    exact J_ireturn hX dX11_replace_22 h hF narrow_b0
  · refine J_aload_n hX dX11_replace_13 rfl 0 rfl ?_
    refine J_iload_n hX dX11_replace_14 rfl 1 rfl ?_
    obtain ⟨r5, m4, h0, h⟩ := bd2_some h
    refine J_callVi (As := [.int x1]) (st := []) hX dX11_replace_15 cw_RX11_373 (by omega) (c_X11_isUp hn  h0) (ltn ltc_78 hn) lo_78 (by decide) rfl rfl rfl (Nat.le_of_ble_eq_true rfl) ?_
    clear h0
    refine J_if_eq hX 23 dX11_replace_18 (by decide) h (fun c h => ?_) (fun c h => ?_)
    · refine J_aload_n hX dX11_replace_23 rfl 0 rfl ?_
      refine J_getR hX dX11_replace_24 fl_RX11_125 (ltn ltc_78 hn) lo_78 rfl (rt_78_50 _ _ _ _ _) ?_
      refine J_iconst hX (0 : Int32) dX11_replace_27 ic_0 ?_
      refine J_dup2 hX dX11_replace_28 rfl rfl ?_
      refine J_iaload0 hX dX11_replace_29 (ltn ltc_117 hn) lay_117 (by decide) ?_
      refine J_iconst hX (1 : Int32) dX11_replace_30 ic_1 ?_
      refine J_iload_n hX dX11_replace_31 rfl 1 rfl ?_
      refine J_ishl hX dX11_replace_32 ?_
      refine J_ior hX dX11_replace_33 ?_
      refine J_iastore0 hX dX11_replace_34 (ltn ltc_117 hn) lay_117 (by decide) h (fun m6 h => ?_)
      refine J_iconst hX (1 : Int32) dX11_replace_35 ic_1 ?_
      exact J_ireturn hX dX11_replace_36 h hF narrow_b1
    · refine J_iconst hX (0 : Int32) dX11_replace_21 ic_0 ?_
      exact J_ireturn hX dX11_replace_22 h hF narrow_b0
theorem c_X11_replace {G : GG} {l : Launch} {ρ : Nat → Nat} {n t u w v : Nat} {x : Option Nat} (hn : 126 ≤ n) {x1 : Int32} {m : Mm} {rE : Int32} {mE : Mm} (h : f_X11_replace x1 m = some (rE, mE)) : CT G l yX11_replace cX11_replace 2 (some .boolean) 2 0 0 ρ n (RT t u w v x) [.ref 78, .int x1] m (some (.int rE)) (RT t u w v x) mE := ct_of_J (by decide) rfl (Nat.le_of_ble_eq_true rfl) (fun X hX e1 e2 e3 e4 hQ hr hl => t_X11_replace hX (Nat.le_refl _) hn ⟨by rw [hQ, e3, e4], hr, hl⟩ h)
theorem t_X10_rebuild {X : XX} {G : GG} {ρ : Nat → Nat} {n : Nat} {x : Option Nat} {d : Nat} {t : Nat} {u : Nat} {w : Nat} {v : Nat} (hX : Ok X G ρ cX10_rebuild 2 RX10 d) (hd0 : 4 ≤ d) (hn : 126 ≤ n) (ht : isTo t) (hu : isTo u) (hw : isWk w) (hv : isWk v) {rE : Int32} {mE : Mm} (hF : Fin' X G ρ n (some .int) (some (.int rE)) (RT t u w v x) mE) {x1 : Int32} {m : Mm} (h : f_X10_rebuild t u w v x1 m = some (rE, mE)) : J X G ρ n 2 0 [(0, .ref 0), (1, .int x1)] [] (RT t u w v x) m := by
  unfold f_X10_rebuild at h
  refine J_iload_n hX dX10_rebuild_0 rfl 1 rfl ?_
  refine J_iconst hX (1 : Int32) dX10_rebuild_1 ic_1 ?_
  refine J_icmp_lt hX 22 dX10_rebuild_2 (by decide) h (fun c h => ?_) (fun c h => ?_)
  · refine J_iconst hX (-1 : Int32) dX10_rebuild_22 ic_m1 ?_
    exact J_ireturn hX dX10_rebuild_23 h hF rfl
  · refine J_iload_n hX dX10_rebuild_5 rfl 1 rfl ?_
    refine J_bipush hX (40 : Int32) dX10_rebuild_6 (by decide) ?_
    refine J_icmp_gt hX 22 dX10_rebuild_8 (by decide) h (fun c h => ?_) (fun c h => ?_)
    · refine J_iconst hX (-1 : Int32) dX10_rebuild_22 ic_m1 ?_
      exact J_ireturn hX dX10_rebuild_23 h hF rfl
    · refine J_aload_n hX dX10_rebuild_11 rfl 0 rfl ?_
      refine J_getR hX dX10_rebuild_12 fl_RX10_62 (ltn ltc_0 hn) lo_0 rfl (rt_0_8 _ _ _ _ _) ?_
      refine J_iload_n hX dX10_rebuild_15 rfl 1 rfl ?_
      obtain ⟨r2, m1, h0, h⟩ := bd2_some h
      refine J_callVi (As := [.int x1]) (st := []) hX dX10_rebuild_16 cw_RX10_206 (by omega) (c_X6_rebuildUnits hn p_isSt_54 h0) (ltn ltc_54 hn) lo_54 (by decide) rfl rfl rfl (Nat.le_of_ble_eq_true rfl) ?_
      clear h0
      refine J_goto hX 23 dX10_rebuild_19 (by decide) ?_
      exact J_ireturn hX dX10_rebuild_23 h hF rfl
theorem c_X10_rebuild {G : GG} {l : Launch} {ρ : Nat → Nat} {n : Nat} {x : Option Nat} (hn : 126 ≤ n) {t : Nat} {u : Nat} {w : Nat} {v : Nat} (ht : isTo t) (hu : isTo u) (hw : isWk w) (hv : isWk v) {x1 : Int32} {m : Mm} {rE : Int32} {mE : Mm} (h : f_X10_rebuild t u w v x1 m = some (rE, mE)) : CT G l yX10_rebuild cX10_rebuild 2 (some .int) 4 0 0 ρ n (RT t u w v x) [.ref 0, .int x1] m (some (.int rE)) (RT t u w v x) mE := ct_of_J (by decide) rfl (Nat.le_of_ble_eq_true rfl) (fun X hX e1 e2 e3 e4 hQ hr hl => t_X10_rebuild hX (Nat.le_refl _) hn ht hu hw hv ⟨by rw [hQ, e3, e4], hr, hl⟩ h)
theorem t_X11_rebuild {X : XX} {G : GG} {ρ : Nat → Nat} {n t u w v : Nat} {x : Option Nat} {d : Nat} (hX : Ok X G ρ cX11_rebuild 2 RX11 d) (hd0 : 3 ≤ d) (hn : 126 ≤ n) {rE : Int32} {mE : Mm} (hF : Fin' X G ρ n (some .int) (some (.int rE)) (RT t u w v x) mE) {x1 : Int32} {m : Mm} (h : f_X11_rebuild x1 m = some (rE, mE)) : J X G ρ n 2 0 [(0, .ref 78), (1, .int x1)] [] (RT t u w v x) m := by
  unfold f_X11_rebuild at h
  refine J_aload_n hX dX11_rebuild_0 rfl 0 rfl ?_
  refine J_iconst hX (0 : Int32) dX11_rebuild_1 ic_0 ?_
  refine J_putI hX dX11_rebuild_2 pl_RX11_152 (ltn ltc_78 hn) lo_78 rfl rfl rfl h (fun m1 h => ?_)
  refine J_iload_n hX dX11_rebuild_5 rfl 1 rfl ?_
  refine J_iconst hX (1 : Int32) dX11_rebuild_6 ic_1 ?_
  refine J_bipush hX (40 : Int32) dX11_rebuild_7 (by decide) ?_
  obtain ⟨r3, m2, h0, h⟩ := bd2_some h
  refine J_callSi (As := [.int x1, .int (1 : Int32), .int (40 : Int32)]) (st := []) hX dX11_rebuild_9 cw_RX11_239 (by omega) (c_X11_within hn  h0) rfl rfl (Nat.le_of_ble_eq_true rfl) ?_
  clear h0
  refine J_if_eq hX 23 dX11_rebuild_12 (by decide) h (fun c h => ?_) (fun c h => ?_)
  · refine J_iconst hX (-1 : Int32) dX11_rebuild_23 ic_m1 ?_
    exact J_ireturn hX dX11_rebuild_24 h hF rfl
  · refine J_aload_n hX dX11_rebuild_15 rfl 0 rfl ?_
    refine J_iload_n hX dX11_rebuild_16 rfl 1 rfl ?_
    obtain ⟨r5, m4, h0, h⟩ := bd2_some h
    refine J_callVi (As := [.int x1]) (st := []) hX dX11_rebuild_17 cw_RX11_412 (by omega) (c_X11_rebuilds hn  h0) (ltn ltc_78 hn) lo_78 (by decide) rfl rfl rfl (Nat.le_of_ble_eq_true rfl) ?_
    clear h0
    refine J_goto hX 24 dX11_rebuild_20 (by decide) ?_
    exact J_ireturn hX dX11_rebuild_24 h hF rfl
theorem c_X11_rebuild {G : GG} {l : Launch} {ρ : Nat → Nat} {n t u w v : Nat} {x : Option Nat} (hn : 126 ≤ n) {x1 : Int32} {m : Mm} {rE : Int32} {mE : Mm} (h : f_X11_rebuild x1 m = some (rE, mE)) : CT G l yX11_rebuild cX11_rebuild 2 (some .int) 3 0 0 ρ n (RT t u w v x) [.ref 78, .int x1] m (some (.int rE)) (RT t u w v x) mE := ct_of_J (by decide) rfl (Nat.le_of_ble_eq_true rfl) (fun X hX e1 e2 e3 e4 hQ hr hl => t_X11_rebuild hX (Nat.le_refl _) hn ⟨by rw [hQ, e3, e4], hr, hl⟩ h)
theorem t_X10_home {X : XX} {G : GG} {ρ : Nat → Nat} {n : Nat} {x : Option Nat} {d : Nat} {t : Nat} {u : Nat} {w : Nat} {v : Nat} (hX : Ok X G ρ cX10_home 2 RX10 d) (hd0 : 3 ≤ d) (hn : 126 ≤ n) (ht : isTo t) (hu : isTo u) (hw : isWk w) (hv : isWk v) {rE : Int32} {mE : Mm} (hF : Fin' X G ρ n (some .int) (some (.int rE)) (RT t u w v x) mE) {x1 : Int32} {m : Mm} (h : f_X10_home t u w v x1 m = some (rE, mE)) : J X G ρ n 2 0 [(0, .ref 0), (1, .int x1)] [] (RT t u w v x) m := by
  unfold f_X10_home at h
  refine J_iload_n hX dX10_home_0 rfl 1 rfl ?_
  refine J_iconst hX (1 : Int32) dX10_home_1 ic_1 ?_
  refine J_icmp_lt hX 22 dX10_home_2 (by decide) h (fun c h => ?_) (fun c h => ?_)
  · refine J_iconst hX (-1 : Int32) dX10_home_22 ic_m1 ?_
    exact J_ireturn hX dX10_home_23 h hF rfl
  · refine J_iload_n hX dX10_home_5 rfl 1 rfl ?_
    refine J_bipush hX (40 : Int32) dX10_home_6 (by decide) ?_
    refine J_icmp_gt hX 22 dX10_home_8 (by decide) h (fun c h => ?_) (fun c h => ?_)
    · refine J_iconst hX (-1 : Int32) dX10_home_22 ic_m1 ?_
      exact J_ireturn hX dX10_home_23 h hF rfl
    · refine J_aload_n hX dX10_home_11 rfl 0 rfl ?_
      refine J_getR hX dX10_home_12 fl_RX10_62 (ltn ltc_0 hn) lo_0 rfl (rt_0_8 _ _ _ _ _) ?_
      refine J_iload_n hX dX10_home_15 rfl 1 rfl ?_
      obtain ⟨r2, m1, h0, h⟩ := bd2_some h
      refine J_callVi (As := [.int x1]) (st := []) hX dX10_home_16 cw_RX10_209 (by omega) (c_X6_bringHome hn p_isSt_54 h0) (ltn ltc_54 hn) lo_54 (by decide) rfl rfl rfl (Nat.le_of_ble_eq_true rfl) ?_
      clear h0
      refine J_goto hX 23 dX10_home_19 (by decide) ?_
      exact J_ireturn hX dX10_home_23 h hF rfl
theorem c_X10_home {G : GG} {l : Launch} {ρ : Nat → Nat} {n : Nat} {x : Option Nat} (hn : 126 ≤ n) {t : Nat} {u : Nat} {w : Nat} {v : Nat} (ht : isTo t) (hu : isTo u) (hw : isWk w) (hv : isWk v) {x1 : Int32} {m : Mm} {rE : Int32} {mE : Mm} (h : f_X10_home t u w v x1 m = some (rE, mE)) : CT G l yX10_home cX10_home 2 (some .int) 3 0 0 ρ n (RT t u w v x) [.ref 0, .int x1] m (some (.int rE)) (RT t u w v x) mE := ct_of_J (by decide) rfl (Nat.le_of_ble_eq_true rfl) (fun X hX e1 e2 e3 e4 hQ hr hl => t_X10_home hX (Nat.le_refl _) hn ht hu hw hv ⟨by rw [hQ, e3, e4], hr, hl⟩ h)
theorem t_X11_home {X : XX} {G : GG} {ρ : Nat → Nat} {n t u w v : Nat} {x : Option Nat} {d : Nat} (hX : Ok X G ρ cX11_home 2 RX11 d) (hd0 : 3 ≤ d) (hn : 126 ≤ n) {rE : Int32} {mE : Mm} (hF : Fin' X G ρ n (some .int) (some (.int rE)) (RT t u w v x) mE) {x1 : Int32} {m : Mm} (h : f_X11_home x1 m = some (rE, mE)) : J X G ρ n 2 0 [(0, .ref 78), (1, .int x1)] [] (RT t u w v x) m := by
  unfold f_X11_home at h
  refine J_aload_n hX dX11_home_0 rfl 0 rfl ?_
  refine J_iconst hX (0 : Int32) dX11_home_1 ic_0 ?_
  refine J_putI hX dX11_home_2 pl_RX11_152 (ltn ltc_78 hn) lo_78 rfl rfl rfl h (fun m1 h => ?_)
  refine J_iload_n hX dX11_home_5 rfl 1 rfl ?_
  refine J_iconst hX (1 : Int32) dX11_home_6 ic_1 ?_
  refine J_bipush hX (40 : Int32) dX11_home_7 (by decide) ?_
  obtain ⟨r3, m2, h0, h⟩ := bd2_some h
  refine J_callSi (As := [.int x1, .int (1 : Int32), .int (40 : Int32)]) (st := []) hX dX11_home_9 cw_RX11_239 (by omega) (c_X11_within hn  h0) rfl rfl (Nat.le_of_ble_eq_true rfl) ?_
  clear h0
  refine J_if_eq hX 23 dX11_home_12 (by decide) h (fun c h => ?_) (fun c h => ?_)
  · refine J_iconst hX (-1 : Int32) dX11_home_23 ic_m1 ?_
    exact J_ireturn hX dX11_home_24 h hF rfl
  · refine J_aload_n hX dX11_home_15 rfl 0 rfl ?_
    refine J_iload_n hX dX11_home_16 rfl 1 rfl ?_
    obtain ⟨r5, m4, h0, h⟩ := bd2_some h
    refine J_callVi (As := [.int x1]) (st := []) hX dX11_home_17 cw_RX11_415 (by omega) (c_X11_goesHome hn  h0) (ltn ltc_78 hn) lo_78 (by decide) rfl rfl rfl (Nat.le_of_ble_eq_true rfl) ?_
    clear h0
    refine J_goto hX 24 dX11_home_20 (by decide) ?_
    exact J_ireturn hX dX11_home_24 h hF rfl
theorem c_X11_home {G : GG} {l : Launch} {ρ : Nat → Nat} {n t u w v : Nat} {x : Option Nat} (hn : 126 ≤ n) {x1 : Int32} {m : Mm} {rE : Int32} {mE : Mm} (h : f_X11_home x1 m = some (rE, mE)) : CT G l yX11_home cX11_home 2 (some .int) 3 0 0 ρ n (RT t u w v x) [.ref 78, .int x1] m (some (.int rE)) (RT t u w v x) mE := ct_of_J (by decide) rfl (Nat.le_of_ble_eq_true rfl) (fun X hX e1 e2 e3 e4 hQ hr hl => t_X11_home hX (Nat.le_refl _) hn ⟨by rw [hQ, e3, e4], hr, hl⟩ h)
theorem t_X10_judged_L23 {X : XX} {G : GG} {ρ : Nat → Nat} {n : Nat} {x : Option Nat} {d : Nat} {t : Nat} {u : Nat} {w : Nat} {v : Nat} (hX : Ok X G ρ cX10_judged 5 RX10 d) (hd0 : 5 ≤ d) (hn : 126 ≤ n) (ht : isTo t) (hu : isTo u) (hw : isWk w) (hv : isWk v) {rE : Int32} {mE : Mm} (hF : Fin' X G ρ n (some .int) (some (.int rE)) (RT t u w v x) mE) : ∀ (k : Nat) (v1 : Int32) (v2 : Int32) (v3 : Int32) (m : Mm), f_X10_judged_L23 t u w v k v1 v2 v3 m = some (rE, mE) → J X G ρ n 5 23 [(0, .ref 0), (1, .int v1), (2, .int v2), (3, .int v3)] [] (RT t u w v x) m := by
  intro k
  induction k with
  | zero => intro _ _ _ _ h; rw [f_X10_judged_L23] at h; cases h
  | succ k ih =>
    intro v1 v2 v3 m h
    rw [f_X10_judged_L23] at h
    refine J_iload_n hX dX10_judged_23 rfl 3 rfl ?_
    refine J_aload_n hX dX10_judged_24 rfl 0 rfl ?_
    refine J_getR hX dX10_judged_25 fl_RX10_40 (ltn ltc_0 hn) lo_0 rfl (rt_0_4 _ _ _ _ _) ?_
    refine J_getI hX dX10_judged_28 fl_RX10_105 (ltn (lt_isWk_0 hw) hn) (lo_isWk_0 hw) rfl ?_
    refine J_icmp_ge hX 88 dX10_judged_31 (by decide) h (fun c h => ?_) (fun c h => ?_)
    · refine J_aload_n hX dX10_judged_34 rfl 0 rfl ?_
      refine J_getR hX dX10_judged_35 fl_RX10_66 (ltn ltc_0 hn) lo_0 rfl (rt_0_9 _ _ _ _ _) ?_
      refine J_aload_n hX dX10_judged_38 rfl 0 rfl ?_
      refine J_getR hX dX10_judged_39 fl_RX10_40 (ltn ltc_0 hn) lo_0 rfl (rt_0_4 _ _ _ _ _) ?_
      refine J_getR hX dX10_judged_42 fl_RX10_212 (ltn (lt_isWk_0 hw) hn) (lo_isWk_0 hw) rfl (rt_isWk_0_1 _ _ _ _ _ hw) ?_
      refine J_iload_n hX dX10_judged_45 rfl 3 rfl ?_
      refine J_iaload hX dX10_judged_46 (ltn (lt_isWk_1 hw) hn) (lay_isWk_1 hw) h (fun h => ?_)
      refine J_aload_n hX dX10_judged_47 rfl 0 rfl ?_
      refine J_getR hX dX10_judged_48 fl_RX10_40 (ltn ltc_0 hn) lo_0 rfl (rt_0_4 _ _ _ _ _) ?_
      refine J_getR hX dX10_judged_51 fl_RX10_215 (ltn (lt_isWk_0 hw) hn) (lo_isWk_0 hw) rfl (rt_isWk_0_2 _ _ _ _ _ hw) ?_
      refine J_iload_n hX dX10_judged_54 rfl 3 rfl ?_
      refine J_iaload hX dX10_judged_55 (ltn (lt_isWk_2 hw) hn) (lay_isWk_2 hw) h (fun h => ?_)
      refine J_aload_n hX dX10_judged_56 rfl 0 rfl ?_
      refine J_getR hX dX10_judged_57 fl_RX10_40 (ltn ltc_0 hn) lo_0 rfl (rt_0_4 _ _ _ _ _) ?_
      refine J_getR hX dX10_judged_60 fl_RX10_218 (ltn (lt_isWk_0 hw) hn) (lo_isWk_0 hw) rfl (rt_isWk_0_3 _ _ _ _ _ hw) ?_
      refine J_iload_n hX dX10_judged_63 rfl 3 rfl ?_
      refine J_iaload hX dX10_judged_64 (ltn (lt_isWk_3 hw) hn) (lay_isWk_3 hw) h (fun h => ?_)
      obtain ⟨r7, m6, h0, h⟩ := bd2_some h
      refine J_callVi (As := [.int (gI m (w + 1) (ix v3)), .int (gI m (w + 2) (ix v3)), .int (gI m (w + 3) (ix v3))]) (st := []) hX dX10_judged_65 cw_RX10_221 (by omega) (c_X6_perform hn p_isSt_59 h0) (ltn ltc_59 hn) lo_59 (by decide) rfl rfl rfl (Nat.le_of_ble_eq_true rfl) ?_
      clear h0
      refine J_istore hX [(4, .int r7), (0, .ref 0), (1, .int v1), (2, .int v2), (3, .int v3)] dX10_judged_68 (by decide) rfl ?_
      refine J_iload hX dX10_judged_70 0 rfl ?_
      refine J_if_ne hX 82 dX10_judged_72 (by decide) h (fun c h => ?_) (fun c h => ?_)
      · refine J_iload_n hX dX10_judged_75 rfl 3 rfl ?_
        refine J_iconst hX (-1 : Int32) dX10_judged_76 ic_m1 ?_
        refine J_icmp_ne hX 82 dX10_judged_77 (by decide) h (fun c h => ?_) (fun c h => ?_)
        · refine J_iload_n hX dX10_judged_80 rfl 4 rfl ?_
          refine J_istore_n hX [(2, .int v3), (4, .int r7), (0, .ref 0), (1, .int v1), (3, .int v3)] dX10_judged_81 rfl (by decide) rfl ?_
          refine J_iinc hX (v3 + (1 : Int32)) [(3, .int (v3 + (1 : Int32))), (2, .int v3), (4, .int r7), (0, .ref 0), (1, .int v1)] dX10_judged_82 4 rfl (congrArg (fun z => v3 + z) ic_1) (by decide) rfl ?_
          refine J_goto hX 23 dX10_judged_85 (by decide) ?_
          refine J_sub [(0, .ref 0), (1, .int v1), (2, .int v3), (3, .int (v3 + (1 : Int32)))] [3, 4, 1, 0] rfl ?_
          exact ih v1 v3 (v3 + (1 : Int32)) m6 h
        · refine J_iinc hX (v3 + (1 : Int32)) [(3, .int (v3 + (1 : Int32))), (4, .int r7), (0, .ref 0), (1, .int v1), (2, .int v2)] dX10_judged_82 4 rfl (congrArg (fun z => v3 + z) ic_1) (by decide) rfl ?_
          refine J_goto hX 23 dX10_judged_85 (by decide) ?_
          refine J_sub [(0, .ref 0), (1, .int v1), (2, .int v2), (3, .int (v3 + (1 : Int32)))] [2, 3, 4, 0] rfl ?_
          exact ih v1 v2 (v3 + (1 : Int32)) m6 h
      · refine J_iinc hX (v3 + (1 : Int32)) [(3, .int (v3 + (1 : Int32))), (4, .int r7), (0, .ref 0), (1, .int v1), (2, .int v2)] dX10_judged_82 4 rfl (congrArg (fun z => v3 + z) ic_1) (by decide) rfl ?_
        refine J_goto hX 23 dX10_judged_85 (by decide) ?_
        refine J_sub [(0, .ref 0), (1, .int v1), (2, .int v2), (3, .int (v3 + (1 : Int32)))] [2, 3, 4, 0] rfl ?_
        exact ih v1 v2 (v3 + (1 : Int32)) m6 h
    · refine J_iload_n hX dX10_judged_88 rfl 1 rfl ?_
      refine J_if_ne hX 96 dX10_judged_89 (by decide) h (fun c h => ?_) (fun c h => ?_)
      · refine J_iload_n hX dX10_judged_92 rfl 2 rfl ?_
        refine J_goto hX 118 dX10_judged_93 (by decide) ?_
        exact J_ireturn hX dX10_judged_118 h hF rfl
      · refine J_iload_n hX dX10_judged_96 rfl 1 rfl ?_
        refine J_iconst hX (1 : Int32) dX10_judged_97 ic_1 ?_
        refine J_icmp_ne hX 111 dX10_judged_98 (by decide) h (fun c h => ?_) (fun c h => ?_)
        · refine J_aload_n hX dX10_judged_101 rfl 0 rfl ?_
          refine J_getR hX dX10_judged_102 fl_RX10_66 (ltn ltc_0 hn) lo_0 rfl (rt_0_9 _ _ _ _ _) ?_
          obtain ⟨r5, m4, h0, h⟩ := bd2_some h
          refine J_callVi (As := []) (st := []) hX dX10_judged_105 cw_RX10_225 (by omega) (c_X6_allLoads hn p_isSt_59 h0) (ltn ltc_59 hn) lo_59 (by decide) rfl rfl rfl (Nat.le_of_ble_eq_true rfl) ?_
          clear h0
          refine J_goto hX 118 dX10_judged_108 (by decide) ?_
          exact J_ireturn hX dX10_judged_118 h hF rfl
        · refine J_aload_n hX dX10_judged_111 rfl 0 rfl ?_
          refine J_getR hX dX10_judged_112 fl_RX10_66 (ltn ltc_0 hn) lo_0 rfl (rt_0_9 _ _ _ _ _) ?_
          obtain ⟨r3, m2, h0, h⟩ := bd2_some h
          refine J_callVi (As := []) (st := []) hX dX10_judged_115 cw_RX10_229 (by omega) (c_X6_deadStripes hn p_isSt_59 h0) (ltn ltc_59 hn) lo_59 (by decide) rfl rfl rfl (Nat.le_of_ble_eq_true rfl) ?_
          clear h0
          exact J_ireturn hX dX10_judged_118 h hF rfl
theorem t_X10_judged {X : XX} {G : GG} {ρ : Nat → Nat} {n : Nat} {x : Option Nat} {d : Nat} {t : Nat} {u : Nat} {w : Nat} {v : Nat} (hX : Ok X G ρ cX10_judged 5 RX10 d) (hd0 : 5 ≤ d) (hn : 126 ≤ n) (ht : isTo t) (hu : isTo u) (hw : isWk w) (hv : isWk v) {rE : Int32} {mE : Mm} (hF : Fin' X G ρ n (some .int) (some (.int rE)) (RT t u w v x) mE) {x1 : Int32} {m : Mm} (h : f_X10_judged t u w v x1 m = some (rE, mE)) : J X G ρ n 5 0 [(0, .ref 0), (1, .int x1)] [] (RT t u w v x) m := by
  unfold f_X10_judged at h
  refine J_iload_n hX dX10_judged_0 rfl 1 rfl ?_
  refine J_if_lt hX 9 dX10_judged_1 (by decide) h (fun c h => ?_) (fun c h => ?_)
  · refine J_bipush hX (-2 : Int32) dX10_judged_9 (by decide) ?_
    exact J_ireturn hX dX10_judged_11 h hF rfl
  · refine J_iload_n hX dX10_judged_4 rfl 1 rfl ?_
    refine J_iconst hX (2 : Int32) dX10_judged_5 ic_2 ?_
    refine J_icmp_le hX 12 dX10_judged_6 (by decide) h (fun c h => ?_) (fun c h => ?_)
    · refine J_bipush hX (-2 : Int32) dX10_judged_9 (by decide) ?_
      exact J_ireturn hX dX10_judged_11 h hF rfl
    · refine J_aload_n hX dX10_judged_12 rfl 0 rfl ?_
      refine J_getR hX dX10_judged_13 fl_RX10_66 (ltn ltc_0 hn) lo_0 rfl (rt_0_9 _ _ _ _ _) ?_
      obtain ⟨m1, h0, h⟩ := bd1_some h
      refine J_callVv (As := []) (st := []) hX dX10_judged_16 cw_RX10_106 (by omega) (c_X6_begin hn p_isSt_59 h0) (ltn ltc_59 hn) lo_59 (by decide) rfl rfl rfl (Nat.le_of_ble_eq_true rfl) ?_
      clear h0
      refine J_iconst hX (-1 : Int32) dX10_judged_19 ic_m1 ?_
      refine J_istore_n hX [(2, .int (-1 : Int32)), (0, .ref 0), (1, .int x1)] dX10_judged_20 rfl (by decide) rfl ?_
      refine J_iconst hX (0 : Int32) dX10_judged_21 ic_0 ?_
      refine J_istore_n hX [(3, .int (0 : Int32)), (2, .int (-1 : Int32)), (0, .ref 0), (1, .int x1)] dX10_judged_22 rfl (by decide) rfl ?_
      refine J_sub [(0, .ref 0), (1, .int x1), (2, .int (-1 : Int32)), (3, .int (0 : Int32))] [2, 3, 1, 0] rfl ?_
      exact t_X10_judged_L23 hX hd0 hn ht hu hw hv hF FU x1 (-1 : Int32) (0 : Int32)  m1 h
theorem c_X10_judged {G : GG} {l : Launch} {ρ : Nat → Nat} {n : Nat} {x : Option Nat} (hn : 126 ≤ n) {t : Nat} {u : Nat} {w : Nat} {v : Nat} (ht : isTo t) (hu : isTo u) (hw : isWk w) (hv : isWk v) {x1 : Int32} {m : Mm} {rE : Int32} {mE : Mm} (h : f_X10_judged t u w v x1 m = some (rE, mE)) : CT G l yX10_judged cX10_judged 5 (some .int) 5 0 0 ρ n (RT t u w v x) [.ref 0, .int x1] m (some (.int rE)) (RT t u w v x) mE := ct_of_J (by decide) rfl (Nat.le_of_ble_eq_true rfl) (fun X hX e1 e2 e3 e4 hQ hr hl => t_X10_judged hX (Nat.le_refl _) hn ht hu hw hv ⟨by rw [hQ, e3, e4], hr, hl⟩ h)
theorem t_X11_judged_L38 {X : XX} {G : GG} {ρ : Nat → Nat} {n t u w v : Nat} {x : Option Nat} {d : Nat} (hX : Ok X G ρ cX11_judged 5 RX11 d) (hd0 : 4 ≤ d) (hn : 126 ≤ n) {rE : Int32} {mE : Mm} (hF : Fin' X G ρ n (some .int) (some (.int rE)) (RT t u w v x) mE) : ∀ (k : Nat) (v1 : Int32) (v2 : Int32) (v3 : Int32) (m : Mm), f_X11_judged_L38 k v1 v2 v3 m = some (rE, mE) → J X G ρ n 5 38 [(0, .ref 78), (1, .int v1), (2, .int v2), (3, .int v3)] [] (RT t u w v x) m := by
  intro k
  induction k with
  | zero => intro _ _ _ _ h; rw [f_X11_judged_L38] at h; cases h
  | succ k ih =>
    intro v1 v2 v3 m h
    rw [f_X11_judged_L38] at h
    refine J_iload_n hX dX11_judged_38 rfl 3 rfl ?_
    refine J_aload_n hX dX11_judged_39 rfl 0 rfl ?_
    refine J_getR hX dX11_judged_40 fl_RX11_104 (ltn ltc_78 hn) lo_78 rfl (rt_78_43 _ _ _ _ _) ?_
    refine J_iconst hX (0 : Int32) dX11_judged_43 ic_0 ?_
    refine J_iaload0 hX dX11_judged_44 (ltn ltc_110 hn) lay_110 (by decide) ?_
    refine J_icmp_ge hX 85 dX11_judged_45 (by decide) h (fun c h => ?_) (fun c h => ?_)
    · refine J_aload_n hX dX11_judged_48 rfl 0 rfl ?_
      refine J_aload_n hX dX11_judged_49 rfl 0 rfl ?_
      refine J_getR hX dX11_judged_50 fl_RX11_107 (ltn ltc_78 hn) lo_78 rfl (rt_78_44 _ _ _ _ _) ?_
      refine J_iload_n hX dX11_judged_53 rfl 3 rfl ?_
      refine J_iaload hX dX11_judged_54 (ltn ltc_111 hn) lay_111 h (fun h => ?_)
      refine J_aload_n hX dX11_judged_55 rfl 0 rfl ?_
      refine J_getR hX dX11_judged_56 fl_RX11_110 (ltn ltc_78 hn) lo_78 rfl (rt_78_45 _ _ _ _ _) ?_
      refine J_iload_n hX dX11_judged_59 rfl 3 rfl ?_
      refine J_iaload hX dX11_judged_60 (ltn ltc_112 hn) lay_112 h (fun h => ?_)
      refine J_aload_n hX dX11_judged_61 rfl 0 rfl ?_
      refine J_getR hX dX11_judged_62 fl_RX11_113 (ltn ltc_78 hn) lo_78 rfl (rt_78_46 _ _ _ _ _) ?_
      refine J_iload_n hX dX11_judged_65 rfl 3 rfl ?_
      refine J_iaload hX dX11_judged_66 (ltn ltc_113 hn) lay_113 h (fun h => ?_)
      obtain ⟨r12, m11, h0, h⟩ := bd2_some h
      refine J_callVi (As := [.int (gI m 111 (ix v3)), .int (gI m 112 (ix v3)), .int (gI m 113 (ix v3))]) (st := []) hX dX11_judged_67 cw_RX11_422 (by omega) (c_X11_isDone hn  h0) (ltn ltc_78 hn) lo_78 (by decide) rfl rfl rfl (Nat.le_of_ble_eq_true rfl) ?_
      clear h0
      refine J_if_ne hX 79 dX11_judged_70 (by decide) h (fun c h => ?_) (fun c h => ?_)
      · refine J_iload_n hX dX11_judged_73 rfl 2 rfl ?_
        refine J_if_ge hX 79 dX11_judged_74 (by decide) h (fun c h => ?_) (fun c h => ?_)
        · refine J_iload_n hX dX11_judged_77 rfl 3 rfl ?_
          refine J_istore_n hX [(2, .int v3), (0, .ref 78), (1, .int v1), (3, .int v3)] dX11_judged_78 rfl (by decide) rfl ?_
          refine J_iinc hX (v3 + (1 : Int32)) [(3, .int (v3 + (1 : Int32))), (2, .int v3), (0, .ref 78), (1, .int v1)] dX11_judged_79 3 rfl (congrArg (fun z => v3 + z) ic_1) (by decide) rfl ?_
          refine J_goto hX 38 dX11_judged_82 (by decide) ?_
          refine J_sub [(0, .ref 78), (1, .int v1), (2, .int v3), (3, .int (v3 + (1 : Int32)))] [2, 3, 1, 0] rfl ?_
          exact ih v1 v3 (v3 + (1 : Int32)) m11 h
        · refine J_iinc hX (v3 + (1 : Int32)) [(3, .int (v3 + (1 : Int32))), (0, .ref 78), (1, .int v1), (2, .int v2)] dX11_judged_79 3 rfl (congrArg (fun z => v3 + z) ic_1) (by decide) rfl ?_
          refine J_goto hX 38 dX11_judged_82 (by decide) ?_
          refine J_sub [(0, .ref 78), (1, .int v1), (2, .int v2), (3, .int (v3 + (1 : Int32)))] [1, 2, 3, 0] rfl ?_
          exact ih v1 v2 (v3 + (1 : Int32)) m11 h
      · refine J_iinc hX (v3 + (1 : Int32)) [(3, .int (v3 + (1 : Int32))), (0, .ref 78), (1, .int v1), (2, .int v2)] dX11_judged_79 3 rfl (congrArg (fun z => v3 + z) ic_1) (by decide) rfl ?_
        refine J_goto hX 38 dX11_judged_82 (by decide) ?_
        refine J_sub [(0, .ref 78), (1, .int v1), (2, .int v2), (3, .int (v3 + (1 : Int32)))] [1, 2, 3, 0] rfl ?_
        exact ih v1 v2 (v3 + (1 : Int32)) m11 h
    · refine J_aload_n hX dX11_judged_85 rfl 0 rfl ?_
      obtain ⟨r7, m6, h0, h⟩ := bd2_some h
      refine J_callVi (As := []) (st := []) hX dX11_judged_86 cw_RX11_425 (by omega) (c_X11_allLoads hn  h0) (ltn ltc_78 hn) lo_78 (by decide) rfl rfl rfl (Nat.le_of_ble_eq_true rfl) ?_
      clear h0
      refine J_istore_n hX [(3, .int r7), (0, .ref 78), (1, .int v1), (2, .int v2)] dX11_judged_89 rfl (by decide) rfl ?_
      refine J_aload_n hX dX11_judged_90 rfl 1 rfl ?_
      obtain ⟨r9, m8, h0, h⟩ := bd2_some h
      refine J_callVi (As := []) (st := []) hX dX11_judged_91 cw_RX11_428 (by omega) (c_X11_deadOnes hn  h0) (ltn ltc_78 hn) lo_78 (by decide) rfl rfl rfl (Nat.le_of_ble_eq_true rfl) ?_
      clear h0
      refine J_istore hX [(4, .int r9), (3, .int r7), (0, .ref 78), (1, .int v1), (2, .int v2)] dX11_judged_94 (by decide) rfl ?_
      refine J_aload_n hX dX11_judged_96 rfl 2 rfl ?_
      refine J_getR hX dX11_judged_97 fl_RX11_128 (ltn ltc_78 hn) lo_78 rfl (rt_78_51 _ _ _ _ _) ?_
      refine J_iconst hX (0 : Int32) dX11_judged_100 ic_0 ?_
      refine J_aload_n hX dX11_judged_101 rfl 2 rfl ?_
      refine J_getR hX dX11_judged_102 fl_RX11_125 (ltn ltc_78 hn) lo_78 rfl (rt_78_50 _ _ _ _ _) ?_
      refine J_iconst hX (0 : Int32) dX11_judged_105 ic_0 ?_
      obtain ⟨m10, h0, h⟩ := bd1_some h
      refine J_callSv (As := [.ref 118, .int (0 : Int32), .ref 117, .int (0 : Int32)]) (st := []) hX dX11_judged_106 cw_RX11_418 (by omega) (c_X11_copies hn p_isIa_118 p_isIa_117 h0) rfl rfl (Nat.le_of_ble_eq_true rfl) ?_
      clear h0
      refine J_iload_n hX dX11_judged_109 rfl 3 rfl ?_
      refine J_if_ne hX 117 dX11_judged_110 (by decide) h (fun c h => ?_) (fun c h => ?_)
      · refine J_iload_n hX dX11_judged_113 rfl 4 rfl ?_
        refine J_goto hX 128 dX11_judged_114 (by decide) ?_
        exact J_ireturn hX dX11_judged_128 h hF rfl
      · refine J_iload_n hX dX11_judged_117 rfl 3 rfl ?_
        refine J_iconst hX (1 : Int32) dX11_judged_118 ic_1 ?_
        refine J_icmp_ne hX 126 dX11_judged_119 (by decide) h (fun c h => ?_) (fun c h => ?_)
        · refine J_iload_n hX dX11_judged_122 rfl 1 rfl ?_
          refine J_goto hX 128 dX11_judged_123 (by decide) ?_
          exact J_ireturn hX dX11_judged_128 h hF rfl
        · refine J_iload hX dX11_judged_126 0 rfl ?_
          exact J_ireturn hX dX11_judged_128 h hF rfl
theorem t_X11_judged {X : XX} {G : GG} {ρ : Nat → Nat} {n t u w v : Nat} {x : Option Nat} {d : Nat} (hX : Ok X G ρ cX11_judged 5 RX11 d) (hd0 : 4 ≤ d) (hn : 126 ≤ n) {rE : Int32} {mE : Mm} (hF : Fin' X G ρ n (some .int) (some (.int rE)) (RT t u w v x) mE) {x1 : Int32} {m : Mm} (h : f_X11_judged x1 m = some (rE, mE)) : J X G ρ n 5 0 [(0, .ref 78), (1, .int x1)] [] (RT t u w v x) m := by
  unfold f_X11_judged at h
  refine J_aload_n hX dX11_judged_0 rfl 0 rfl ?_
  refine J_iconst hX (0 : Int32) dX11_judged_1 ic_0 ?_
  refine J_putI hX dX11_judged_2 pl_RX11_152 (ltn ltc_78 hn) lo_78 rfl rfl rfl h (fun m1 h => ?_)
  refine J_iload_n hX dX11_judged_5 rfl 1 rfl ?_
  refine J_iconst hX (0 : Int32) dX11_judged_6 ic_0 ?_
  refine J_iconst hX (2 : Int32) dX11_judged_7 ic_2 ?_
  obtain ⟨r3, m2, h0, h⟩ := bd2_some h
  refine J_callSi (As := [.int x1, .int (0 : Int32), .int (2 : Int32)]) (st := []) hX dX11_judged_8 cw_RX11_239 (by omega) (c_X11_within hn  h0) rfl rfl (Nat.le_of_ble_eq_true rfl) ?_
  clear h0
  refine J_if_ne hX 17 dX11_judged_11 (by decide) h (fun c h => ?_) (fun c h => ?_)
  · refine J_bipush hX (-2 : Int32) dX11_judged_14 (by decide) ?_
    exact J_ireturn hX dX11_judged_16 h hF rfl
  · refine J_aload_n hX dX11_judged_17 rfl 0 rfl ?_
    refine J_getR hX dX11_judged_18 fl_RX11_125 (ltn ltc_78 hn) lo_78 rfl (rt_78_50 _ _ _ _ _) ?_
    refine J_iconst hX (0 : Int32) dX11_judged_21 ic_0 ?_
    refine J_aload_n hX dX11_judged_22 rfl 0 rfl ?_
    refine J_getR hX dX11_judged_23 fl_RX11_128 (ltn ltc_78 hn) lo_78 rfl (rt_78_51 _ _ _ _ _) ?_
    refine J_iconst hX (0 : Int32) dX11_judged_26 ic_0 ?_
    obtain ⟨m4, h0, h⟩ := bd1_some h
    refine J_callSv (As := [.ref 117, .int (0 : Int32), .ref 118, .int (0 : Int32)]) (st := []) hX dX11_judged_27 cw_RX11_418 (by omega) (c_X11_copies hn p_isIa_117 p_isIa_118 h0) rfl rfl (Nat.le_of_ble_eq_true rfl) ?_
    clear h0
    refine J_aload_n hX dX11_judged_30 rfl 0 rfl ?_
    obtain ⟨m5, h0, h⟩ := bd1_some h
    refine J_callVv (As := []) (st := []) hX dX11_judged_31 cw_RX11_149 (by omega) (c_X11_fresh0 hn  h0) (ltn ltc_78 hn) lo_78 (by decide) rfl rfl rfl (Nat.le_of_ble_eq_true rfl) ?_
    clear h0
    refine J_iconst hX (-1 : Int32) dX11_judged_34 ic_m1 ?_
    refine J_istore_n hX [(2, .int (-1 : Int32)), (0, .ref 78), (1, .int x1)] dX11_judged_35 rfl (by decide) rfl ?_
    refine J_iconst hX (0 : Int32) dX11_judged_36 ic_0 ?_
    refine J_istore_n hX [(3, .int (0 : Int32)), (2, .int (-1 : Int32)), (0, .ref 78), (1, .int x1)] dX11_judged_37 rfl (by decide) rfl ?_
    refine J_sub [(0, .ref 78), (1, .int x1), (2, .int (-1 : Int32)), (3, .int (0 : Int32))] [2, 3, 1, 0] rfl ?_
    exact t_X11_judged_L38 hX hd0 hn hF FU x1 (-1 : Int32) (0 : Int32)  m5 h
theorem c_X11_judged {G : GG} {l : Launch} {ρ : Nat → Nat} {n t u w v : Nat} {x : Option Nat} (hn : 126 ≤ n) {x1 : Int32} {m : Mm} {rE : Int32} {mE : Mm} (h : f_X11_judged x1 m = some (rE, mE)) : CT G l yX11_judged cX11_judged 5 (some .int) 4 0 0 ρ n (RT t u w v x) [.ref 78, .int x1] m (some (.int rE)) (RT t u w v x) mE := ct_of_J (by decide) rfl (Nat.le_of_ble_eq_true rfl) (fun X hX e1 e2 e3 e4 hQ hr hl => t_X11_judged hX (Nat.le_refl _) hn ⟨by rw [hQ, e3, e4], hr, hl⟩ h)
theorem t_X4_shared_L14 {X : XX} {G : GG} {ρ : Nat → Nat} {n t u w v : Nat} {x : Option Nat} {d : Nat} {a : Nat} (hX : Ok X G ρ cX4_shared 6 RX4 d) (hd0 : 0 ≤ d) (hn : 126 ≤ n) (ha : isLa a) {rE : Int32} {mE : Mm} (hF : Fin' X G ρ n (some .int) (some (.int rE)) (RT t u w v x) mE) : ∀ (k : Nat) (v3 : Int32) (v4 : Int32) (v5 : Int32) (m : Mm), f_X4_shared_L14 a k v3 v4 v5 m = some (rE, mE) → J X G ρ n 6 14 [(0, .ref a), (3, .int v3), (4, .int v4), (5, .int v5)] [] (RT t u w v x) m := by
  intro k
  induction k with
  | zero => intro _ _ _ _ h; rw [f_X4_shared_L14] at h; cases h
  | succ k ih =>
    intro v3 v4 v5 m h
    rw [f_X4_shared_L14] at h
    refine J_iload hX dX4_shared_14 3 rfl ?_
    refine J_aload_n hX dX4_shared_16 rfl 0 rfl ?_
    refine J_getI hX dX4_shared_17 fl_RX4_72 (ltn (lt_isLa_0 ha) hn) (lo_isLa_0 ha) rfl ?_
    refine J_icmp_ge hX 45 dX4_shared_20 (by decide) h (fun c h => ?_) (fun c h => ?_)
    · refine J_aload_n hX dX4_shared_23 rfl 0 rfl ?_
      refine J_getR hX dX4_shared_24 fl_RX4_27 (ltn (lt_isLa_0 ha) hn) (lo_isLa_0 ha) rfl (rt_isLa_0_8 _ _ _ _ _ ha) ?_
      refine J_iload hX dX4_shared_27 3 rfl ?_
      refine J_iaload hX dX4_shared_29 (ltn (lt_isLa_6 ha) hn) (lay_isLa_6 ha) h (fun h => ?_)
      refine J_iload_n hX dX4_shared_30 rfl 1 rfl ?_
      refine J_iand hX dX4_shared_31 ?_
      refine J_iload_n hX dX4_shared_32 rfl 1 rfl ?_
      refine J_icmp_ne hX 39 dX4_shared_33 (by decide) h (fun c h => ?_) (fun c h => ?_)
      · refine J_iinc hX (v4 + (1 : Int32)) [(4, .int (v4 + (1 : Int32))), (0, .ref a), (3, .int v3), (5, .int v5)] dX4_shared_36 2 rfl (congrArg (fun z => v4 + z) ic_1) (by decide) rfl ?_
        refine J_iinc hX (v5 + (1 : Int32)) [(5, .int (v5 + (1 : Int32))), (4, .int (v4 + (1 : Int32))), (0, .ref a), (3, .int v3)] dX4_shared_39 3 rfl (congrArg (fun z => v5 + z) ic_1) (by decide) rfl ?_
        refine J_goto hX 14 dX4_shared_42 (by decide) ?_
        refine J_sub [(0, .ref a), (3, .int v3), (4, .int (v4 + (1 : Int32))), (5, .int (v5 + (1 : Int32)))] [2, 3, 1, 0] rfl ?_
        exact ih v3 (v4 + (1 : Int32)) (v5 + (1 : Int32)) m h
      · refine J_iinc hX (v5 + (1 : Int32)) [(5, .int (v5 + (1 : Int32))), (0, .ref a), (3, .int v3), (4, .int v4)] dX4_shared_39 3 rfl (congrArg (fun z => v5 + z) ic_1) (by decide) rfl ?_
        refine J_goto hX 14 dX4_shared_42 (by decide) ?_
        refine J_sub [(0, .ref a), (3, .int v3), (4, .int v4), (5, .int (v5 + (1 : Int32)))] [1, 2, 3, 0] rfl ?_
        exact ih v3 v4 (v5 + (1 : Int32)) m h
    · refine J_iload hX dX4_shared_45 2 rfl ?_
      exact J_ireturn hX dX4_shared_47 h hF rfl
theorem t_X4_shared {X : XX} {G : GG} {ρ : Nat → Nat} {n t u w v : Nat} {x : Option Nat} {d : Nat} {a : Nat} (hX : Ok X G ρ cX4_shared 6 RX4 d) (hd0 : 0 ≤ d) (hn : 126 ≤ n) (ha : isLa a) {rE : Int32} {mE : Mm} (hF : Fin' X G ρ n (some .int) (some (.int rE)) (RT t u w v x) mE) {x1 : Int32} {x2 : Int32} {m : Mm} (h : f_X4_shared a x1 x2 m = some (rE, mE)) : J X G ρ n 6 0 [(0, .ref a), (1, .int x1), (2, .int x2)] [] (RT t u w v x) m := by
  unfold f_X4_shared at h
  refine J_iconst hX (1 : Int32) dX4_shared_0 ic_1 ?_
  refine J_iload_n hX dX4_shared_1 rfl 1 rfl ?_
  refine J_ishl hX dX4_shared_2 ?_
  refine J_iconst hX (1 : Int32) dX4_shared_3 ic_1 ?_
  refine J_iload_n hX dX4_shared_4 rfl 2 rfl ?_
  refine J_ishl hX dX4_shared_5 ?_
  refine J_ior hX dX4_shared_6 ?_
  refine J_istore_n hX [(3, .int (((1 : Int32) <<< (x1 &&& 31)) ||| ((1 : Int32) <<< (x2 &&& 31)))), (0, .ref a), (1, .int x1), (2, .int x2)] dX4_shared_7 rfl (by decide) rfl ?_
  refine J_iconst hX (0 : Int32) dX4_shared_8 ic_0 ?_
  refine J_istore hX [(4, .int (0 : Int32)), (3, .int (((1 : Int32) <<< (x1 &&& 31)) ||| ((1 : Int32) <<< (x2 &&& 31)))), (0, .ref a), (1, .int x1), (2, .int x2)] dX4_shared_9 (by decide) rfl ?_
  refine J_iconst hX (0 : Int32) dX4_shared_11 ic_0 ?_
  refine J_istore hX [(5, .int (0 : Int32)), (4, .int (0 : Int32)), (3, .int (((1 : Int32) <<< (x1 &&& 31)) ||| ((1 : Int32) <<< (x2 &&& 31)))), (0, .ref a), (1, .int x1), (2, .int x2)] dX4_shared_12 (by decide) rfl ?_
  refine J_sub [(0, .ref a), (3, .int (((1 : Int32) <<< (x1 &&& 31)) ||| ((1 : Int32) <<< (x2 &&& 31)))), (4, .int (0 : Int32)), (5, .int (0 : Int32))] [3, 2, 1, 0] rfl ?_
  exact t_X4_shared_L14 hX hd0 hn ha hF FU (((1 : Int32) <<< (x1 &&& 31)) ||| ((1 : Int32) <<< (x2 &&& 31))) (0 : Int32) (0 : Int32)  m h
theorem c_X4_shared {G : GG} {l : Launch} {ρ : Nat → Nat} {n t u w v : Nat} {x : Option Nat} (hn : 126 ≤ n) {a : Nat} (ha : isLa a) {x1 : Int32} {x2 : Int32} {m : Mm} {rE : Int32} {mE : Mm} (h : f_X4_shared a x1 x2 m = some (rE, mE)) : CT G l yX4_shared cX4_shared 6 (some .int) 0 0 0 ρ n (RT t u w v x) [.ref a, .int x1, .int x2] m (some (.int rE)) (RT t u w v x) mE := ct_of_J (by decide) rfl (Nat.le_of_ble_eq_true rfl) (fun X hX e1 e2 e3 e4 hQ hr hl => t_X4_shared hX (Nat.le_refl _) hn ha ⟨by rw [hQ, e3, e4], hr, hl⟩ h)
theorem t_X10_pairs {X : XX} {G : GG} {ρ : Nat → Nat} {n : Nat} {x : Option Nat} {d : Nat} {t : Nat} {u : Nat} {w : Nat} {v : Nat} (hX : Ok X G ρ cX10_pairs 3 RX10 d) (hd0 : 1 ≤ d) (hn : 126 ≤ n) (ht : isTo t) (hu : isTo u) (hw : isWk w) (hv : isWk v) {rE : Int32} {mE : Mm} (hF : Fin' X G ρ n (some .int) (some (.int rE)) (RT t u w v x) mE) {x1 : Int32} {x2 : Int32} {m : Mm} (h : f_X10_pairs t u w v x1 x2 m = some (rE, mE)) : J X G ρ n 3 0 [(0, .ref 0), (1, .int x1), (2, .int x2)] [] (RT t u w v x) m := by
  unfold f_X10_pairs at h
  refine J_aload_n hX dX10_pairs_0 rfl 0 rfl ?_
  refine J_iload_n hX dX10_pairs_1 rfl 1 rfl ?_
  obtain ⟨r2, m1, h0, h⟩ := bd2_some h
  refine J_callVi (As := [.int x1]) (st := []) hX dX10_pairs_2 cw_RX10_170 (by omega) (c_X10_isDisk hn ht hu hw hv h0) (ltn ltc_0 hn) lo_0 (by decide) rfl rfl rfl (Nat.le_of_ble_eq_true rfl) ?_
  clear h0
  refine J_if_eq hX 33 dX10_pairs_5 (by decide) h (fun c h => ?_) (fun c h => ?_)
  · refine J_iconst hX (-1 : Int32) dX10_pairs_33 ic_m1 ?_
    exact J_ireturn hX dX10_pairs_34 h hF rfl
  · refine J_aload_n hX dX10_pairs_8 rfl 0 rfl ?_
    refine J_iload_n hX dX10_pairs_9 rfl 2 rfl ?_
    obtain ⟨r4, m3, h0, h⟩ := bd2_some h
    refine J_callVi (As := [.int x2]) (st := []) hX dX10_pairs_10 cw_RX10_170 (by omega) (c_X10_isDisk hn ht hu hw hv h0) (ltn ltc_0 hn) lo_0 (by decide) rfl rfl rfl (Nat.le_of_ble_eq_true rfl) ?_
    clear h0
    refine J_if_eq hX 33 dX10_pairs_13 (by decide) h (fun c h => ?_) (fun c h => ?_)
    · refine J_iconst hX (-1 : Int32) dX10_pairs_33 ic_m1 ?_
      exact J_ireturn hX dX10_pairs_34 h hF rfl
    · refine J_iload_n hX dX10_pairs_16 rfl 1 rfl ?_
      refine J_iload_n hX dX10_pairs_17 rfl 2 rfl ?_
      refine J_icmp_eq hX 33 dX10_pairs_18 (by decide) h (fun c h => ?_) (fun c h => ?_)
      · refine J_iconst hX (-1 : Int32) dX10_pairs_33 ic_m1 ?_
        exact J_ireturn hX dX10_pairs_34 h hF rfl
      · refine J_aload_n hX dX10_pairs_21 rfl 0 rfl ?_
        refine J_getR hX dX10_pairs_22 fl_RX10_50 (ltn ltc_0 hn) lo_0 rfl (rt_0_6 _ _ _ _ _) ?_
        refine J_iload_n hX dX10_pairs_25 rfl 1 rfl ?_
        refine J_iload_n hX dX10_pairs_26 rfl 2 rfl ?_
        obtain ⟨r6, m5, h0, h⟩ := bd2_some h
        refine J_callVi (As := [.int x1, .int x2]) (st := []) hX dX10_pairs_27 cw_RX10_232 (by omega) (c_X4_shared hn p_isLa_26 h0) (ltn ltc_26 hn) lo_26 (by decide) rfl rfl rfl (Nat.le_of_ble_eq_true rfl) ?_
        clear h0
        refine J_goto hX 34 dX10_pairs_30 (by decide) ?_
        exact J_ireturn hX dX10_pairs_34 h hF rfl
theorem c_X10_pairs {G : GG} {l : Launch} {ρ : Nat → Nat} {n : Nat} {x : Option Nat} (hn : 126 ≤ n) {t : Nat} {u : Nat} {w : Nat} {v : Nat} (ht : isTo t) (hu : isTo u) (hw : isWk w) (hv : isWk v) {x1 : Int32} {x2 : Int32} {m : Mm} {rE : Int32} {mE : Mm} (h : f_X10_pairs t u w v x1 x2 m = some (rE, mE)) : CT G l yX10_pairs cX10_pairs 3 (some .int) 1 0 0 ρ n (RT t u w v x) [.ref 0, .int x1, .int x2] m (some (.int rE)) (RT t u w v x) mE := ct_of_J (by decide) rfl (Nat.le_of_ble_eq_true rfl) (fun X hX e1 e2 e3 e4 hQ hr hl => t_X10_pairs hX (Nat.le_refl _) hn ht hu hw hv ⟨by rw [hQ, e3, e4], hr, hl⟩ h)
theorem t_X11_pairsOf_L5 {X : XX} {G : GG} {ρ : Nat → Nat} {n t u w v : Nat} {x : Option Nat} {d : Nat} (hX : Ok X G ρ cX11_pairsOf 5 RX11 d) (hd0 : 1 ≤ d) (hn : 126 ≤ n) {rE : Int32} {mE : Mm} (hF : Fin' X G ρ n (some .int) (some (.int rE)) (RT t u w v x) mE) : ∀ (k : Nat) (v1 : Int32) (v2 : Int32) (v3 : Int32) (v4 : Int32) (m : Mm), f_X11_pairsOf_L5 k v1 v2 v3 v4 m = some (rE, mE) → J X G ρ n 5 5 [(0, .ref 78), (1, .int v1), (2, .int v2), (3, .int v3), (4, .int v4)] [] (RT t u w v x) m := by
  intro k
  induction k with
  | zero => intro _ _ _ _ _ h; rw [f_X11_pairsOf_L5] at h; cases h
  | succ k ih =>
    intro v1 v2 v3 v4 m h
    rw [f_X11_pairsOf_L5] at h
    refine J_iload hX dX11_pairsOf_5 4 rfl ?_
    refine J_aload_n hX dX11_pairsOf_7 rfl 0 rfl ?_
    refine J_getR hX dX11_pairsOf_8 fl_RX11_71 (ltn ltc_78 hn) lo_78 rfl (rt_78_32 _ _ _ _ _) ?_
    refine J_iconst hX (0 : Int32) dX11_pairsOf_11 ic_0 ?_
    refine J_iaload0 hX dX11_pairsOf_12 (ltn ltc_99 hn) lay_99 (by decide) ?_
    refine J_icmp_ge hX 50 dX11_pairsOf_13 (by decide) h (fun c h => ?_) (fun c h => ?_)
    · refine J_iload_n hX dX11_pairsOf_16 rfl 3 rfl ?_
      refine J_aload_n hX dX11_pairsOf_17 rfl 0 rfl ?_
      refine J_iload hX dX11_pairsOf_18 4 rfl ?_
      refine J_iload_n hX dX11_pairsOf_20 rfl 1 rfl ?_
      obtain ⟨r2, m1, h0, h⟩ := bd2_some h
      refine J_callVi (As := [.int v4, .int v1]) (st := [.int v3]) hX dX11_pairsOf_21 cw_RX11_309 (by omega) (c_X11_unitOn hn  h0) (ltn ltc_78 hn) lo_78 (by decide) rfl rfl rfl (Nat.le_of_ble_eq_true rfl) ?_
      clear h0
      refine J_if_lt hX 41 dX11_pairsOf_24 (by decide) h (fun c h => ?_) (fun c h => ?_)
      · refine J_iconst hX (0 : Int32) dX11_pairsOf_41 ic_0 ?_
        refine J_iadd hX dX11_pairsOf_42 ?_
        refine J_istore_n hX [(3, .int (v3 + (0 : Int32))), (0, .ref 78), (1, .int v1), (2, .int v2), (4, .int v4)] dX11_pairsOf_43 rfl (by decide) rfl ?_
        refine J_iinc hX (v4 + (1 : Int32)) [(4, .int (v4 + (1 : Int32))), (3, .int (v3 + (0 : Int32))), (0, .ref 78), (1, .int v1), (2, .int v2)] dX11_pairsOf_44 4 rfl (congrArg (fun z => v4 + z) ic_1) (by decide) rfl ?_
        refine J_goto hX 5 dX11_pairsOf_47 (by decide) ?_
        refine J_sub [(0, .ref 78), (1, .int v1), (2, .int v2), (3, .int (v3 + (0 : Int32))), (4, .int (v4 + (1 : Int32)))] [2, 3, 4, 1, 0] rfl ?_
        exact ih v1 v2 (v3 + (0 : Int32)) (v4 + (1 : Int32)) m1 h
      · refine J_aload_n hX dX11_pairsOf_27 rfl 0 rfl ?_
        refine J_iload hX dX11_pairsOf_28 4 rfl ?_
        refine J_iload_n hX dX11_pairsOf_30 rfl 2 rfl ?_
        obtain ⟨r4, m3, h0, h⟩ := bd2_some h
        refine J_callVi (As := [.int v4, .int v2]) (st := [.int v3]) hX dX11_pairsOf_31 cw_RX11_309 (by omega) (c_X11_unitOn hn  h0) (ltn ltc_78 hn) lo_78 (by decide) rfl rfl rfl (Nat.le_of_ble_eq_true rfl) ?_
        clear h0
        refine J_if_lt hX 41 dX11_pairsOf_34 (by decide) h (fun c h => ?_) (fun c h => ?_)
        · refine J_iconst hX (0 : Int32) dX11_pairsOf_41 ic_0 ?_
          refine J_iadd hX dX11_pairsOf_42 ?_
          refine J_istore_n hX [(3, .int (v3 + (0 : Int32))), (0, .ref 78), (1, .int v1), (2, .int v2), (4, .int v4)] dX11_pairsOf_43 rfl (by decide) rfl ?_
          refine J_iinc hX (v4 + (1 : Int32)) [(4, .int (v4 + (1 : Int32))), (3, .int (v3 + (0 : Int32))), (0, .ref 78), (1, .int v1), (2, .int v2)] dX11_pairsOf_44 4 rfl (congrArg (fun z => v4 + z) ic_1) (by decide) rfl ?_
          refine J_goto hX 5 dX11_pairsOf_47 (by decide) ?_
          refine J_sub [(0, .ref 78), (1, .int v1), (2, .int v2), (3, .int (v3 + (0 : Int32))), (4, .int (v4 + (1 : Int32)))] [2, 3, 4, 1, 0] rfl ?_
          exact ih v1 v2 (v3 + (0 : Int32)) (v4 + (1 : Int32)) m3 h
        · refine J_iconst hX (1 : Int32) dX11_pairsOf_37 ic_1 ?_
          refine J_goto hX 42 dX11_pairsOf_38 (by decide) ?_
          refine J_iadd hX dX11_pairsOf_42 ?_
          refine J_istore_n hX [(3, .int (v3 + (1 : Int32))), (0, .ref 78), (1, .int v1), (2, .int v2), (4, .int v4)] dX11_pairsOf_43 rfl (by decide) rfl ?_
          refine J_iinc hX (v4 + (1 : Int32)) [(4, .int (v4 + (1 : Int32))), (3, .int (v3 + (1 : Int32))), (0, .ref 78), (1, .int v1), (2, .int v2)] dX11_pairsOf_44 4 rfl (congrArg (fun z => v4 + z) ic_1) (by decide) rfl ?_
          refine J_goto hX 5 dX11_pairsOf_47 (by decide) ?_
          refine J_sub [(0, .ref 78), (1, .int v1), (2, .int v2), (3, .int (v3 + (1 : Int32))), (4, .int (v4 + (1 : Int32)))] [2, 3, 4, 1, 0] rfl ?_
          exact ih v1 v2 (v3 + (1 : Int32)) (v4 + (1 : Int32)) m3 h
    · refine J_iload_n hX dX11_pairsOf_50 rfl 3 rfl ?_
      exact J_ireturn hX dX11_pairsOf_51 h hF rfl
theorem t_X11_pairsOf {X : XX} {G : GG} {ρ : Nat → Nat} {n t u w v : Nat} {x : Option Nat} {d : Nat} (hX : Ok X G ρ cX11_pairsOf 5 RX11 d) (hd0 : 1 ≤ d) (hn : 126 ≤ n) {rE : Int32} {mE : Mm} (hF : Fin' X G ρ n (some .int) (some (.int rE)) (RT t u w v x) mE) {x1 : Int32} {x2 : Int32} {m : Mm} (h : f_X11_pairsOf x1 x2 m = some (rE, mE)) : J X G ρ n 5 0 [(0, .ref 78), (1, .int x1), (2, .int x2)] [] (RT t u w v x) m := by
  unfold f_X11_pairsOf at h
  refine J_iconst hX (0 : Int32) dX11_pairsOf_0 ic_0 ?_
  refine J_istore_n hX [(3, .int (0 : Int32)), (0, .ref 78), (1, .int x1), (2, .int x2)] dX11_pairsOf_1 rfl (by decide) rfl ?_
  refine J_iconst hX (0 : Int32) dX11_pairsOf_2 ic_0 ?_
  refine J_istore hX [(4, .int (0 : Int32)), (3, .int (0 : Int32)), (0, .ref 78), (1, .int x1), (2, .int x2)] dX11_pairsOf_3 (by decide) rfl ?_
  refine J_sub [(0, .ref 78), (1, .int x1), (2, .int x2), (3, .int (0 : Int32)), (4, .int (0 : Int32))] [2, 3, 4, 1, 0] rfl ?_
  exact t_X11_pairsOf_L5 hX hd0 hn hF FU x1 x2 (0 : Int32) (0 : Int32)  m h
theorem c_X11_pairsOf {G : GG} {l : Launch} {ρ : Nat → Nat} {n t u w v : Nat} {x : Option Nat} (hn : 126 ≤ n) {x1 : Int32} {x2 : Int32} {m : Mm} {rE : Int32} {mE : Mm} (h : f_X11_pairsOf x1 x2 m = some (rE, mE)) : CT G l yX11_pairsOf cX11_pairsOf 5 (some .int) 1 0 0 ρ n (RT t u w v x) [.ref 78, .int x1, .int x2] m (some (.int rE)) (RT t u w v x) mE := ct_of_J (by decide) rfl (Nat.le_of_ble_eq_true rfl) (fun X hX e1 e2 e3 e4 hQ hr hl => t_X11_pairsOf hX (Nat.le_refl _) hn ⟨by rw [hQ, e3, e4], hr, hl⟩ h)
theorem t_X11_pairs {X : XX} {G : GG} {ρ : Nat → Nat} {n t u w v : Nat} {x : Option Nat} {d : Nat} (hX : Ok X G ρ cX11_pairs 3 RX11 d) (hd0 : 2 ≤ d) (hn : 126 ≤ n) {rE : Int32} {mE : Mm} (hF : Fin' X G ρ n (some .int) (some (.int rE)) (RT t u w v x) mE) {x1 : Int32} {x2 : Int32} {m : Mm} (h : f_X11_pairs x1 x2 m = some (rE, mE)) : J X G ρ n 3 0 [(0, .ref 78), (1, .int x1), (2, .int x2)] [] (RT t u w v x) m := by
  unfold f_X11_pairs at h
  refine J_aload_n hX dX11_pairs_0 rfl 0 rfl ?_
  refine J_iconst hX (0 : Int32) dX11_pairs_1 ic_0 ?_
  refine J_putI hX dX11_pairs_2 pl_RX11_152 (ltn ltc_78 hn) lo_78 rfl rfl rfl h (fun m1 h => ?_)
  refine J_aload_n hX dX11_pairs_5 rfl 0 rfl ?_
  refine J_iload_n hX dX11_pairs_6 rfl 1 rfl ?_
  obtain ⟨r3, m2, h0, h⟩ := bd2_some h
  refine J_callVi (As := [.int x1]) (st := []) hX dX11_pairs_7 cw_RX11_385 (by omega) (c_X11_isDisk hn  h0) (ltn ltc_78 hn) lo_78 (by decide) rfl rfl rfl (Nat.le_of_ble_eq_true rfl) ?_
  clear h0
  refine J_if_eq hX 35 dX11_pairs_10 (by decide) h (fun c h => ?_) (fun c h => ?_)
  · refine J_iconst hX (-1 : Int32) dX11_pairs_35 ic_m1 ?_
    exact J_ireturn hX dX11_pairs_36 h hF rfl
  · refine J_aload_n hX dX11_pairs_13 rfl 0 rfl ?_
    refine J_iload_n hX dX11_pairs_14 rfl 2 rfl ?_
    obtain ⟨r5, m4, h0, h⟩ := bd2_some h
    refine J_callVi (As := [.int x2]) (st := []) hX dX11_pairs_15 cw_RX11_385 (by omega) (c_X11_isDisk hn  h0) (ltn ltc_78 hn) lo_78 (by decide) rfl rfl rfl (Nat.le_of_ble_eq_true rfl) ?_
    clear h0
    refine J_if_eq hX 35 dX11_pairs_18 (by decide) h (fun c h => ?_) (fun c h => ?_)
    · refine J_iconst hX (-1 : Int32) dX11_pairs_35 ic_m1 ?_
      exact J_ireturn hX dX11_pairs_36 h hF rfl
    · refine J_iload_n hX dX11_pairs_21 rfl 1 rfl ?_
      refine J_iload_n hX dX11_pairs_22 rfl 2 rfl ?_
      refine J_icmp_eq hX 35 dX11_pairs_23 (by decide) h (fun c h => ?_) (fun c h => ?_)
      · refine J_iconst hX (-1 : Int32) dX11_pairs_35 ic_m1 ?_
        exact J_ireturn hX dX11_pairs_36 h hF rfl
      · refine J_aload_n hX dX11_pairs_26 rfl 0 rfl ?_
        refine J_iload_n hX dX11_pairs_27 rfl 1 rfl ?_
        refine J_iload_n hX dX11_pairs_28 rfl 2 rfl ?_
        obtain ⟨r7, m6, h0, h⟩ := bd2_some h
        refine J_callVi (As := [.int x1, .int x2]) (st := []) hX dX11_pairs_29 cw_RX11_431 (by omega) (c_X11_pairsOf hn  h0) (ltn ltc_78 hn) lo_78 (by decide) rfl rfl rfl (Nat.le_of_ble_eq_true rfl) ?_
        clear h0
        refine J_goto hX 36 dX11_pairs_32 (by decide) ?_
        exact J_ireturn hX dX11_pairs_36 h hF rfl
theorem c_X11_pairs {G : GG} {l : Launch} {ρ : Nat → Nat} {n t u w v : Nat} {x : Option Nat} (hn : 126 ≤ n) {x1 : Int32} {x2 : Int32} {m : Mm} {rE : Int32} {mE : Mm} (h : f_X11_pairs x1 x2 m = some (rE, mE)) : CT G l yX11_pairs cX11_pairs 3 (some .int) 2 0 0 ρ n (RT t u w v x) [.ref 78, .int x1, .int x2] m (some (.int rE)) (RT t u w v x) mE := ct_of_J (by decide) rfl (Nat.le_of_ble_eq_true rfl) (fun X hX e1 e2 e3 e4 hQ hr hl => t_X11_pairs hX (Nat.le_refl _) hn ⟨by rw [hQ, e3, e4], hr, hl⟩ h)
theorem t_X4_sharedByAny_L31 {X : XX} {G : GG} {ρ : Nat → Nat} {n t u w v : Nat} {x : Option Nat} {d : Nat} {a : Nat} (hX : Ok X G ρ cX4_sharedByAny 4 RX4 d) (hd0 : 1 ≤ d) (hn : 126 ≤ n) (ha : isLa a) {rE : Int32} {mE : Mm} (hF : Fin' X G ρ n (some .int) (some (.int rE)) (RT t u w v x) mE) {v1 : Int32} {v2 : Int32} {K : Mm → Option (Int32 × Mm)} (hK : ∀ (m : Mm), K m = some (rE, mE) → J X G ρ n 4 57 [(0, .ref a), (1, .int v1), (2, .int v2)] [] (RT t u w v x) m) : ∀ (k : Nat) (v3 : Int32) (m : Mm), f_X4_sharedByAny_L31 a v1 v2 K k v3 m = some (rE, mE) → J X G ρ n 4 31 [(0, .ref a), (1, .int v1), (2, .int v2), (3, .int v3)] [] (RT t u w v x) m := by
  intro k
  induction k with
  | zero => intro _ _ h; rw [f_X4_sharedByAny_L31] at h; cases h
  | succ k ih =>
    intro v3 m h
    rw [f_X4_sharedByAny_L31] at h
    refine J_iload_n hX dX4_sharedByAny_31 rfl 3 rfl ?_
    refine J_aload_n hX dX4_sharedByAny_32 rfl 0 rfl ?_
    refine J_getI hX dX4_sharedByAny_33 fl_RX4_78 (ltn (lt_isLa_0 ha) hn) (lo_isLa_0 ha) rfl ?_
    refine J_icmp_ge hX 57 dX4_sharedByAny_36 (by decide) h (fun c h => ?_) (fun c h => ?_)
    · refine J_aload_n hX dX4_sharedByAny_39 rfl 0 rfl ?_
      refine J_iload_n hX dX4_sharedByAny_40 rfl 2 rfl ?_
      refine J_iload_n hX dX4_sharedByAny_41 rfl 3 rfl ?_
      obtain ⟨r4, m3, h0, h⟩ := bd2_some h
      refine J_callVi (As := [.int v2, .int v3]) (st := []) hX dX4_sharedByAny_42 cw_RX4_101 (by omega) (c_X4_shared hn ha h0) (ltn (lt_isLa_0 ha) hn) (lo_isLa_0 ha) (by decide) rfl rfl rfl (Nat.le_of_ble_eq_true rfl) ?_
      clear h0
      refine J_iload_n hX dX4_sharedByAny_45 rfl 1 rfl ?_
      refine J_icmp_eq hX 51 dX4_sharedByAny_46 (by decide) h (fun c h => ?_) (fun c h => ?_)
      · refine J_iinc hX (v3 + (1 : Int32)) [(3, .int (v3 + (1 : Int32))), (0, .ref a), (1, .int v1), (2, .int v2)] dX4_sharedByAny_51 3 rfl (congrArg (fun z => v3 + z) ic_1) (by decide) rfl ?_
        refine J_goto hX 31 dX4_sharedByAny_54 (by decide) ?_
        refine J_sub [(0, .ref a), (1, .int v1), (2, .int v2), (3, .int (v3 + (1 : Int32)))] [1, 2, 3, 0] rfl ?_
        exact ih (v3 + (1 : Int32)) m3 h
      · refine J_iconst hX (-1 : Int32) dX4_sharedByAny_49 ic_m1 ?_
        exact J_ireturn hX dX4_sharedByAny_50 h hF rfl
    · refine J_sub [(0, .ref a), (1, .int v1), (2, .int v2)] [0, 1, 2] rfl ?_
      exact hK  m h
theorem t_X4_sharedByAny_L19 {X : XX} {G : GG} {ρ : Nat → Nat} {n t u w v : Nat} {x : Option Nat} {d : Nat} {a : Nat} (hX : Ok X G ρ cX4_sharedByAny 4 RX4 d) (hd0 : 1 ≤ d) (hn : 126 ≤ n) (ha : isLa a) {rE : Int32} {mE : Mm} (hF : Fin' X G ρ n (some .int) (some (.int rE)) (RT t u w v x) mE) : ∀ (k : Nat) (v1 : Int32) (v2 : Int32) (m : Mm), f_X4_sharedByAny_L19 a k v1 v2 m = some (rE, mE) → J X G ρ n 4 19 [(0, .ref a), (1, .int v1), (2, .int v2)] [] (RT t u w v x) m := by
  intro k
  induction k with
  | zero => intro _ _ _ h; rw [f_X4_sharedByAny_L19] at h; cases h
  | succ k ih =>
    intro v1 v2 m h
    rw [f_X4_sharedByAny_L19] at h
    refine J_iload_n hX dX4_sharedByAny_19 rfl 2 rfl ?_
    refine J_aload_n hX dX4_sharedByAny_20 rfl 0 rfl ?_
    refine J_getI hX dX4_sharedByAny_21 fl_RX4_78 (ltn (lt_isLa_0 ha) hn) (lo_isLa_0 ha) rfl ?_
    refine J_icmp_ge hX 63 dX4_sharedByAny_24 (by decide) h (fun c h => ?_) (fun c h => ?_)
    · refine J_iload_n hX dX4_sharedByAny_27 rfl 2 rfl ?_
      refine J_iconst hX (1 : Int32) dX4_sharedByAny_28 ic_1 ?_
      refine J_iadd hX dX4_sharedByAny_29 ?_
      refine J_istore_n hX [(3, .int (v2 + (1 : Int32))), (0, .ref a), (1, .int v1), (2, .int v2)] dX4_sharedByAny_30 rfl (by decide) rfl ?_
      refine J_sub [(0, .ref a), (1, .int v1), (2, .int v2), (3, .int (v2 + (1 : Int32)))] [1, 2, 3, 0] rfl ?_
      refine t_X4_sharedByAny_L31 hX hd0 hn ha hF (fun m5 h => ?_) FU (v2 + (1 : Int32)) m h
      refine J_iinc hX (v2 + (1 : Int32)) [(2, .int (v2 + (1 : Int32))), (0, .ref a), (1, .int v1)] dX4_sharedByAny_57 2 rfl (congrArg (fun z => v2 + z) ic_1) (by decide) rfl ?_
      refine J_goto hX 19 dX4_sharedByAny_60 (by decide) ?_
      refine J_sub [(0, .ref a), (1, .int v1), (2, .int (v2 + (1 : Int32)))] [1, 2, 0] rfl ?_
      exact ih v1 (v2 + (1 : Int32)) m5 h
    · refine J_iload_n hX dX4_sharedByAny_63 rfl 1 rfl ?_
      exact J_ireturn hX dX4_sharedByAny_64 h hF rfl
theorem t_X4_sharedByAny {X : XX} {G : GG} {ρ : Nat → Nat} {n t u w v : Nat} {x : Option Nat} {d : Nat} {a : Nat} (hX : Ok X G ρ cX4_sharedByAny 4 RX4 d) (hd0 : 1 ≤ d) (hn : 126 ≤ n) (ha : isLa a) {rE : Int32} {mE : Mm} (hF : Fin' X G ρ n (some .int) (some (.int rE)) (RT t u w v x) mE) {m : Mm} (h : f_X4_sharedByAny a m = some (rE, mE)) : J X G ρ n 4 0 [(0, .ref a)] [] (RT t u w v x) m := by
  unfold f_X4_sharedByAny at h
  refine J_aload_n hX dX4_sharedByAny_0 rfl 0 rfl ?_
  refine J_getI hX dX4_sharedByAny_1 fl_RX4_78 (ltn (lt_isLa_0 ha) hn) (lo_isLa_0 ha) rfl ?_
  refine J_iconst hX (2 : Int32) dX4_sharedByAny_4 ic_2 ?_
  refine J_icmp_ge hX 10 dX4_sharedByAny_5 (by decide) h (fun c h => ?_) (fun c h => ?_)
  · refine J_iconst hX (-1 : Int32) dX4_sharedByAny_8 ic_m1 ?_
    exact J_ireturn hX dX4_sharedByAny_9 h hF rfl
  · refine J_aload_n hX dX4_sharedByAny_10 rfl 0 rfl ?_
    refine J_iconst hX (0 : Int32) dX4_sharedByAny_11 ic_0 ?_
    refine J_iconst hX (1 : Int32) dX4_sharedByAny_12 ic_1 ?_
    obtain ⟨r2, m1, h0, h⟩ := bd2_some h
    refine J_callVi (As := [.int (0 : Int32), .int (1 : Int32)]) (st := []) hX dX4_sharedByAny_13 cw_RX4_101 (by omega) (c_X4_shared hn ha h0) (ltn (lt_isLa_0 ha) hn) (lo_isLa_0 ha) (by decide) rfl rfl rfl (Nat.le_of_ble_eq_true rfl) ?_
    clear h0
    refine J_istore_n hX [(1, .int r2), (0, .ref a)] dX4_sharedByAny_16 rfl (by decide) rfl ?_
    refine J_iconst hX (0 : Int32) dX4_sharedByAny_17 ic_0 ?_
    refine J_istore_n hX [(2, .int (0 : Int32)), (1, .int r2), (0, .ref a)] dX4_sharedByAny_18 rfl (by decide) rfl ?_
    refine J_sub [(0, .ref a), (1, .int r2), (2, .int (0 : Int32))] [2, 1, 0] rfl ?_
    exact t_X4_sharedByAny_L19 hX hd0 hn ha hF FU r2 (0 : Int32)  m1 h
theorem c_X4_sharedByAny {G : GG} {l : Launch} {ρ : Nat → Nat} {n t u w v : Nat} {x : Option Nat} (hn : 126 ≤ n) {a : Nat} (ha : isLa a) {m : Mm} {rE : Int32} {mE : Mm} (h : f_X4_sharedByAny a m = some (rE, mE)) : CT G l yX4_sharedByAny cX4_sharedByAny 4 (some .int) 1 0 0 ρ n (RT t u w v x) [.ref a] m (some (.int rE)) (RT t u w v x) mE := ct_of_J (by decide) rfl (Nat.le_of_ble_eq_true rfl) (fun X hX e1 e2 e3 e4 hQ hr hl => t_X4_sharedByAny hX (Nat.le_refl _) hn ha ⟨by rw [hQ, e3, e4], hr, hl⟩ h)
theorem t_X10_even {X : XX} {G : GG} {ρ : Nat → Nat} {n : Nat} {x : Option Nat} {d : Nat} {t : Nat} {u : Nat} {w : Nat} {v : Nat} (hX : Ok X G ρ cX10_even 1 RX10 d) (hd0 : 2 ≤ d) (hn : 126 ≤ n) (ht : isTo t) (hu : isTo u) (hw : isWk w) (hv : isWk v) {rE : Int32} {mE : Mm} (hF : Fin' X G ρ n (some .int) (some (.int rE)) (RT t u w v x) mE) {m : Mm} (h : f_X10_even t u w v m = some (rE, mE)) : J X G ρ n 1 0 [(0, .ref 0)] [] (RT t u w v x) m := by
  unfold f_X10_even at h
  refine J_aload_n hX dX10_even_0 rfl 0 rfl ?_
  refine J_getR hX dX10_even_1 fl_RX10_50 (ltn ltc_0 hn) lo_0 rfl (rt_0_6 _ _ _ _ _) ?_
  obtain ⟨r2, m1, h0, h⟩ := bd2_some h
  refine J_callVi (As := []) (st := []) hX dX10_even_4 cw_RX10_235 (by omega) (c_X4_sharedByAny hn p_isLa_26 h0) (ltn ltc_26 hn) lo_26 (by decide) rfl rfl rfl (Nat.le_of_ble_eq_true rfl) ?_
  clear h0
  exact J_ireturn hX dX10_even_7 h hF rfl
theorem c_X10_even {G : GG} {l : Launch} {ρ : Nat → Nat} {n : Nat} {x : Option Nat} (hn : 126 ≤ n) {t : Nat} {u : Nat} {w : Nat} {v : Nat} (ht : isTo t) (hu : isTo u) (hw : isWk w) (hv : isWk v) {m : Mm} {rE : Int32} {mE : Mm} (h : f_X10_even t u w v m = some (rE, mE)) : CT G l yX10_even cX10_even 1 (some .int) 2 0 0 ρ n (RT t u w v x) [.ref 0] m (some (.int rE)) (RT t u w v x) mE := ct_of_J (by decide) rfl (Nat.le_of_ble_eq_true rfl) (fun X hX e1 e2 e3 e4 hQ hr hl => t_X10_even hX (Nat.le_refl _) hn ht hu hw hv ⟨by rw [hQ, e3, e4], hr, hl⟩ h)
theorem t_X11_even_L38 {X : XX} {G : GG} {ρ : Nat → Nat} {n t u w v : Nat} {x : Option Nat} {d : Nat} (hX : Ok X G ρ cX11_even 4 RX11 d) (hd0 : 2 ≤ d) (hn : 126 ≤ n) {rE : Int32} {mE : Mm} (hF : Fin' X G ρ n (some .int) (some (.int rE)) (RT t u w v x) mE) {v1 : Int32} {v2 : Int32} {K : Mm → Option (Int32 × Mm)} (hK : ∀ (m : Mm), K m = some (rE, mE) → J X G ρ n 4 61 [(0, .ref 78), (1, .int v1), (2, .int v2)] [] (RT t u w v x) m) : ∀ (k : Nat) (v3 : Int32) (m : Mm), f_X11_even_L38 v1 v2 K k v3 m = some (rE, mE) → J X G ρ n 4 38 [(0, .ref 78), (1, .int v1), (2, .int v2), (3, .int v3)] [] (RT t u w v x) m := by
  intro k
  induction k with
  | zero => intro _ _ h; rw [f_X11_even_L38] at h; cases h
  | succ k ih =>
    intro v3 m h
    rw [f_X11_even_L38] at h
    refine J_iload_n hX dX11_even_38 rfl 3 rfl ?_
    refine J_iload_n hX dX11_even_39 rfl 2 rfl ?_
    refine J_icmp_ge hX 61 dX11_even_40 (by decide) h (fun c h => ?_) (fun c h => ?_)
    · refine J_aload_n hX dX11_even_43 rfl 0 rfl ?_
      refine J_iload_n hX dX11_even_44 rfl 2 rfl ?_
      refine J_iload_n hX dX11_even_45 rfl 3 rfl ?_
      obtain ⟨r5, m4, h0, h⟩ := bd2_some h
      refine J_callVi (As := [.int v2, .int v3]) (st := []) hX dX11_even_46 cw_RX11_431 (by omega) (c_X11_pairsOf hn  h0) (ltn ltc_78 hn) lo_78 (by decide) rfl rfl rfl (Nat.le_of_ble_eq_true rfl) ?_
      clear h0
      refine J_iload_n hX dX11_even_49 rfl 1 rfl ?_
      refine J_icmp_eq hX 55 dX11_even_50 (by decide) h (fun c h => ?_) (fun c h => ?_)
      · refine J_iinc hX (v3 + (1 : Int32)) [(3, .int (v3 + (1 : Int32))), (0, .ref 78), (1, .int v1), (2, .int v2)] dX11_even_55 3 rfl (congrArg (fun z => v3 + z) ic_1) (by decide) rfl ?_
        refine J_goto hX 38 dX11_even_58 (by decide) ?_
        refine J_sub [(0, .ref 78), (1, .int v1), (2, .int v2), (3, .int (v3 + (1 : Int32)))] [1, 2, 3, 0] rfl ?_
        exact ih (v3 + (1 : Int32)) m4 h
      · refine J_iconst hX (-1 : Int32) dX11_even_53 ic_m1 ?_
        exact J_ireturn hX dX11_even_54 h hF rfl
    · refine J_sub [(0, .ref 78), (1, .int v1), (2, .int v2)] [0, 1, 2] rfl ?_
      exact hK  m h
theorem t_X11_even_L26 {X : XX} {G : GG} {ρ : Nat → Nat} {n t u w v : Nat} {x : Option Nat} {d : Nat} (hX : Ok X G ρ cX11_even 4 RX11 d) (hd0 : 2 ≤ d) (hn : 126 ≤ n) {rE : Int32} {mE : Mm} (hF : Fin' X G ρ n (some .int) (some (.int rE)) (RT t u w v x) mE) : ∀ (k : Nat) (v1 : Int32) (v2 : Int32) (m : Mm), f_X11_even_L26 k v1 v2 m = some (rE, mE) → J X G ρ n 4 26 [(0, .ref 78), (1, .int v1), (2, .int v2)] [] (RT t u w v x) m := by
  intro k
  induction k with
  | zero => intro _ _ _ h; rw [f_X11_even_L26] at h; cases h
  | succ k ih =>
    intro v1 v2 m h
    rw [f_X11_even_L26] at h
    refine J_iload_n hX dX11_even_26 rfl 2 rfl ?_
    refine J_aload_n hX dX11_even_27 rfl 0 rfl ?_
    refine J_getR hX dX11_even_28 fl_RX11_13 (ltn ltc_78 hn) lo_78 rfl (rt_78_10 _ _ _ _ _) ?_
    refine J_iconst hX (0 : Int32) dX11_even_31 ic_0 ?_
    refine J_iaload0 hX dX11_even_32 (ltn ltc_80 hn) lay_80 (by decide) ?_
    refine J_icmp_ge hX 67 dX11_even_33 (by decide) h (fun c h => ?_) (fun c h => ?_)
    · refine J_iconst hX (0 : Int32) dX11_even_36 ic_0 ?_
      refine J_istore_n hX [(3, .int (0 : Int32)), (0, .ref 78), (1, .int v1), (2, .int v2)] dX11_even_37 rfl (by decide) rfl ?_
      refine J_sub [(0, .ref 78), (1, .int v1), (2, .int v2), (3, .int (0 : Int32))] [1, 2, 3, 0] rfl ?_
      refine t_X11_even_L38 hX hd0 hn hF (fun m6 h => ?_) FU (0 : Int32) m h
      refine J_iinc hX (v2 + (1 : Int32)) [(2, .int (v2 + (1 : Int32))), (0, .ref 78), (1, .int v1)] dX11_even_61 2 rfl (congrArg (fun z => v2 + z) ic_1) (by decide) rfl ?_
      refine J_goto hX 26 dX11_even_64 (by decide) ?_
      refine J_sub [(0, .ref 78), (1, .int v1), (2, .int (v2 + (1 : Int32)))] [1, 2, 0] rfl ?_
      exact ih v1 (v2 + (1 : Int32)) m6 h
    · refine J_iload_n hX dX11_even_67 rfl 1 rfl ?_
      exact J_ireturn hX dX11_even_68 h hF rfl
theorem t_X11_even {X : XX} {G : GG} {ρ : Nat → Nat} {n t u w v : Nat} {x : Option Nat} {d : Nat} (hX : Ok X G ρ cX11_even 4 RX11 d) (hd0 : 2 ≤ d) (hn : 126 ≤ n) {rE : Int32} {mE : Mm} (hF : Fin' X G ρ n (some .int) (some (.int rE)) (RT t u w v x) mE) {m : Mm} (h : f_X11_even m = some (rE, mE)) : J X G ρ n 4 0 [(0, .ref 78)] [] (RT t u w v x) m := by
  unfold f_X11_even at h
  refine J_aload_n hX dX11_even_0 rfl 0 rfl ?_
  refine J_iconst hX (0 : Int32) dX11_even_1 ic_0 ?_
  refine J_putI hX dX11_even_2 pl_RX11_152 (ltn ltc_78 hn) lo_78 rfl rfl rfl h (fun m1 h => ?_)
  refine J_aload_n hX dX11_even_5 rfl 0 rfl ?_
  refine J_getR hX dX11_even_6 fl_RX11_13 (ltn ltc_78 hn) lo_78 rfl (rt_78_10 _ _ _ _ _) ?_
  refine J_iconst hX (0 : Int32) dX11_even_9 ic_0 ?_
  refine J_iaload0 hX dX11_even_10 (ltn ltc_80 hn) lay_80 (by decide) ?_
  refine J_iconst hX (2 : Int32) dX11_even_11 ic_2 ?_
  refine J_icmp_ge hX 17 dX11_even_12 (by decide) h (fun c h => ?_) (fun c h => ?_)
  · refine J_iconst hX (-1 : Int32) dX11_even_15 ic_m1 ?_
    exact J_ireturn hX dX11_even_16 h hF rfl
  · refine J_aload_n hX dX11_even_17 rfl 0 rfl ?_
    refine J_iconst hX (0 : Int32) dX11_even_18 ic_0 ?_
    refine J_iconst hX (1 : Int32) dX11_even_19 ic_1 ?_
    obtain ⟨r3, m2, h0, h⟩ := bd2_some h
    refine J_callVi (As := [.int (0 : Int32), .int (1 : Int32)]) (st := []) hX dX11_even_20 cw_RX11_431 (by omega) (c_X11_pairsOf hn  h0) (ltn ltc_78 hn) lo_78 (by decide) rfl rfl rfl (Nat.le_of_ble_eq_true rfl) ?_
    clear h0
    refine J_istore_n hX [(1, .int r3), (0, .ref 78)] dX11_even_23 rfl (by decide) rfl ?_
    refine J_iconst hX (0 : Int32) dX11_even_24 ic_0 ?_
    refine J_istore_n hX [(2, .int (0 : Int32)), (1, .int r3), (0, .ref 78)] dX11_even_25 rfl (by decide) rfl ?_
    refine J_sub [(0, .ref 78), (1, .int r3), (2, .int (0 : Int32))] [2, 1, 0] rfl ?_
    exact t_X11_even_L26 hX hd0 hn hF FU r3 (0 : Int32)  m2 h
theorem c_X11_even {G : GG} {l : Launch} {ρ : Nat → Nat} {n t u w v : Nat} {x : Option Nat} (hn : 126 ≤ n) {m : Mm} {rE : Int32} {mE : Mm} (h : f_X11_even m = some (rE, mE)) : CT G l yX11_even cX11_even 4 (some .int) 2 0 0 ρ n (RT t u w v x) [.ref 78] m (some (.int rE)) (RT t u w v x) mE := ct_of_J (by decide) rfl (Nat.le_of_ble_eq_true rfl) (fun X hX e1 e2 e3 e4 hQ hr hl => t_X11_even hX (Nat.le_refl _) hn ⟨by rw [hQ, e3, e4], hr, hl⟩ h)
