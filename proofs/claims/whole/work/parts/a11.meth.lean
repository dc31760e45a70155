theorem t_X4_addStripe_L54 {X : XX} {G : GG} {ρ : Nat → Nat} {n t u w v : Nat} {x : Option Nat} {d : Nat} {a : Nat} {p1 : Nat} (hX : Ok X G ρ cX4_addStripe 8 RX4 d) (hd0 : 3 ≤ d) (hn : 126 ≤ n) (ha : isLa a) (hp1 : isTo p1) {mE : Mm} (hF : Fin' X G ρ n none none (RT t u w v x) mE) : ∀ (k : Nat) (v2 : Int32) (v3 : Int32) (v4 : Int32) (v5 : Int32) (v6 : Int32) (m : Mm), f_X4_addStripe_L54 a p1 k v2 v3 v4 v5 v6 m = some mE → J X G ρ n 8 54 [(0, .ref a), (1, .ref p1), (2, .int v2), (3, .int v3), (4, .int v4), (5, .int v5), (6, .int v6)] [] (RT t u w v x) m := by
  intro k
  induction k with
  | zero => intro _ _ _ _ _ _ h; rw [f_X4_addStripe_L54] at h; cases h
  | succ k ih =>
    intro v2 v3 v4 v5 v6 m h
    rw [f_X4_addStripe_L54] at h
    refine J_iload hX dX4_addStripe_54 6 rfl ?_
    refine J_aload_n hX dX4_addStripe_56 rfl 0 rfl ?_
    refine J_getR hX dX4_addStripe_57 fl_RX4_9 (ltn (lt_isLa_0 ha) hn) (lo_isLa_0 ha) rfl (rt_isLa_0_3 _ _ _ _ _ ha) ?_
    refine J_iload hX dX4_addStripe_60 4 rfl ?_
    refine J_iaload hX dX4_addStripe_62 (ltn (lt_isLa_1 ha) hn) (lay_isLa_1 ha) h (fun h => ?_)
    refine J_icmp_ge hX 140 dX4_addStripe_63 (by decide) h (fun c h => ?_) (fun c h => ?_)
    · refine J_aload_n hX dX4_addStripe_66 rfl 1 rfl ?_
      refine J_iload_n hX dX4_addStripe_67 rfl 2 rfl ?_
      refine J_iload hX dX4_addStripe_68 6 rfl ?_
      refine J_iload_n hX dX4_addStripe_70 rfl 3 rfl ?_
      refine J_aload_n hX dX4_addStripe_71 rfl 0 rfl ?_
      refine J_getI hX dX4_addStripe_72 fl_RX4_78 (ltn (lt_isLa_0 ha) hn) (lo_isLa_0 ha) rfl ?_
      obtain ⟨r11, m10, h0, h⟩ := bd2_some h
      refine J_callVi (As := [.int v2, .int v6, .int v3, .int (gI m a 0)]) (st := []) hX dX4_addStripe_75 cw_RX4_85 (by omega) (c_X8_diskIn hn hp1 h0) (ltn (lt_isTo_0 hp1) hn) (lo_isTo_0 hp1) (by decide) rfl rfl rfl (Nat.le_of_ble_eq_true rfl) ?_
      clear h0
      refine J_istore hX [(7, .int r11), (0, .ref a), (1, .ref p1), (2, .int v2), (3, .int v3), (4, .int v4), (5, .int v5), (6, .int v6)] dX4_addStripe_78 (by decide) rfl ?_
      refine J_aload_n hX dX4_addStripe_80 rfl 1 rfl ?_
      refine J_getR hX dX4_addStripe_81 fl_RX4_30 (ltn (lt_isLa_0 ha) hn) (lo_isLa_0 ha) rfl (rt_isLa_0_9 _ _ _ _ _ ha) ?_
      refine J_iload hX dX4_addStripe_84 6 rfl ?_
      refine J_iload hX dX4_addStripe_86 7 rfl ?_
      refine J_iadd hX dX4_addStripe_88 ?_
      refine J_iload hX dX4_addStripe_89 0 rfl ?_
      refine J_iastore hX dX4_addStripe_91 (ltn (lt_isLa_7 ha) hn) (lay_isLa_7 ha) h (fun m12 h => ?_)
      refine J_aload_n hX dX4_addStripe_92 rfl 1 rfl ?_
      refine J_getR hX dX4_addStripe_93 fl_RX4_33 (ltn (lt_isLa_0 ha) hn) (lo_isLa_0 ha) rfl (rt_isLa_0_10 _ _ _ _ _ ha) ?_
      refine J_iload hX dX4_addStripe_96 6 rfl ?_
      refine J_iload hX dX4_addStripe_98 7 rfl ?_
      refine J_iadd hX dX4_addStripe_100 ?_
      refine J_aload_n hX dX4_addStripe_101 rfl 1 rfl ?_
      refine J_getR hX dX4_addStripe_102 fl_RX4_42 (ltn (lt_isLa_0 ha) hn) (lo_isLa_0 ha) rfl (rt_isLa_0_13 _ _ _ _ _ ha) ?_
      refine J_iload hX dX4_addStripe_105 0 rfl ?_
      refine J_iaload hX dX4_addStripe_107 (ltn (lt_isLa_11 ha) hn) (lay_isLa_11 ha) h (fun h => ?_)
      refine J_iastore hX dX4_addStripe_108 (ltn (lt_isLa_8 ha) hn) (lay_isLa_8 ha) h (fun m13 h => ?_)
      refine J_aload_n hX dX4_addStripe_109 rfl 1 rfl ?_
      refine J_getR hX dX4_addStripe_110 fl_RX4_42 (ltn (lt_isLa_0 ha) hn) (lo_isLa_0 ha) rfl (rt_isLa_0_13 _ _ _ _ _ ha) ?_
      refine J_iload hX dX4_addStripe_113 0 rfl ?_
      refine J_dup2 hX dX4_addStripe_115 rfl rfl ?_
      refine J_iaload hX dX4_addStripe_116 (ltn (lt_isLa_11 ha) hn) (lay_isLa_11 ha) h (fun h => ?_)
      refine J_iconst hX (1 : Int32) dX4_addStripe_117 ic_1 ?_
      refine J_iadd hX dX4_addStripe_118 ?_
      refine J_iastore hX dX4_addStripe_119 (ltn (lt_isLa_11 ha) hn) (lay_isLa_11 ha) h (fun m14 h => ?_)
      refine J_aload_n hX dX4_addStripe_120 rfl 1 rfl ?_
      refine J_getR hX dX4_addStripe_121 fl_RX4_27 (ltn (lt_isLa_0 ha) hn) (lo_isLa_0 ha) rfl (rt_isLa_0_8 _ _ _ _ _ ha) ?_
      refine J_iload hX dX4_addStripe_124 5 rfl ?_
      refine J_dup2 hX dX4_addStripe_126 rfl rfl ?_
      refine J_iaload hX dX4_addStripe_127 (ltn (lt_isLa_6 ha) hn) (lay_isLa_6 ha) h (fun h => ?_)
      refine J_iconst hX (1 : Int32) dX4_addStripe_128 ic_1 ?_
      refine J_iload hX dX4_addStripe_129 0 rfl ?_
      refine J_ishl hX dX4_addStripe_131 ?_
      refine J_ior hX dX4_addStripe_132 ?_
      refine J_iastore hX dX4_addStripe_133 (ltn (lt_isLa_6 ha) hn) (lay_isLa_6 ha) h (fun m15 h => ?_)
      refine J_iinc hX (v6 + (1 : Int32)) [(6, .int (v6 + (1 : Int32))), (7, .int r11), (0, .ref a), (1, .ref p1), (2, .int v2), (3, .int v3), (4, .int v4), (5, .int v5)] dX4_addStripe_134 7 rfl (congrArg (fun z => v6 + z) ic_1) (by decide) rfl ?_
      refine J_goto hX 54 dX4_addStripe_137 (by decide) ?_
      refine J_sub [(0, .ref a), (1, .ref p1), (2, .int v2), (3, .int v3), (4, .int v4), (5, .int v5), (6, .int (v6 + (1 : Int32)))] [2, 3, 4, 5, 6, 7, 0] rfl ?_
      exact ih v2 v3 v4 v5 (v6 + (1 : Int32)) m15 h
    · refine J_aload_n hX dX4_addStripe_140 rfl 0 rfl ?_
      refine J_getR hX dX4_addStripe_141 fl_RX4_15 (ltn (lt_isLa_0 ha) hn) (lo_isLa_0 ha) rfl (rt_isLa_0_4 _ _ _ _ _ ha) ?_
      refine J_iload hX dX4_addStripe_144 4 rfl ?_
      refine J_aload_n hX dX4_addStripe_146 rfl 1 rfl ?_
      refine J_getR hX dX4_addStripe_147 fl_RX4_89 (ltn (lt_isTo_0 hp1) hn) (lo_isTo_0 hp1) rfl (rt_isTo_0_6 _ _ _ _ _ hp1) ?_
      refine J_iload hX dX4_addStripe_150 4 rfl ?_
      refine J_aload_n hX dX4_addStripe_152 rfl 0 rfl ?_
      refine J_getR hX dX4_addStripe_153 fl_RX4_9 (ltn (lt_isLa_0 ha) hn) (lo_isLa_0 ha) rfl (rt_isLa_0_3 _ _ _ _ _ ha) ?_
      refine J_iload hX dX4_addStripe_156 4 rfl ?_
      refine J_iaload hX dX4_addStripe_158 (ltn (lt_isLa_1 ha) hn) (lay_isLa_1 ha) h (fun h => ?_)
      refine J_aload_n hX dX4_addStripe_159 rfl 0 rfl ?_
      refine J_getR hX dX4_addStripe_160 fl_RX4_30 (ltn (lt_isLa_0 ha) hn) (lo_isLa_0 ha) rfl (rt_isLa_0_9 _ _ _ _ _ ha) ?_
      refine J_iload hX dX4_addStripe_163 5 rfl ?_
      refine J_iaload hX dX4_addStripe_165 (ltn (lt_isLa_7 ha) hn) (lay_isLa_7 ha) h (fun h => ?_)
      refine J_iload_n hX dX4_addStripe_166 rfl 2 rfl ?_
      obtain ⟨r6, m5, h0, h⟩ := bd2_some h
      refine J_callVi (As := [.int v4, .int (gI m (a + 1) (ix v4)), .int (gI m (a + 7) (ix v5)), .int v2]) (st := [.int v4, .ref (a + 2)]) hX dX4_addStripe_167 cw_RX4_93 (by omega) (c_X3_parityOf hn (isLw_isTo hp1) h0) (ltn (lt_isTo_4 hp1) hn) (lo_isTo_4 hp1) (by decide) rfl rfl rfl (Nat.le_of_ble_eq_true rfl) ?_
      clear h0
      refine J_iastore hX dX4_addStripe_170 (ltn (lt_isLa_2 ha) hn) (lay_isLa_2 ha) h (fun m7 h => ?_)
      refine J_aload_n hX dX4_addStripe_171 rfl 0 rfl ?_
      refine J_getR hX dX4_addStripe_172 fl_RX4_45 (ltn (lt_isLa_0 ha) hn) (lo_isLa_0 ha) rfl (rt_isLa_0_14 _ _ _ _ _ ha) ?_
      refine J_aload_n hX dX4_addStripe_175 rfl 0 rfl ?_
      refine J_getR hX dX4_addStripe_176 fl_RX4_30 (ltn (lt_isLa_0 ha) hn) (lo_isLa_0 ha) rfl (rt_isLa_0_9 _ _ _ _ _ ha) ?_
      refine J_iload hX dX4_addStripe_179 5 rfl ?_
      refine J_aload_n hX dX4_addStripe_181 rfl 0 rfl ?_
      refine J_getR hX dX4_addStripe_182 fl_RX4_15 (ltn (lt_isLa_0 ha) hn) (lo_isLa_0 ha) rfl (rt_isLa_0_4 _ _ _ _ _ ha) ?_
      refine J_iload hX dX4_addStripe_185 4 rfl ?_
      refine J_iaload hX dX4_addStripe_187 (ltn (lt_isLa_2 ha) hn) (lay_isLa_2 ha) h (fun h => ?_)
      refine J_iadd hX dX4_addStripe_188 ?_
      refine J_iaload hX dX4_addStripe_189 (ltn (lt_isLa_7 ha) hn) (lay_isLa_7 ha) h (fun h => ?_)
      refine J_dup2 hX dX4_addStripe_190 rfl rfl ?_
      refine J_iaload hX dX4_addStripe_191 (ltn (lt_isLa_12 ha) hn) (lay_isLa_12 ha) h (fun h => ?_)
      refine J_iconst hX (1 : Int32) dX4_addStripe_192 ic_1 ?_
      refine J_iadd hX dX4_addStripe_193 ?_
      refine J_iastore hX dX4_addStripe_194 (ltn (lt_isLa_12 ha) hn) (lay_isLa_12 ha) h (fun m8 h => ?_)
      refine J_aload_n hX dX4_addStripe_195 rfl 0 rfl ?_
      refine J_iload hX dX4_addStripe_196 4 rfl ?_
      obtain ⟨m9, h0, h⟩ := bd1_some h
      refine J_callVv (As := [.int v4]) (st := []) hX dX4_addStripe_198 cw_RX4_98 (by omega) (c_X4_numberData hn ha h0) (ltn (lt_isLa_0 ha) hn) (lo_isLa_0 ha) (by decide) rfl rfl rfl (Nat.le_of_ble_eq_true rfl) ?_
      clear h0
      exact J_return hX dX4_addStripe_201 h hF
theorem t_X4_addStripe {X : XX} {G : GG} {ρ : Nat → Nat} {n t u w v : Nat} {x : Option Nat} {d : Nat} {a : Nat} {p1 : Nat} (hX : Ok X G ρ cX4_addStripe 8 RX4 d) (hd0 : 3 ≤ d) (hn : 126 ≤ n) (ha : isLa a) (hp1 : isTo p1) {mE : Mm} (hF : Fin' X G ρ n none none (RT t u w v x) mE) {x2 : Int32} {x3 : Int32} {m : Mm} (h : f_X4_addStripe a p1 x2 x3 m = some mE) : J X G ρ n 8 0 [(0, .ref a), (1, .ref p1), (2, .int x2), (3, .int x3)] [] (RT t u w v x) m := by
  unfold f_X4_addStripe at h
  refine J_aload_n hX dX4_addStripe_0 rfl 0 rfl ?_
  refine J_getI hX dX4_addStripe_1 fl_RX4_72 (ltn (lt_isLa_0 ha) hn) (lo_isLa_0 ha) rfl ?_
  refine J_istore hX [(4, .int (gI m a 1)), (0, .ref a), (1, .ref p1), (2, .int x2), (3, .int x3)] dX4_addStripe_4 (by decide) rfl ?_
  refine J_aload_n hX dX4_addStripe_6 rfl 1 rfl ?_
  refine J_dup hX dX4_addStripe_7 rfl ?_
  refine J_getI hX dX4_addStripe_8 fl_RX4_72 (ltn (lt_isLa_0 ha) hn) (lo_isLa_0 ha) rfl ?_
  refine J_iconst hX (1 : Int32) dX4_addStripe_11 ic_1 ?_
  refine J_iadd hX dX4_addStripe_12 ?_
  refine J_putI hX dX4_addStripe_13 pl_RX4_72 (ltn (lt_isLa_0 ha) hn) (lo_isLa_0 ha) rfl rfl rfl h (fun m1 h => ?_)
  refine J_aload_n hX dX4_addStripe_16 rfl 1 rfl ?_
  refine J_getR hX dX4_addStripe_17 fl_RX4_18 (ltn (lt_isLa_0 ha) hn) (lo_isLa_0 ha) rfl (rt_isLa_0_5 _ _ _ _ _ ha) ?_
  refine J_iload hX dX4_addStripe_20 0 rfl ?_
  refine J_iload_n hX dX4_addStripe_22 rfl 3 rfl ?_
  refine J_iastore hX dX4_addStripe_23 (ltn (lt_isLa_3 ha) hn) (lay_isLa_3 ha) h (fun m2 h => ?_)
  refine J_aload_n hX dX4_addStripe_24 rfl 1 rfl ?_
  refine J_getR hX dX4_addStripe_25 fl_RX4_9 (ltn (lt_isLa_0 ha) hn) (lo_isLa_0 ha) rfl (rt_isLa_0_3 _ _ _ _ _ ha) ?_
  refine J_iload hX dX4_addStripe_28 0 rfl ?_
  refine J_aload_n hX dX4_addStripe_30 rfl 2 rfl ?_
  refine J_getR hX dX4_addStripe_31 fl_RX4_84 (ltn (lt_isTo_0 hp1) hn) (lo_isTo_0 hp1) rfl (rt_isTo_0_4 _ _ _ _ _ hp1) ?_
  refine J_iload_n hX dX4_addStripe_34 rfl 3 rfl ?_
  refine J_iaload hX dX4_addStripe_35 (ltn (lt_isTo_2 hp1) hn) (lay_isTo_2 hp1) h (fun h => ?_)
  refine J_iastore hX dX4_addStripe_36 (ltn (lt_isLa_1 ha) hn) (lay_isLa_1 ha) h (fun m3 h => ?_)
  refine J_aload_n hX dX4_addStripe_37 rfl 1 rfl ?_
  refine J_getR hX dX4_addStripe_38 fl_RX4_27 (ltn (lt_isLa_0 ha) hn) (lo_isLa_0 ha) rfl (rt_isLa_0_8 _ _ _ _ _ ha) ?_
  refine J_iload hX dX4_addStripe_41 0 rfl ?_
  refine J_iconst hX (0 : Int32) dX4_addStripe_43 ic_0 ?_
  refine J_iastore hX dX4_addStripe_44 (ltn (lt_isLa_6 ha) hn) (lay_isLa_6 ha) h (fun m4 h => ?_)
  refine J_iload hX dX4_addStripe_45 0 rfl ?_
  refine J_iconst hX (5 : Int32) dX4_addStripe_47 ic_5 ?_
  refine J_imul hX dX4_addStripe_48 ?_
  refine J_istore hX [(5, .int ((gI m a 1) * (5 : Int32))), (4, .int (gI m a 1)), (0, .ref a), (1, .ref p1), (2, .int x2), (3, .int x3)] dX4_addStripe_49 (by decide) rfl ?_
  refine J_iconst hX (0 : Int32) dX4_addStripe_51 ic_0 ?_
  refine J_istore hX [(6, .int (0 : Int32)), (5, .int ((gI m a 1) * (5 : Int32))), (4, .int (gI m a 1)), (0, .ref a), (1, .ref p1), (2, .int x2), (3, .int x3)] dX4_addStripe_52 (by decide) rfl ?_
  refine J_sub [(0, .ref a), (1, .ref p1), (2, .int x2), (3, .int x3), (4, .int (gI m a 1)), (5, .int ((gI m a 1) * (5 : Int32))), (6, .int (0 : Int32))] [3, 4, 5, 6, 2, 1, 0] rfl ?_
  exact t_X4_addStripe_L54 hX hd0 hn ha hp1 hF FU x2 x3 (gI m a 1) ((gI m a 1) * (5 : Int32)) (0 : Int32)  m4 h
theorem c_X4_addStripe {G : GG} {l : Launch} {ρ : Nat → Nat} {n t u w v : Nat} {x : Option Nat} (hn : 126 ≤ n) {a : Nat} {p1 : Nat} (ha : isLa a) (hp1 : isTo p1) {x2 : Int32} {x3 : Int32} {m : Mm} {mE : Mm} (h : f_X4_addStripe a p1 x2 x3 m = some mE) : CT G l yX4_addStripe cX4_addStripe 8 none 3 0 0 ρ n (RT t u w v x) [.ref a, .ref p1, .int x2, .int x3] m none (RT t u w v x) mE := ct_of_J (by decide) rfl (Nat.le_of_ble_eq_true rfl) (fun X hX e1 e2 e3 e4 hQ hr hl => t_X4_addStripe hX (Nat.le_refl _) hn ha hp1 ⟨by rw [hQ, e3, e4], hr, hl⟩ h)
theorem t_X4_addSpare_J30 {X : XX} {G : GG} {ρ : Nat → Nat} {n t u w v : Nat} {x : Option Nat} {d : Nat} {a : Nat} (hX : Ok X G ρ cX4_addSpare 5 RX4 d) (hd0 : 0 ≤ d) (hn : 126 ≤ n) (ha : isLa a) {mE : Mm} (hF : Fin' X G ρ n none none (RT t u w v x) mE) {K4 : Int32 → Int32 → Int32 → Mm → Option (Mm)} (v1 : Int32) (v2 : Int32) (v3 : Int32) (s0 : Int32) (hK4 : ∀ (w1 : Int32) (w2 : Int32) (w3 : Int32) (m : Mm), K4 w1 w2 w3 m = some mE → J X G ρ n 5 4 [(0, .ref a), (1, .int w1), (2, .int w2), (3, .int w3)] [] (RT t u w v x) m) (m : Mm) (h : f_X4_addSpare_J30 a K4 v1 v2 v3 s0 m = some mE) : J X G ρ n 5 30 [(0, .ref a), (1, .int v1), (2, .int v2), (3, .int v3)] [.int s0] (RT t u w v x) m := by
  unfold f_X4_addSpare_J30 at h
  refine J_istore hX [(4, .int s0), (0, .ref a), (1, .int v1), (2, .int v2), (3, .int v3)] dX4_addSpare_30 (by decide) rfl ?_
  refine J_iload hX dX4_addSpare_32 0 rfl ?_
  refine J_if_eq hX 59 dX4_addSpare_34 (by decide) h (fun c h => ?_) (fun c h => ?_)
  · refine J_iinc hX (v3 + (1 : Int32)) [(3, .int (v3 + (1 : Int32))), (4, .int s0), (0, .ref a), (1, .int v1), (2, .int v2)] dX4_addSpare_59 4 rfl (congrArg (fun z => v3 + z) ic_1) (by decide) rfl ?_
    refine J_goto hX 4 dX4_addSpare_62 (by decide) ?_
    refine J_sub [(0, .ref a), (1, .int v1), (2, .int v2), (3, .int (v3 + (1 : Int32)))] [2, 3, 4, 0] rfl ?_
    exact hK4 v1 v2 (v3 + (1 : Int32)) m h
  · refine J_iload_n hX dX4_addSpare_37 rfl 3 rfl ?_
    refine J_iconst hX (-1 : Int32) dX4_addSpare_38 ic_m1 ?_
    refine J_icmp_eq hX 57 dX4_addSpare_39 (by decide) h (fun c h => ?_) (fun c h => ?_)
    · refine J_iload_n hX dX4_addSpare_57 rfl 4 rfl ?_
      refine J_istore_n hX [(2, .int v3), (4, .int s0), (0, .ref a), (1, .int v1), (3, .int v3)] dX4_addSpare_58 rfl (by decide) rfl ?_
      refine J_iinc hX (v3 + (1 : Int32)) [(3, .int (v3 + (1 : Int32))), (2, .int v3), (4, .int s0), (0, .ref a), (1, .int v1)] dX4_addSpare_59 4 rfl (congrArg (fun z => v3 + z) ic_1) (by decide) rfl ?_
      refine J_goto hX 4 dX4_addSpare_62 (by decide) ?_
      refine J_sub [(0, .ref a), (1, .int v1), (2, .int v3), (3, .int (v3 + (1 : Int32)))] [3, 4, 1, 0] rfl ?_
      exact hK4 v1 v3 (v3 + (1 : Int32)) m h
    · refine J_aload_n hX dX4_addSpare_42 rfl 1 rfl ?_
      refine J_getR hX dX4_addSpare_43 fl_RX4_48 (ltn (lt_isLa_0 ha) hn) (lo_isLa_0 ha) rfl (rt_isLa_0_15 _ _ _ _ _ ha) ?_
      refine J_iload_n hX dX4_addSpare_46 rfl 4 rfl ?_
      refine J_iaload hX dX4_addSpare_47 (ltn (lt_isLa_13 ha) hn) (lay_isLa_13 ha) h (fun h => ?_)
      refine J_aload_n hX dX4_addSpare_48 rfl 1 rfl ?_
      refine J_getR hX dX4_addSpare_49 fl_RX4_48 (ltn (lt_isLa_0 ha) hn) (lo_isLa_0 ha) rfl (rt_isLa_0_15 _ _ _ _ _ ha) ?_
      refine J_iload_n hX dX4_addSpare_52 rfl 3 rfl ?_
      refine J_iaload hX dX4_addSpare_53 (ltn (lt_isLa_13 ha) hn) (lay_isLa_13 ha) h (fun h => ?_)
      refine J_icmp_ge hX 59 dX4_addSpare_54 (by decide) h (fun c h => ?_) (fun c h => ?_)
      · refine J_iload_n hX dX4_addSpare_57 rfl 4 rfl ?_
        refine J_istore_n hX [(2, .int v3), (4, .int s0), (0, .ref a), (1, .int v1), (3, .int v3)] dX4_addSpare_58 rfl (by decide) rfl ?_
        refine J_iinc hX (v3 + (1 : Int32)) [(3, .int (v3 + (1 : Int32))), (2, .int v3), (4, .int s0), (0, .ref a), (1, .int v1)] dX4_addSpare_59 4 rfl (congrArg (fun z => v3 + z) ic_1) (by decide) rfl ?_
        refine J_goto hX 4 dX4_addSpare_62 (by decide) ?_
        refine J_sub [(0, .ref a), (1, .int v1), (2, .int v3), (3, .int (v3 + (1 : Int32)))] [3, 4, 1, 0] rfl ?_
        exact hK4 v1 v3 (v3 + (1 : Int32)) m h
      · refine J_iinc hX (v3 + (1 : Int32)) [(3, .int (v3 + (1 : Int32))), (4, .int s0), (0, .ref a), (1, .int v1), (2, .int v2)] dX4_addSpare_59 4 rfl (congrArg (fun z => v3 + z) ic_1) (by decide) rfl ?_
        refine J_goto hX 4 dX4_addSpare_62 (by decide) ?_
        refine J_sub [(0, .ref a), (1, .int v1), (2, .int v2), (3, .int (v3 + (1 : Int32)))] [2, 3, 4, 0] rfl ?_
        exact hK4 v1 v2 (v3 + (1 : Int32)) m h
theorem t_X4_addSpare_L4 {X : XX} {G : GG} {ρ : Nat → Nat} {n t u w v : Nat} {x : Option Nat} {d : Nat} {a : Nat} (hX : Ok X G ρ cX4_addSpare 5 RX4 d) (hd0 : 0 ≤ d) (hn : 126 ≤ n) (ha : isLa a) {mE : Mm} (hF : Fin' X G ρ n none none (RT t u w v x) mE) : ∀ (k : Nat) (v1 : Int32) (v2 : Int32) (v3 : Int32) (m : Mm), f_X4_addSpare_L4 a k v1 v2 v3 m = some mE → J X G ρ n 5 4 [(0, .ref a), (1, .int v1), (2, .int v2), (3, .int v3)] [] (RT t u w v x) m := by
  intro k
  induction k with
  | zero => intro _ _ _ _ h; rw [f_X4_addSpare_L4] at h; cases h
  | succ k ih =>
    intro v1 v2 v3 m h
    rw [f_X4_addSpare_L4] at h
    refine J_iload_n hX dX4_addSpare_4 rfl 3 rfl ?_
    refine J_aload_n hX dX4_addSpare_5 rfl 0 rfl ?_
    refine J_getI hX dX4_addSpare_6 fl_RX4_78 (ltn (lt_isLa_0 ha) hn) (lo_isLa_0 ha) rfl ?_
    refine J_icmp_ge hX 65 dX4_addSpare_9 (by decide) h (fun c h => ?_) (fun c h => ?_)
    · refine J_aload_n hX dX4_addSpare_12 rfl 0 rfl ?_
      refine J_getR hX dX4_addSpare_13 fl_RX4_27 (ltn (lt_isLa_0 ha) hn) (lo_isLa_0 ha) rfl (rt_isLa_0_8 _ _ _ _ _ ha) ?_
      refine J_iload_n hX dX4_addSpare_16 rfl 1 rfl ?_
      refine J_iaload hX dX4_addSpare_17 (ltn (lt_isLa_6 ha) hn) (lay_isLa_6 ha) h (fun h => ?_)
      refine J_iload_n hX dX4_addSpare_18 rfl 3 rfl ?_
      refine J_ishr hX dX4_addSpare_19 ?_
      refine J_iconst hX (1 : Int32) dX4_addSpare_20 ic_1 ?_
      refine J_iand hX dX4_addSpare_21 ?_
      refine J_if_ne hX 29 dX4_addSpare_22 (by decide) h (fun c h => ?_) (fun c h => ?_)
      · refine J_iconst hX (1 : Int32) dX4_addSpare_25 ic_1 ?_
        refine J_goto hX 30 dX4_addSpare_26 (by decide) ?_
        exact t_X4_addSpare_J30 hX hd0 hn ha hF v1 v2 v3 (1 : Int32) (fun w1 w2 w3 m h => ih w1 w2 w3 m h) m h
      · refine J_iconst hX (0 : Int32) dX4_addSpare_29 ic_0 ?_
        exact t_X4_addSpare_J30 hX hd0 hn ha hF v1 v2 v3 (0 : Int32) (fun w1 w2 w3 m h => ih w1 w2 w3 m h) m h
    · refine J_aload_n hX dX4_addSpare_65 rfl 0 rfl ?_
      refine J_getR hX dX4_addSpare_66 fl_RX4_21 (ltn (lt_isLa_0 ha) hn) (lo_isLa_0 ha) rfl (rt_isLa_0_6 _ _ _ _ _ ha) ?_
      refine J_iload_n hX dX4_addSpare_69 rfl 1 rfl ?_
      refine J_iload_n hX dX4_addSpare_70 rfl 2 rfl ?_
      refine J_iastore hX dX4_addSpare_71 (ltn (lt_isLa_4 ha) hn) (lay_isLa_4 ha) h (fun m1 h => ?_)
      refine J_aload_n hX dX4_addSpare_72 rfl 0 rfl ?_
      refine J_getR hX dX4_addSpare_73 fl_RX4_24 (ltn (lt_isLa_0 ha) hn) (lo_isLa_0 ha) rfl (rt_isLa_0_7 _ _ _ _ _ ha) ?_
      refine J_iload_n hX dX4_addSpare_76 rfl 1 rfl ?_
      refine J_iconst hX (-1 : Int32) dX4_addSpare_77 ic_m1 ?_
      refine J_iastore hX dX4_addSpare_78 (ltn (lt_isLa_5 ha) hn) (lay_isLa_5 ha) h (fun m2 h => ?_)
      refine J_iload_n hX dX4_addSpare_79 rfl 2 rfl ?_
      refine J_iconst hX (-1 : Int32) dX4_addSpare_80 ic_m1 ?_
      refine J_icmp_eq hX 113 dX4_addSpare_81 (by decide) h (fun c h => ?_) (fun c h => ?_)
      · exact J_return hX dX4_addSpare_113 h hF
      · refine J_aload_n hX dX4_addSpare_84 rfl 0 rfl ?_
        refine J_getR hX dX4_addSpare_85 fl_RX4_24 (ltn (lt_isLa_0 ha) hn) (lo_isLa_0 ha) rfl (rt_isLa_0_7 _ _ _ _ _ ha) ?_
        refine J_iload_n hX dX4_addSpare_88 rfl 1 rfl ?_
        refine J_aload_n hX dX4_addSpare_89 rfl 0 rfl ?_
        refine J_getR hX dX4_addSpare_90 fl_RX4_42 (ltn (lt_isLa_0 ha) hn) (lo_isLa_0 ha) rfl (rt_isLa_0_13 _ _ _ _ _ ha) ?_
        refine J_iload_n hX dX4_addSpare_93 rfl 2 rfl ?_
        refine J_iaload hX dX4_addSpare_94 (ltn (lt_isLa_11 ha) hn) (lay_isLa_11 ha) h (fun h => ?_)
        refine J_aload_n hX dX4_addSpare_95 rfl 0 rfl ?_
        refine J_getR hX dX4_addSpare_96 fl_RX4_48 (ltn (lt_isLa_0 ha) hn) (lo_isLa_0 ha) rfl (rt_isLa_0_15 _ _ _ _ _ ha) ?_
        refine J_iload_n hX dX4_addSpare_99 rfl 2 rfl ?_
        refine J_iaload hX dX4_addSpare_100 (ltn (lt_isLa_13 ha) hn) (lay_isLa_13 ha) h (fun h => ?_)
        refine J_iadd hX dX4_addSpare_101 ?_
        refine J_iastore hX dX4_addSpare_102 (ltn (lt_isLa_5 ha) hn) (lay_isLa_5 ha) h (fun m3 h => ?_)
        refine J_aload_n hX dX4_addSpare_103 rfl 0 rfl ?_
        refine J_getR hX dX4_addSpare_104 fl_RX4_48 (ltn (lt_isLa_0 ha) hn) (lo_isLa_0 ha) rfl (rt_isLa_0_15 _ _ _ _ _ ha) ?_
        refine J_iload_n hX dX4_addSpare_107 rfl 2 rfl ?_
        refine J_dup2 hX dX4_addSpare_108 rfl rfl ?_
        refine J_iaload hX dX4_addSpare_109 (ltn (lt_isLa_13 ha) hn) (lay_isLa_13 ha) h (fun h => ?_)
        refine J_iconst hX (1 : Int32) dX4_addSpare_110 ic_1 ?_
        refine J_iadd hX dX4_addSpare_111 ?_
        refine J_iastore hX dX4_addSpare_112 (ltn (lt_isLa_13 ha) hn) (lay_isLa_13 ha) h (fun m4 h => ?_)
        exact J_return hX dX4_addSpare_113 h hF
theorem t_X4_addSpare {X : XX} {G : GG} {ρ : Nat → Nat} {n t u w v : Nat} {x : Option Nat} {d : Nat} {a : Nat} (hX : Ok X G ρ cX4_addSpare 5 RX4 d) (hd0 : 0 ≤ d) (hn : 126 ≤ n) (ha : isLa a) {mE : Mm} (hF : Fin' X G ρ n none none (RT t u w v x) mE) {x1 : Int32} {m : Mm} (h : f_X4_addSpare a x1 m = some mE) : J X G ρ n 5 0 [(0, .ref a), (1, .int x1)] [] (RT t u w v x) m := by
  unfold f_X4_addSpare at h
  refine J_iconst hX (-1 : Int32) dX4_addSpare_0 ic_m1 ?_
  refine J_istore_n hX [(2, .int (-1 : Int32)), (0, .ref a), (1, .int x1)] dX4_addSpare_1 rfl (by decide) rfl ?_
  refine J_iconst hX (0 : Int32) dX4_addSpare_2 ic_0 ?_
  refine J_istore_n hX [(3, .int (0 : Int32)), (2, .int (-1 : Int32)), (0, .ref a), (1, .int x1)] dX4_addSpare_3 rfl (by decide) rfl ?_
  refine J_sub [(0, .ref a), (1, .int x1), (2, .int (-1 : Int32)), (3, .int (0 : Int32))] [2, 3, 1, 0] rfl ?_
  exact t_X4_addSpare_L4 hX hd0 hn ha hF FU x1 (-1 : Int32) (0 : Int32)  m h
theorem c_X4_addSpare {G : GG} {l : Launch} {ρ : Nat → Nat} {n t u w v : Nat} {x : Option Nat} (hn : 126 ≤ n) {a : Nat} (ha : isLa a) {x1 : Int32} {m : Mm} {mE : Mm} (h : f_X4_addSpare a x1 m = some mE) : CT G l yX4_addSpare cX4_addSpare 5 none 0 0 0 ρ n (RT t u w v x) [.ref a, .int x1] m none (RT t u w v x) mE := ct_of_J (by decide) rfl (Nat.le_of_ble_eq_true rfl) (fun X hX e1 e2 e3 e4 hQ hr hl => t_X4_addSpare hX (Nat.le_refl _) hn ha ⟨by rw [hQ, e3, e4], hr, hl⟩ h)
theorem t_X6_diskNow {X : XX} {G : GG} {ρ : Nat → Nat} {n t u w v : Nat} {x : Option Nat} {d : Nat} {a : Nat} (hX : Ok X G ρ cX6_diskNow 2 RX6 d) (hd0 : 0 ≤ d) (hn : 126 ≤ n) (ha : isSt a) {rE : Int32} {mE : Mm} (hF : Fin' X G ρ n (some .int) (some (.int rE)) (RT t u w v x) mE) {x1 : Int32} {m : Mm} (h : f_X6_diskNow a x1 m = some (rE, mE)) : J X G ρ n 2 0 [(0, .ref a), (1, .int x1)] [] (RT t u w v x) m := by
  unfold f_X6_diskNow at h
  refine J_aload_n hX dX6_diskNow_0 rfl 0 rfl ?_
  refine J_getR hX dX6_diskNow_1 fl_RX6_9 (ltn (lt_isSt_0 ha) hn) (lo_isSt_0 ha) rfl (rt_isSt_0_2 _ _ _ _ _ ha) ?_
  refine J_iload_n hX dX6_diskNow_4 rfl 1 rfl ?_
  refine J_iaload hX dX6_diskNow_5 (ltn (lt_isSt_1 ha) hn) (lay_isSt_1 ha) h (fun h => ?_)
  refine J_iconst hX (2 : Int32) dX6_diskNow_6 ic_2 ?_
  refine J_icmp_ne hX 12 dX6_diskNow_7 (by decide) h (fun c h => ?_) (fun c h => ?_)
  · refine J_iconst hX (-1 : Int32) dX6_diskNow_10 ic_m1 ?_
    exact J_ireturn hX dX6_diskNow_11 h hF rfl
  · refine J_aload_n hX dX6_diskNow_12 rfl 0 rfl ?_
    refine J_getR hX dX6_diskNow_13 fl_RX6_9 (ltn (lt_isSt_0 ha) hn) (lo_isSt_0 ha) rfl (rt_isSt_0_2 _ _ _ _ _ ha) ?_
    refine J_iload_n hX dX6_diskNow_16 rfl 1 rfl ?_
    refine J_iaload hX dX6_diskNow_17 (ltn (lt_isSt_1 ha) hn) (lay_isSt_1 ha) h (fun h => ?_)
    refine J_if_ne hX 33 dX6_diskNow_18 (by decide) h (fun c h => ?_) (fun c h => ?_)
    · refine J_aload_n hX dX6_diskNow_21 rfl 0 rfl ?_
      refine J_getR hX dX6_diskNow_22 fl_RX6_24 (ltn (lt_isSt_0 ha) hn) (lo_isSt_0 ha) rfl (rt_isSt_0_0 _ _ _ _ _ ha) ?_
      refine J_getR hX dX6_diskNow_25 fl_RX6_49 (ltn ltc_26 hn) lo_26 rfl (rt_26_9 _ _ _ _ _) ?_
      refine J_iload_n hX dX6_diskNow_28 rfl 1 rfl ?_
      refine J_iaload hX dX6_diskNow_29 (ltn ltc_33 hn) lay_33 h (fun h => ?_)
      refine J_goto hX 44 dX6_diskNow_30 (by decide) ?_
      exact J_ireturn hX dX6_diskNow_44 h hF rfl
    · refine J_aload_n hX dX6_diskNow_33 rfl 0 rfl ?_
      refine J_getR hX dX6_diskNow_34 fl_RX6_24 (ltn (lt_isSt_0 ha) hn) (lo_isSt_0 ha) rfl (rt_isSt_0_0 _ _ _ _ _ ha) ?_
      refine J_getR hX dX6_diskNow_37 fl_RX6_52 (ltn ltc_26 hn) lo_26 rfl (rt_26_6 _ _ _ _ _) ?_
      refine J_iload_n hX dX6_diskNow_40 rfl 1 rfl ?_
      refine J_iconst hX (5 : Int32) dX6_diskNow_41 ic_5 ?_
      refine J_idiv0 hX dX6_diskNow_42 (by decide) ?_
      refine J_iaload hX dX6_diskNow_43 (ltn ltc_30 hn) lay_30 h (fun h => ?_)
      exact J_ireturn hX dX6_diskNow_44 h hF rfl
theorem c_X6_diskNow {G : GG} {l : Launch} {ρ : Nat → Nat} {n t u w v : Nat} {x : Option Nat} (hn : 126 ≤ n) {a : Nat} (ha : isSt a) {x1 : Int32} {m : Mm} {rE : Int32} {mE : Mm} (h : f_X6_diskNow a x1 m = some (rE, mE)) : CT G l yX6_diskNow cX6_diskNow 2 (some .int) 0 0 0 ρ n (RT t u w v x) [.ref a, .int x1] m (some (.int rE)) (RT t u w v x) mE := ct_of_J (by decide) rfl (Nat.le_of_ble_eq_true rfl) (fun X hX e1 e2 e3 e4 hQ hr hl => t_X6_diskNow hX (Nat.le_refl _) hn ha ⟨by rw [hQ, e3, e4], hr, hl⟩ h)
theorem t_X6_disksNow_L4 {X : XX} {G : GG} {ρ : Nat → Nat} {n t u w v : Nat} {x : Option Nat} {d : Nat} {a : Nat} (hX : Ok X G ρ cX6_disksNow 5 RX6 d) (hd0 : 1 ≤ d) (hn : 126 ≤ n) (ha : isSt a) {rE : Int32} {mE : Mm} (hF : Fin' X G ρ n (some .int) (some (.int rE)) (RT t u w v x) mE) : ∀ (k : Nat) (v1 : Int32) (v2 : Int32) (v3 : Int32) (m : Mm), f_X6_disksNow_L4 a k v1 v2 v3 m = some (rE, mE) → J X G ρ n 5 4 [(0, .ref a), (1, .int v1), (2, .int v2), (3, .int v3)] [] (RT t u w v x) m := by
  intro k
  induction k with
  | zero => intro _ _ _ _ h; rw [f_X6_disksNow_L4] at h; cases h
  | succ k ih =>
    intro v1 v2 v3 m h
    rw [f_X6_disksNow_L4] at h
    refine J_iload_n hX dX6_disksNow_4 rfl 3 rfl ?_
    refine J_aload_n hX dX6_disksNow_5 rfl 0 rfl ?_
    refine J_getR hX dX6_disksNow_6 fl_RX6_24 (ltn (lt_isSt_0 ha) hn) (lo_isSt_0 ha) rfl (rt_isSt_0_0 _ _ _ _ _ ha) ?_
    refine J_getR hX dX6_disksNow_9 fl_RX6_61 (ltn ltc_26 hn) lo_26 rfl (rt_26_3 _ _ _ _ _) ?_
    refine J_iload_n hX dX6_disksNow_12 rfl 1 rfl ?_
    refine J_iaload hX dX6_disksNow_13 (ltn ltc_27 hn) lay_27 h (fun h => ?_)
    refine J_icmp_ge hX 47 dX6_disksNow_14 (by decide) h (fun c h => ?_) (fun c h => ?_)
    · refine J_aload_n hX dX6_disksNow_17 rfl 0 rfl ?_
      refine J_iload_n hX dX6_disksNow_18 rfl 1 rfl ?_
      refine J_iconst hX (5 : Int32) dX6_disksNow_19 ic_5 ?_
      refine J_imul hX dX6_disksNow_20 ?_
      refine J_iload_n hX dX6_disksNow_21 rfl 3 rfl ?_
      refine J_iadd hX dX6_disksNow_22 ?_
      obtain ⟨r2, m1, h0, h⟩ := bd2_some h
      refine J_callVi (As := [.int ((v1 * (5 : Int32)) + v3)]) (st := []) hX dX6_disksNow_23 cw_RX6_73 (by omega) (c_X6_diskNow hn ha h0) (ltn (lt_isSt_0 ha) hn) (lo_isSt_0 ha) (by decide) rfl rfl rfl (Nat.le_of_ble_eq_true rfl) ?_
      clear h0
      refine J_istore hX [(4, .int r2), (0, .ref a), (1, .int v1), (2, .int v2), (3, .int v3)] dX6_disksNow_26 (by decide) rfl ?_
      refine J_iload hX dX6_disksNow_28 0 rfl ?_
      refine J_iconst hX (-1 : Int32) dX6_disksNow_30 ic_m1 ?_
      refine J_icmp_eq hX 41 dX6_disksNow_31 (by decide) h (fun c h => ?_) (fun c h => ?_)
      · refine J_iinc hX (v3 + (1 : Int32)) [(3, .int (v3 + (1 : Int32))), (4, .int r2), (0, .ref a), (1, .int v1), (2, .int v2)] dX6_disksNow_41 4 rfl (congrArg (fun z => v3 + z) ic_1) (by decide) rfl ?_
        refine J_goto hX 4 dX6_disksNow_44 (by decide) ?_
        refine J_sub [(0, .ref a), (1, .int v1), (2, .int v2), (3, .int (v3 + (1 : Int32)))] [2, 3, 4, 0] rfl ?_
        exact ih v1 v2 (v3 + (1 : Int32)) m1 h
      · refine J_iload_n hX dX6_disksNow_34 rfl 3 rfl ?_
        refine J_iconst hX (1 : Int32) dX6_disksNow_35 ic_1 ?_
        refine J_iload hX dX6_disksNow_36 0 rfl ?_
        refine J_ishl hX dX6_disksNow_38 ?_
        refine J_ior hX dX6_disksNow_39 ?_
        refine J_istore_n hX [(2, .int (v2 ||| ((1 : Int32) <<< (r2 &&& 31)))), (4, .int r2), (0, .ref a), (1, .int v1), (3, .int v3)] dX6_disksNow_40 rfl (by decide) rfl ?_
        refine J_iinc hX (v3 + (1 : Int32)) [(3, .int (v3 + (1 : Int32))), (2, .int (v2 ||| ((1 : Int32) <<< (r2 &&& 31)))), (4, .int r2), (0, .ref a), (1, .int v1)] dX6_disksNow_41 4 rfl (congrArg (fun z => v3 + z) ic_1) (by decide) rfl ?_
        refine J_goto hX 4 dX6_disksNow_44 (by decide) ?_
        refine J_sub [(0, .ref a), (1, .int v1), (2, .int (v2 ||| ((1 : Int32) <<< (r2 &&& 31)))), (3, .int (v3 + (1 : Int32)))] [3, 4, 1, 0] rfl ?_
        exact ih v1 (v2 ||| ((1 : Int32) <<< (r2 &&& 31))) (v3 + (1 : Int32)) m1 h
    · refine J_iload_n hX dX6_disksNow_47 rfl 2 rfl ?_
      exact J_ireturn hX dX6_disksNow_48 h hF rfl
theorem t_X6_disksNow {X : XX} {G : GG} {ρ : Nat → Nat} {n t u w v : Nat} {x : Option Nat} {d : Nat} {a : Nat} (hX : Ok X G ρ cX6_disksNow 5 RX6 d) (hd0 : 1 ≤ d) (hn : 126 ≤ n) (ha : isSt a) {rE : Int32} {mE : Mm} (hF : Fin' X G ρ n (some .int) (some (.int rE)) (RT t u w v x) mE) {x1 : Int32} {m : Mm} (h : f_X6_disksNow a x1 m = some (rE, mE)) : J X G ρ n 5 0 [(0, .ref a), (1, .int x1)] [] (RT t u w v x) m := by
  unfold f_X6_disksNow at h
  refine J_iconst hX (0 : Int32) dX6_disksNow_0 ic_0 ?_
  refine J_istore_n hX [(2, .int (0 : Int32)), (0, .ref a), (1, .int x1)] dX6_disksNow_1 rfl (by decide) rfl ?_
  refine J_iconst hX (0 : Int32) dX6_disksNow_2 ic_0 ?_
  refine J_istore_n hX [(3, .int (0 : Int32)), (2, .int (0 : Int32)), (0, .ref a), (1, .int x1)] dX6_disksNow_3 rfl (by decide) rfl ?_
  refine J_sub [(0, .ref a), (1, .int x1), (2, .int (0 : Int32)), (3, .int (0 : Int32))] [2, 3, 1, 0] rfl ?_
  exact t_X6_disksNow_L4 hX hd0 hn ha hF FU x1 (0 : Int32) (0 : Int32)  m h
theorem c_X6_disksNow {G : GG} {l : Launch} {ρ : Nat → Nat} {n t u w v : Nat} {x : Option Nat} (hn : 126 ≤ n) {a : Nat} (ha : isSt a) {x1 : Int32} {m : Mm} {rE : Int32} {mE : Mm} (h : f_X6_disksNow a x1 m = some (rE, mE)) : CT G l yX6_disksNow cX6_disksNow 5 (some .int) 1 0 0 ρ n (RT t u w v x) [.ref a, .int x1] m (some (.int rE)) (RT t u w v x) mE := ct_of_J (by decide) rfl (Nat.le_of_ble_eq_true rfl) (fun X hX e1 e2 e3 e4 hQ hr hl => t_X6_disksNow hX (Nat.le_refl _) hn ha ⟨by rw [hQ, e3, e4], hr, hl⟩ h)
theorem t_X6_lostBits_L4 {X : XX} {G : GG} {ρ : Nat → Nat} {n t u w v : Nat} {x : Option Nat} {d : Nat} {a : Nat} (hX : Ok X G ρ cX6_lostBits 4 RX6 d) (hd0 : 0 ≤ d) (hn : 126 ≤ n) (ha : isSt a) {rE : Int32} {mE : Mm} (hF : Fin' X G ρ n (some .int) (some (.int rE)) (RT t u w v x) mE) : ∀ (k : Nat) (v1 : Int32) (v2 : Int32) (v3 : Int32) (m : Mm), f_X6_lostBits_L4 a k v1 v2 v3 m = some (rE, mE) → J X G ρ n 4 4 [(0, .ref a), (1, .int v1), (2, .int v2), (3, .int v3)] [] (RT t u w v x) m := by
  intro k
  induction k with
  | zero => intro _ _ _ _ h; rw [f_X6_lostBits_L4] at h; cases h
  | succ k ih =>
    intro v1 v2 v3 m h
    rw [f_X6_lostBits_L4] at h
    refine J_iload_n hX dX6_lostBits_4 rfl 3 rfl ?_
    refine J_aload_n hX dX6_lostBits_5 rfl 0 rfl ?_
    refine J_getR hX dX6_lostBits_6 fl_RX6_24 (ltn (lt_isSt_0 ha) hn) (lo_isSt_0 ha) rfl (rt_isSt_0_0 _ _ _ _ _ ha) ?_
    refine J_getR hX dX6_lostBits_9 fl_RX6_61 (ltn ltc_26 hn) lo_26 rfl (rt_26_3 _ _ _ _ _) ?_
    refine J_iload_n hX dX6_lostBits_12 rfl 1 rfl ?_
    refine J_iaload hX dX6_lostBits_13 (ltn ltc_27 hn) lay_27 h (fun h => ?_)
    refine J_icmp_ge hX 43 dX6_lostBits_14 (by decide) h (fun c h => ?_) (fun c h => ?_)
    · refine J_aload_n hX dX6_lostBits_17 rfl 0 rfl ?_
      refine J_getR hX dX6_lostBits_18 fl_RX6_9 (ltn (lt_isSt_0 ha) hn) (lo_isSt_0 ha) rfl (rt_isSt_0_2 _ _ _ _ _ ha) ?_
      refine J_iload_n hX dX6_lostBits_21 rfl 1 rfl ?_
      refine J_iconst hX (5 : Int32) dX6_lostBits_22 ic_5 ?_
      refine J_imul hX dX6_lostBits_23 ?_
      refine J_iload_n hX dX6_lostBits_24 rfl 3 rfl ?_
      refine J_iadd hX dX6_lostBits_25 ?_
      refine J_iaload hX dX6_lostBits_26 (ltn (lt_isSt_1 ha) hn) (lay_isSt_1 ha) h (fun h => ?_)
      refine J_iconst hX (2 : Int32) dX6_lostBits_27 ic_2 ?_
      refine J_icmp_ne hX 37 dX6_lostBits_28 (by decide) h (fun c h => ?_) (fun c h => ?_)
      · refine J_iload_n hX dX6_lostBits_31 rfl 2 rfl ?_
        refine J_iconst hX (1 : Int32) dX6_lostBits_32 ic_1 ?_
        refine J_iload_n hX dX6_lostBits_33 rfl 3 rfl ?_
        refine J_ishl hX dX6_lostBits_34 ?_
        refine J_ior hX dX6_lostBits_35 ?_
        refine J_istore_n hX [(2, .int (v2 ||| ((1 : Int32) <<< (v3 &&& 31)))), (0, .ref a), (1, .int v1), (3, .int v3)] dX6_lostBits_36 rfl (by decide) rfl ?_
        refine J_iinc hX (v3 + (1 : Int32)) [(3, .int (v3 + (1 : Int32))), (2, .int (v2 ||| ((1 : Int32) <<< (v3 &&& 31)))), (0, .ref a), (1, .int v1)] dX6_lostBits_37 3 rfl (congrArg (fun z => v3 + z) ic_1) (by decide) rfl ?_
        refine J_goto hX 4 dX6_lostBits_40 (by decide) ?_
        refine J_sub [(0, .ref a), (1, .int v1), (2, .int (v2 ||| ((1 : Int32) <<< (v3 &&& 31)))), (3, .int (v3 + (1 : Int32)))] [2, 3, 1, 0] rfl ?_
        exact ih v1 (v2 ||| ((1 : Int32) <<< (v3 &&& 31))) (v3 + (1 : Int32)) m h
      · refine J_iinc hX (v3 + (1 : Int32)) [(3, .int (v3 + (1 : Int32))), (0, .ref a), (1, .int v1), (2, .int v2)] dX6_lostBits_37 3 rfl (congrArg (fun z => v3 + z) ic_1) (by decide) rfl ?_
        refine J_goto hX 4 dX6_lostBits_40 (by decide) ?_
        refine J_sub [(0, .ref a), (1, .int v1), (2, .int v2), (3, .int (v3 + (1 : Int32)))] [1, 2, 3, 0] rfl ?_
        exact ih v1 v2 (v3 + (1 : Int32)) m h
    · refine J_iload_n hX dX6_lostBits_43 rfl 2 rfl ?_
      exact J_ireturn hX dX6_lostBits_44 h hF rfl
theorem t_X6_lostBits {X : XX} {G : GG} {ρ : Nat → Nat} {n t u w v : Nat} {x : Option Nat} {d : Nat} {a : Nat} (hX : Ok X G ρ cX6_lostBits 4 RX6 d) (hd0 : 0 ≤ d) (hn : 126 ≤ n) (ha : isSt a) {rE : Int32} {mE : Mm} (hF : Fin' X G ρ n (some .int) (some (.int rE)) (RT t u w v x) mE) {x1 : Int32} {m : Mm} (h : f_X6_lostBits a x1 m = some (rE, mE)) : J X G ρ n 4 0 [(0, .ref a), (1, .int x1)] [] (RT t u w v x) m := by
  unfold f_X6_lostBits at h
  refine J_iconst hX (0 : Int32) dX6_lostBits_0 ic_0 ?_
  refine J_istore_n hX [(2, .int (0 : Int32)), (0, .ref a), (1, .int x1)] dX6_lostBits_1 rfl (by decide) rfl ?_
  refine J_iconst hX (0 : Int32) dX6_lostBits_2 ic_0 ?_
  refine J_istore_n hX [(3, .int (0 : Int32)), (2, .int (0 : Int32)), (0, .ref a), (1, .int x1)] dX6_lostBits_3 rfl (by decide) rfl ?_
  refine J_sub [(0, .ref a), (1, .int x1), (2, .int (0 : Int32)), (3, .int (0 : Int32))] [2, 3, 1, 0] rfl ?_
  exact t_X6_lostBits_L4 hX hd0 hn ha hF FU x1 (0 : Int32) (0 : Int32)  m h
theorem c_X6_lostBits {G : GG} {l : Launch} {ρ : Nat → Nat} {n t u w v : Nat} {x : Option Nat} (hn : 126 ≤ n) {a : Nat} (ha : isSt a) {x1 : Int32} {m : Mm} {rE : Int32} {mE : Mm} (h : f_X6_lostBits a x1 m = some (rE, mE)) : CT G l yX6_lostBits cX6_lostBits 4 (some .int) 0 0 0 ρ n (RT t u w v x) [.ref a, .int x1] m (some (.int rE)) (RT t u w v x) mE := ct_of_J (by decide) rfl (Nat.le_of_ble_eq_true rfl) (fun X hX e1 e2 e3 e4 hQ hr hl => t_X6_lostBits hX (Nat.le_refl _) hn ha ⟨by rw [hQ, e3, e4], hr, hl⟩ h)
theorem t_X6_awayUnit_L2 {X : XX} {G : GG} {ρ : Nat → Nat} {n t u w v : Nat} {x : Option Nat} {d : Nat} {a : Nat} (hX : Ok X G ρ cX6_awayUnit 3 RX6 d) (hd0 : 0 ≤ d) (hn : 126 ≤ n) (ha : isSt a) {rE : Int32} {mE : Mm} (hF : Fin' X G ρ n (some .int) (some (.int rE)) (RT t u w v x) mE) : ∀ (k : Nat) (v1 : Int32) (v2 : Int32) (m : Mm), f_X6_awayUnit_L2 a k v1 v2 m = some (rE, mE) → J X G ρ n 3 2 [(0, .ref a), (1, .int v1), (2, .int v2)] [] (RT t u w v x) m := by
  intro k
  induction k with
  | zero => intro _ _ _ h; rw [f_X6_awayUnit_L2] at h; cases h
  | succ k ih =>
    intro v1 v2 m h
    rw [f_X6_awayUnit_L2] at h
    refine J_iload_n hX dX6_awayUnit_2 rfl 2 rfl ?_
    refine J_aload_n hX dX6_awayUnit_3 rfl 0 rfl ?_
    refine J_getR hX dX6_awayUnit_4 fl_RX6_24 (ltn (lt_isSt_0 ha) hn) (lo_isSt_0 ha) rfl (rt_isSt_0_0 _ _ _ _ _ ha) ?_
    refine J_getR hX dX6_awayUnit_7 fl_RX6_61 (ltn ltc_26 hn) lo_26 rfl (rt_26_3 _ _ _ _ _) ?_
    refine J_iload_n hX dX6_awayUnit_10 rfl 1 rfl ?_
    refine J_iaload hX dX6_awayUnit_11 (ltn ltc_27 hn) lay_27 h (fun h => ?_)
    refine J_icmp_ge hX 37 dX6_awayUnit_12 (by decide) h (fun c h => ?_) (fun c h => ?_)
    · refine J_aload_n hX dX6_awayUnit_15 rfl 0 rfl ?_
      refine J_getR hX dX6_awayUnit_16 fl_RX6_9 (ltn (lt_isSt_0 ha) hn) (lo_isSt_0 ha) rfl (rt_isSt_0_2 _ _ _ _ _ ha) ?_
      refine J_iload_n hX dX6_awayUnit_19 rfl 1 rfl ?_
      refine J_iconst hX (5 : Int32) dX6_awayUnit_20 ic_5 ?_
      refine J_imul hX dX6_awayUnit_21 ?_
      refine J_iload_n hX dX6_awayUnit_22 rfl 2 rfl ?_
      refine J_iadd hX dX6_awayUnit_23 ?_
      refine J_iaload hX dX6_awayUnit_24 (ltn (lt_isSt_1 ha) hn) (lay_isSt_1 ha) h (fun h => ?_)
      refine J_iconst hX (1 : Int32) dX6_awayUnit_25 ic_1 ?_
      refine J_icmp_ne hX 31 dX6_awayUnit_26 (by decide) h (fun c h => ?_) (fun c h => ?_)
      · refine J_iload_n hX dX6_awayUnit_29 rfl 2 rfl ?_
        exact J_ireturn hX dX6_awayUnit_30 h hF rfl
      · refine J_iinc hX (v2 + (1 : Int32)) [(2, .int (v2 + (1 : Int32))), (0, .ref a), (1, .int v1)] dX6_awayUnit_31 2 rfl (congrArg (fun z => v2 + z) ic_1) (by decide) rfl ?_
        refine J_goto hX 2 dX6_awayUnit_34 (by decide) ?_
        refine J_sub [(0, .ref a), (1, .int v1), (2, .int (v2 + (1 : Int32)))] [1, 2, 0] rfl ?_
        exact ih v1 (v2 + (1 : Int32)) m h
    · refine J_iconst hX (-1 : Int32) dX6_awayUnit_37 ic_m1 ?_
      exact J_ireturn hX dX6_awayUnit_38 h hF rfl
theorem t_X6_awayUnit {X : XX} {G : GG} {ρ : Nat → Nat} {n t u w v : Nat} {x : Option Nat} {d : Nat} {a : Nat} (hX : Ok X G ρ cX6_awayUnit 3 RX6 d) (hd0 : 0 ≤ d) (hn : 126 ≤ n) (ha : isSt a) {rE : Int32} {mE : Mm} (hF : Fin' X G ρ n (some .int) (some (.int rE)) (RT t u w v x) mE) {x1 : Int32} {m : Mm} (h : f_X6_awayUnit a x1 m = some (rE, mE)) : J X G ρ n 3 0 [(0, .ref a), (1, .int x1)] [] (RT t u w v x) m := by
  unfold f_X6_awayUnit at h
  refine J_iconst hX (0 : Int32) dX6_awayUnit_0 ic_0 ?_
  refine J_istore_n hX [(2, .int (0 : Int32)), (0, .ref a), (1, .int x1)] dX6_awayUnit_1 rfl (by decide) rfl ?_
  refine J_sub [(0, .ref a), (1, .int x1), (2, .int (0 : Int32))] [1, 2, 0] rfl ?_
  exact t_X6_awayUnit_L2 hX hd0 hn ha hF FU x1 (0 : Int32)  m h
theorem c_X6_awayUnit {G : GG} {l : Launch} {ρ : Nat → Nat} {n t u w v : Nat} {x : Option Nat} (hn : 126 ≤ n) {a : Nat} (ha : isSt a) {x1 : Int32} {m : Mm} {rE : Int32} {mE : Mm} (h : f_X6_awayUnit a x1 m = some (rE, mE)) : CT G l yX6_awayUnit cX6_awayUnit 3 (some .int) 0 0 0 ρ n (RT t u w v x) [.ref a, .int x1] m (some (.int rE)) (RT t u w v x) mE := ct_of_J (by decide) rfl (Nat.le_of_ble_eq_true rfl) (fun X hX e1 e2 e3 e4 hQ hr hl => t_X6_awayUnit hX (Nat.le_refl _) hn ha ⟨by rw [hQ, e3, e4], hr, hl⟩ h)
theorem t_X6_isUp {X : XX} {G : GG} {ρ : Nat → Nat} {n t u w v : Nat} {x : Option Nat} {d : Nat} {a : Nat} (hX : Ok X G ρ cX6_isUp 2 RX6 d) (hd0 : 0 ≤ d) (hn : 126 ≤ n) (ha : isSt a) {rE : Int32} {mE : Mm} (hF : Fin' X G ρ n (some .boolean) (some (.int rE)) (RT t u w v x) mE) {x1 : Int32} {m : Mm} (h : f_X6_isUp a x1 m = some (rE, mE)) : J X G ρ n 2 0 [(0, .ref a), (1, .int x1)] [] (RT t u w v x) m := by
  unfold f_X6_isUp at h
  refine J_iload_n hX dX6_isUp_0 rfl 1 rfl ?_
  refine J_if_lt hX 19 dX6_isUp_1 (by decide) h (fun c h => ?_) (fun c h => ?_)
  · refine J_iconst hX (0 : Int32) dX6_isUp_19 ic_0 ?_
    exact J_ireturn hX dX6_isUp_20 h hF narrow_b0
  · refine J_aload_n hX dX6_isUp_4 rfl 0 rfl ?_
    refine J_getI hX dX6_isUp_5 fl_RX6_34 (ltn (lt_isSt_0 ha) hn) (lo_isSt_0 ha) rfl ?_
    refine J_iload_n hX dX6_isUp_8 rfl 1 rfl ?_
    refine J_ishr hX dX6_isUp_9 ?_
    refine J_iconst hX (1 : Int32) dX6_isUp_10 ic_1 ?_
    refine J_iand hX dX6_isUp_11 ?_
    refine J_if_eq hX 19 dX6_isUp_12 (by decide) h (fun c h => ?_) (fun c h => ?_)
    · refine J_iconst hX (0 : Int32) dX6_isUp_19 ic_0 ?_
      exact J_ireturn hX dX6_isUp_20 h hF narrow_b0
    · refine J_iconst hX (1 : Int32) dX6_isUp_15 ic_1 ?_
      refine J_goto hX 20 dX6_isUp_16 (by decide) ?_
      exact J_ireturn hX dX6_isUp_20 h hF narrow_b1
theorem c_X6_isUp {G : GG} {l : Launch} {ρ : Nat → Nat} {n t u w v : Nat} {x : Option Nat} (hn : 126 ≤ n) {a : Nat} (ha : isSt a) {x1 : Int32} {m : Mm} {rE : Int32} {mE : Mm} (h : f_X6_isUp a x1 m = some (rE, mE)) : CT G l yX6_isUp cX6_isUp 2 (some .boolean) 0 0 0 ρ n (RT t u w v x) [.ref a, .int x1] m (some (.int rE)) (RT t u w v x) mE := ct_of_J (by decide) rfl (Nat.le_of_ble_eq_true rfl) (fun X hX e1 e2 e3 e4 hQ hr hl => t_X6_isUp hX (Nat.le_refl _) hn ha ⟨by rw [hQ, e3, e4], hr, hl⟩ h)
theorem t_X5_rebuiltIntoSpares_J70 {X : XX} {G : GG} {ρ : Nat → Nat} {n t u w v : Nat} {x : Option Nat} {d : Nat} (hX : Ok X G ρ cX5_rebuiltIntoSpares 7 RX5 d) (hd0 : 2 ≤ d) (hn : 126 ≤ n) {rE : Int64} {mE : Mm} (hF : Fin' X G ρ n (some .long) (some (.long rE)) (RT t u w v x) mE) {K5 : Int32 → Int64 → Int32 → Mm → Option (Int64 × Mm)} (v1 : Int32) (v2 : Int64) (v4 : Int32) (v5 : Int32) (s0 : Int32) (hK5 : ∀ (w1 : Int32) (w2 : Int64) (w4 : Int32) (m : Mm), K5 w1 w2 w4 m = some (rE, mE) → J X G ρ n 7 5 [(0, .ref 76), (1, .int w1), (2, .long w2), (4, .int w4)] [] (RT t u w v x) m) (m : Mm) (h : f_X5_rebuiltIntoSpares_J70 K5 v1 v2 v4 v5 s0 m = some (rE, mE)) : J X G ρ n 7 70 [(0, .ref 76), (1, .int v1), (2, .long v2), (4, .int v4), (5, .int v5)] [.int s0] (RT t u w v x) m := by
  unfold f_X5_rebuiltIntoSpares_J70 at h
  refine J_istore hX [(6, .int s0), (0, .ref 76), (1, .int v1), (2, .long v2), (4, .int v4), (5, .int v5)] dX5_rebuiltIntoSpares_70 (by decide) rfl ?_
  refine J_iload hX dX5_rebuiltIntoSpares_72 5 rfl ?_
  refine J_if_eq hX 109 dX5_rebuiltIntoSpares_74 (by decide) h (fun c h => ?_) (fun c h => ?_)
  · refine J_iinc hX (v4 + (1 : Int32)) [(4, .int (v4 + (1 : Int32))), (6, .int s0), (0, .ref 76), (1, .int v1), (2, .long v2), (5, .int v5)] dX5_rebuiltIntoSpares_109 4 rfl (congrArg (fun z => v4 + z) ic_1) (by decide) rfl ?_
    refine J_goto hX 5 dX5_rebuiltIntoSpares_112 (by decide) ?_
    refine J_sub [(0, .ref 76), (1, .int v1), (2, .long v2), (4, .int (v4 + (1 : Int32)))] [2, 3, 4, 0] rfl ?_
    exact hK5 v1 v2 (v4 + (1 : Int32)) m h
  · refine J_iload hX dX5_rebuiltIntoSpares_77 0 rfl ?_
    refine J_if_eq hX 109 dX5_rebuiltIntoSpares_79 (by decide) h (fun c h => ?_) (fun c h => ?_)
    · refine J_iinc hX (v4 + (1 : Int32)) [(4, .int (v4 + (1 : Int32))), (6, .int s0), (0, .ref 76), (1, .int v1), (2, .long v2), (5, .int v5)] dX5_rebuiltIntoSpares_109 4 rfl (congrArg (fun z => v4 + z) ic_1) (by decide) rfl ?_
      refine J_goto hX 5 dX5_rebuiltIntoSpares_112 (by decide) ?_
      refine J_sub [(0, .ref 76), (1, .int v1), (2, .long v2), (4, .int (v4 + (1 : Int32)))] [2, 3, 4, 0] rfl ?_
      exact hK5 v1 v2 (v4 + (1 : Int32)) m h
    · refine J_aload_n hX dX5_rebuiltIntoSpares_82 rfl 1 rfl ?_
      refine J_getR hX dX5_rebuiltIntoSpares_83 fl_RX5_15 (ltn ltc_76 hn) lo_76 rfl (rt_76_0 _ _ _ _ _) ?_
      refine J_aload_n hX dX5_rebuiltIntoSpares_86 rfl 1 rfl ?_
      refine J_getR hX dX5_rebuiltIntoSpares_87 fl_RX5_19 (ltn ltc_76 hn) lo_76 rfl (rt_76_1 _ _ _ _ _) ?_
      refine J_getR hX dX5_rebuiltIntoSpares_90 fl_RX5_49 (ltn ltc_26 hn) lo_26 rfl (rt_26_6 _ _ _ _ _) ?_
      refine J_iload hX dX5_rebuiltIntoSpares_93 4 rfl ?_
      refine J_iaload hX dX5_rebuiltIntoSpares_95 (ltn ltc_30 hn) lay_30 h (fun h => ?_)
      obtain ⟨r6, m5, h0, h⟩ := bd2_some h
      refine J_callVi (As := [.int (gI m 30 (ix v4))]) (st := []) hX dX5_rebuiltIntoSpares_96 cw_RX5_52 (by omega) (c_X6_isUp hn p_isSt_54 h0) (ltn ltc_54 hn) lo_54 (by decide) rfl rfl rfl (Nat.le_of_ble_eq_true rfl) ?_
      clear h0
      refine J_if_eq hX 109 dX5_rebuiltIntoSpares_99 (by decide) h (fun c h => ?_) (fun c h => ?_)
      · refine J_iinc hX (v4 + (1 : Int32)) [(4, .int (v4 + (1 : Int32))), (6, .int s0), (0, .ref 76), (1, .int v1), (2, .long v2), (5, .int v5)] dX5_rebuiltIntoSpares_109 4 rfl (congrArg (fun z => v4 + z) ic_1) (by decide) rfl ?_
        refine J_goto hX 5 dX5_rebuiltIntoSpares_112 (by decide) ?_
        refine J_sub [(0, .ref 76), (1, .int v1), (2, .long v2), (4, .int (v4 + (1 : Int32)))] [2, 3, 4, 0] rfl ?_
        exact hK5 v1 v2 (v4 + (1 : Int32)) m5 h
      · refine J_lload_n hX dX5_rebuiltIntoSpares_102 rfl 3 rfl ?_
        refine J_lconst hX (1 : Int64) dX5_rebuiltIntoSpares_103 (by decide) ?_
        refine J_iload hX dX5_rebuiltIntoSpares_104 4 rfl ?_
        refine J_lshl hX dX5_rebuiltIntoSpares_106 ?_
        refine J_lor hX dX5_rebuiltIntoSpares_107 ?_
        refine J_lstore_n hX [(2, .long (v2 ||| ((1 : Int64) <<< (v4.toInt64 &&& 63)))), (6, .int s0), (0, .ref 76), (1, .int v1), (4, .int v4), (5, .int v5)] dX5_rebuiltIntoSpares_108 rfl (by decide) rfl ?_
        refine J_iinc hX (v4 + (1 : Int32)) [(4, .int (v4 + (1 : Int32))), (2, .long (v2 ||| ((1 : Int64) <<< (v4.toInt64 &&& 63)))), (6, .int s0), (0, .ref 76), (1, .int v1), (5, .int v5)] dX5_rebuiltIntoSpares_109 4 rfl (congrArg (fun z => v4 + z) ic_1) (by decide) rfl ?_
        refine J_goto hX 5 dX5_rebuiltIntoSpares_112 (by decide) ?_
        refine J_sub [(0, .ref 76), (1, .int v1), (2, .long (v2 ||| ((1 : Int64) <<< (v4.toInt64 &&& 63)))), (4, .int (v4 + (1 : Int32)))] [3, 4, 1, 0] rfl ?_
        exact hK5 v1 (v2 ||| ((1 : Int64) <<< (v4.toInt64 &&& 63))) (v4 + (1 : Int32)) m5 h
theorem t_X5_rebuiltIntoSpares_J69 {X : XX} {G : GG} {ρ : Nat → Nat} {n t u w v : Nat} {x : Option Nat} {d : Nat} (hX : Ok X G ρ cX5_rebuiltIntoSpares 7 RX5 d) (hd0 : 2 ≤ d) (hn : 126 ≤ n) {rE : Int64} {mE : Mm} (hF : Fin' X G ρ n (some .long) (some (.long rE)) (RT t u w v x) mE) {K5 : Int32 → Int64 → Int32 → Mm → Option (Int64 × Mm)} (v1 : Int32) (v2 : Int64) (v4 : Int32) (v5 : Int32) (hK5 : ∀ (w1 : Int32) (w2 : Int64) (w4 : Int32) (m : Mm), K5 w1 w2 w4 m = some (rE, mE) → J X G ρ n 7 5 [(0, .ref 76), (1, .int w1), (2, .long w2), (4, .int w4)] [] (RT t u w v x) m) (m : Mm) (h : f_X5_rebuiltIntoSpares_J69 K5 v1 v2 v4 v5 m = some (rE, mE)) : J X G ρ n 7 69 [(0, .ref 76), (1, .int v1), (2, .long v2), (4, .int v4), (5, .int v5)] [] (RT t u w v x) m := by
  unfold f_X5_rebuiltIntoSpares_J69 at h
  refine J_iconst hX (0 : Int32) dX5_rebuiltIntoSpares_69 ic_0 ?_
  exact t_X5_rebuiltIntoSpares_J70 hX hd0 hn hF v1 v2 v4 v5 (0 : Int32) hK5 m h
theorem t_X5_rebuiltIntoSpares_J38 {X : XX} {G : GG} {ρ : Nat → Nat} {n t u w v : Nat} {x : Option Nat} {d : Nat} (hX : Ok X G ρ cX5_rebuiltIntoSpares 7 RX5 d) (hd0 : 2 ≤ d) (hn : 126 ≤ n) {rE : Int64} {mE : Mm} (hF : Fin' X G ρ n (some .long) (some (.long rE)) (RT t u w v x) mE) {K5 : Int32 → Int64 → Int32 → Mm → Option (Int64 × Mm)} (v1 : Int32) (v2 : Int64) (v4 : Int32) (s0 : Int32) (hK5 : ∀ (w1 : Int32) (w2 : Int64) (w4 : Int32) (m : Mm), K5 w1 w2 w4 m = some (rE, mE) → J X G ρ n 7 5 [(0, .ref 76), (1, .int w1), (2, .long w2), (4, .int w4)] [] (RT t u w v x) m) (m : Mm) (h : f_X5_rebuiltIntoSpares_J38 K5 v1 v2 v4 s0 m = some (rE, mE)) : J X G ρ n 7 38 [(0, .ref 76), (1, .int v1), (2, .long v2), (4, .int v4)] [.int s0] (RT t u w v x) m := by
  unfold f_X5_rebuiltIntoSpares_J38 at h
  refine J_istore hX [(5, .int s0), (0, .ref 76), (1, .int v1), (2, .long v2), (4, .int v4)] dX5_rebuiltIntoSpares_38 (by decide) rfl ?_
  refine J_aload_n hX dX5_rebuiltIntoSpares_40 rfl 1 rfl ?_
  refine J_getR hX dX5_rebuiltIntoSpares_41 fl_RX5_15 (ltn ltc_76 hn) lo_76 rfl (rt_76_0 _ _ _ _ _) ?_
  refine J_iload hX dX5_rebuiltIntoSpares_44 4 rfl ?_
  obtain ⟨r4, m3, h0, h⟩ := bd2_some h
  refine J_callVi (As := [.int v4]) (st := []) hX dX5_rebuiltIntoSpares_46 cw_RX5_29 (by omega) (c_X6_lostBits hn p_isSt_54 h0) (ltn ltc_54 hn) lo_54 (by decide) rfl rfl rfl (Nat.le_of_ble_eq_true rfl) ?_
  clear h0
  refine J_if_ne hX 69 dX5_rebuiltIntoSpares_49 (by decide) h (fun c h => ?_) (fun c h => ?_)
  · refine J_aload_n hX dX5_rebuiltIntoSpares_52 rfl 1 rfl ?_
    refine J_getR hX dX5_rebuiltIntoSpares_53 fl_RX5_15 (ltn ltc_76 hn) lo_76 rfl (rt_76_0 _ _ _ _ _) ?_
    refine J_iload hX dX5_rebuiltIntoSpares_56 4 rfl ?_
    obtain ⟨r8, m7, h0, h⟩ := bd2_some h
    refine J_callVi (As := [.int v4]) (st := []) hX dX5_rebuiltIntoSpares_58 cw_RX5_46 (by omega) (c_X6_awayUnit hn p_isSt_54 h0) (ltn ltc_54 hn) lo_54 (by decide) rfl rfl rfl (Nat.le_of_ble_eq_true rfl) ?_
    clear h0
    refine J_iconst hX (-1 : Int32) dX5_rebuiltIntoSpares_61 ic_m1 ?_
    refine J_icmp_ne hX 69 dX5_rebuiltIntoSpares_62 (by decide) h (fun c h => ?_) (fun c h => ?_)
    · refine J_iconst hX (1 : Int32) dX5_rebuiltIntoSpares_65 ic_1 ?_
      refine J_goto hX 70 dX5_rebuiltIntoSpares_66 (by decide) ?_
      refine J_sub [(0, .ref 76), (1, .int v1), (2, .long v2), (4, .int v4), (5, .int s0)] [1, 2, 3, 4, 0] rfl ?_
      exact t_X5_rebuiltIntoSpares_J70 hX hd0 hn hF v1 v2 v4 s0 (1 : Int32) hK5 m7 h
    · refine J_sub [(0, .ref 76), (1, .int v1), (2, .long v2), (4, .int v4), (5, .int s0)] [1, 2, 3, 4, 0] rfl ?_
      exact t_X5_rebuiltIntoSpares_J69 hX hd0 hn hF v1 v2 v4 s0 hK5 m7 h
  · refine J_sub [(0, .ref 76), (1, .int v1), (2, .long v2), (4, .int v4), (5, .int s0)] [1, 2, 3, 4, 0] rfl ?_
    exact t_X5_rebuiltIntoSpares_J69 hX hd0 hn hF v1 v2 v4 s0 hK5 m3 h
theorem t_X5_rebuiltIntoSpares_L5 {X : XX} {G : GG} {ρ : Nat → Nat} {n t u w v : Nat} {x : Option Nat} {d : Nat} (hX : Ok X G ρ cX5_rebuiltIntoSpares 7 RX5 d) (hd0 : 2 ≤ d) (hn : 126 ≤ n) {rE : Int64} {mE : Mm} (hF : Fin' X G ρ n (some .long) (some (.long rE)) (RT t u w v x) mE) : ∀ (k : Nat) (v1 : Int32) (v2 : Int64) (v4 : Int32) (m : Mm), f_X5_rebuiltIntoSpares_L5 k v1 v2 v4 m = some (rE, mE) → J X G ρ n 7 5 [(0, .ref 76), (1, .int v1), (2, .long v2), (4, .int v4)] [] (RT t u w v x) m := by
  intro k
  induction k with
  | zero => intro _ _ _ _ h; rw [f_X5_rebuiltIntoSpares_L5] at h; cases h
  | succ k ih =>
    intro v1 v2 v4 m h
    rw [f_X5_rebuiltIntoSpares_L5] at h
    refine J_iload hX dX5_rebuiltIntoSpares_5 3 rfl ?_
    refine J_aload_n hX dX5_rebuiltIntoSpares_7 rfl 0 rfl ?_
    refine J_getR hX dX5_rebuiltIntoSpares_8 fl_RX5_19 (ltn ltc_76 hn) lo_76 rfl (rt_76_1 _ _ _ _ _) ?_
    refine J_getI hX dX5_rebuiltIntoSpares_11 fl_RX5_23 (ltn ltc_26 hn) lo_26 rfl ?_
    refine J_icmp_ge hX 115 dX5_rebuiltIntoSpares_14 (by decide) h (fun c h => ?_) (fun c h => ?_)
    · refine J_aload_n hX dX5_rebuiltIntoSpares_17 rfl 0 rfl ?_
      refine J_getR hX dX5_rebuiltIntoSpares_18 fl_RX5_15 (ltn ltc_76 hn) lo_76 rfl (rt_76_0 _ _ _ _ _) ?_
      refine J_iload hX dX5_rebuiltIntoSpares_21 3 rfl ?_
      obtain ⟨r2, m1, h0, h⟩ := bd2_some h
      refine J_callVi (As := [.int v4]) (st := []) hX dX5_rebuiltIntoSpares_23 cw_RX5_35 (by omega) (c_X6_disksNow hn p_isSt_54 h0) (ltn ltc_54 hn) lo_54 (by decide) rfl rfl rfl (Nat.le_of_ble_eq_true rfl) ?_
      clear h0
      refine J_iload_n hX dX5_rebuiltIntoSpares_26 rfl 1 rfl ?_
      refine J_ishr hX dX5_rebuiltIntoSpares_27 ?_
      refine J_iconst hX (1 : Int32) dX5_rebuiltIntoSpares_28 ic_1 ?_
      refine J_iand hX dX5_rebuiltIntoSpares_29 ?_
      refine J_if_eq hX 37 dX5_rebuiltIntoSpares_30 (by decide) h (fun c h => ?_) (fun c h => ?_)
      · refine J_iconst hX (0 : Int32) dX5_rebuiltIntoSpares_37 ic_0 ?_
        exact t_X5_rebuiltIntoSpares_J38 hX hd0 hn hF v1 v2 v4 (0 : Int32) (fun w1 w2 w4 m h => ih w1 w2 w4 m h) m1 h
      · refine J_iconst hX (1 : Int32) dX5_rebuiltIntoSpares_33 ic_1 ?_
        refine J_goto hX 38 dX5_rebuiltIntoSpares_34 (by decide) ?_
        exact t_X5_rebuiltIntoSpares_J38 hX hd0 hn hF v1 v2 v4 (1 : Int32) (fun w1 w2 w4 m h => ih w1 w2 w4 m h) m1 h
    · refine J_lload_n hX dX5_rebuiltIntoSpares_115 rfl 2 rfl ?_
      exact J_lreturn hX dX5_rebuiltIntoSpares_116 h hF
theorem t_X5_rebuiltIntoSpares {X : XX} {G : GG} {ρ : Nat → Nat} {n t u w v : Nat} {x : Option Nat} {d : Nat} (hX : Ok X G ρ cX5_rebuiltIntoSpares 7 RX5 d) (hd0 : 2 ≤ d) (hn : 126 ≤ n) {rE : Int64} {mE : Mm} (hF : Fin' X G ρ n (some .long) (some (.long rE)) (RT t u w v x) mE) {x1 : Int32} {m : Mm} (h : f_X5_rebuiltIntoSpares x1 m = some (rE, mE)) : J X G ρ n 7 0 [(0, .ref 76), (1, .int x1)] [] (RT t u w v x) m := by
  unfold f_X5_rebuiltIntoSpares at h
  refine J_lconst hX (0 : Int64) dX5_rebuiltIntoSpares_0 (by decide) ?_
  refine J_lstore_n hX [(2, .long (0 : Int64)), (0, .ref 76), (1, .int x1)] dX5_rebuiltIntoSpares_1 rfl (by decide) rfl ?_
  refine J_iconst hX (0 : Int32) dX5_rebuiltIntoSpares_2 ic_0 ?_
  refine J_istore hX [(4, .int (0 : Int32)), (2, .long (0 : Int64)), (0, .ref 76), (1, .int x1)] dX5_rebuiltIntoSpares_3 (by decide) rfl ?_
  refine J_sub [(0, .ref 76), (1, .int x1), (2, .long (0 : Int64)), (4, .int (0 : Int32))] [2, 3, 1, 0] rfl ?_
  exact t_X5_rebuiltIntoSpares_L5 hX hd0 hn hF FU x1 (0 : Int64) (0 : Int32)  m h
theorem c_X5_rebuiltIntoSpares {G : GG} {l : Launch} {ρ : Nat → Nat} {n t u w v : Nat} {x : Option Nat} (hn : 126 ≤ n) {x1 : Int32} {m : Mm} {rE : Int64} {mE : Mm} (h : f_X5_rebuiltIntoSpares x1 m = some (rE, mE)) : CT G l yX5_rebuiltIntoSpares cX5_rebuiltIntoSpares 7 (some .long) 2 0 0 ρ n (RT t u w v x) [.ref 76, .int x1] m (some (.long rE)) (RT t u w v x) mE := ct_of_J (by decide) rfl (Nat.le_of_ble_eq_true rfl) (fun X hX e1 e2 e3 e4 hQ hr hl => t_X5_rebuiltIntoSpares hX (Nat.le_refl _) hn ⟨by rw [hQ, e3, e4], hr, hl⟩ h)
theorem t_X5_canTake_L2 {X : XX} {G : GG} {ρ : Nat → Nat} {n t u w v : Nat} {x : Option Nat} {d : Nat} (hX : Ok X G ρ cX5_canTake 3 RX5 d) (hd0 : 0 ≤ d) (hn : 126 ≤ n) {rE : Int32} {mE : Mm} (hF : Fin' X G ρ n (some .boolean) (some (.int rE)) (RT t u w v x) mE) : ∀ (k : Nat) (v1 : Int32) (v2 : Int32) (m : Mm), f_X5_canTake_L2 k v1 v2 m = some (rE, mE) → J X G ρ n 3 2 [(0, .ref 76), (1, .int v1), (2, .int v2)] [] (RT t u w v x) m := by
  intro k
  induction k with
  | zero => intro _ _ _ h; rw [f_X5_canTake_L2] at h; cases h
  | succ k ih =>
    intro v1 v2 m h
    rw [f_X5_canTake_L2] at h
    refine J_iload_n hX dX5_canTake_2 rfl 2 rfl ?_
    refine J_bipush hX (13 : Int32) dX5_canTake_3 (by decide) ?_
    refine J_icmp_ge hX 34 dX5_canTake_5 (by decide) h (fun c h => ?_) (fun c h => ?_)
    · refine J_iload_n hX dX5_canTake_8 rfl 1 rfl ?_
      refine J_iload_n hX dX5_canTake_9 rfl 2 rfl ?_
      refine J_ishr hX dX5_canTake_10 ?_
      refine J_iconst hX (1 : Int32) dX5_canTake_11 ic_1 ?_
      refine J_iand hX dX5_canTake_12 ?_
      refine J_if_eq hX 28 dX5_canTake_13 (by decide) h (fun c h => ?_) (fun c h => ?_)
      · refine J_iinc hX (v2 + (1 : Int32)) [(2, .int (v2 + (1 : Int32))), (0, .ref 76), (1, .int v1)] dX5_canTake_28 2 rfl (congrArg (fun z => v2 + z) ic_1) (by decide) rfl ?_
        refine J_goto hX 2 dX5_canTake_31 (by decide) ?_
        refine J_sub [(0, .ref 76), (1, .int v1), (2, .int (v2 + (1 : Int32)))] [1, 2, 0] rfl ?_
        exact ih v1 (v2 + (1 : Int32)) m h
      · refine J_aload_n hX dX5_canTake_16 rfl 0 rfl ?_
        refine J_getR hX dX5_canTake_17 fl_RX5_9 (ltn ltc_76 hn) lo_76 rfl (rt_76_2 _ _ _ _ _) ?_
        refine J_iload_n hX dX5_canTake_20 rfl 2 rfl ?_
        refine J_iaload hX dX5_canTake_21 (ltn ltc_77 hn) lay_77 h (fun h => ?_)
        refine J_iconst hX (1 : Int32) dX5_canTake_22 ic_1 ?_
        refine J_icmp_ge hX 28 dX5_canTake_23 (by decide) h (fun c h => ?_) (fun c h => ?_)
        · refine J_iconst hX (0 : Int32) dX5_canTake_26 ic_0 ?_
          exact J_ireturn hX dX5_canTake_27 h hF narrow_b0
        · refine J_iinc hX (v2 + (1 : Int32)) [(2, .int (v2 + (1 : Int32))), (0, .ref 76), (1, .int v1)] dX5_canTake_28 2 rfl (congrArg (fun z => v2 + z) ic_1) (by decide) rfl ?_
          refine J_goto hX 2 dX5_canTake_31 (by decide) ?_
          refine J_sub [(0, .ref 76), (1, .int v1), (2, .int (v2 + (1 : Int32)))] [1, 2, 0] rfl ?_
          exact ih v1 (v2 + (1 : Int32)) m h
    · refine J_iconst hX (1 : Int32) dX5_canTake_34 ic_1 ?_
      exact J_ireturn hX dX5_canTake_35 h hF narrow_b1
theorem t_X5_canTake {X : XX} {G : GG} {ρ : Nat → Nat} {n t u w v : Nat} {x : Option Nat} {d : Nat} (hX : Ok X G ρ cX5_canTake 3 RX5 d) (hd0 : 0 ≤ d) (hn : 126 ≤ n) {rE : Int32} {mE : Mm} (hF : Fin' X G ρ n (some .boolean) (some (.int rE)) (RT t u w v x) mE) {x1 : Int32} {m : Mm} (h : f_X5_canTake x1 m = some (rE, mE)) : J X G ρ n 3 0 [(0, .ref 76), (1, .int x1)] [] (RT t u w v x) m := by
  unfold f_X5_canTake at h
  refine J_iconst hX (0 : Int32) dX5_canTake_0 ic_0 ?_
  refine J_istore_n hX [(2, .int (0 : Int32)), (0, .ref 76), (1, .int x1)] dX5_canTake_1 rfl (by decide) rfl ?_
  refine J_sub [(0, .ref 76), (1, .int x1), (2, .int (0 : Int32))] [1, 2, 0] rfl ?_
  exact t_X5_canTake_L2 hX hd0 hn hF FU x1 (0 : Int32)  m h
theorem c_X5_canTake {G : GG} {l : Launch} {ρ : Nat → Nat} {n t u w v : Nat} {x : Option Nat} (hn : 126 ≤ n) {x1 : Int32} {m : Mm} {rE : Int32} {mE : Mm} (h : f_X5_canTake x1 m = some (rE, mE)) : CT G l yX5_canTake cX5_canTake 3 (some .boolean) 0 0 0 ρ n (RT t u w v x) [.ref 76, .int x1] m (some (.int rE)) (RT t u w v x) mE := ct_of_J (by decide) rfl (Nat.le_of_ble_eq_true rfl) (fun X hX e1 e2 e3 e4 hQ hr hl => t_X5_canTake hX (Nat.le_refl _) hn ⟨by rw [hQ, e3, e4], hr, hl⟩ h)
theorem t_X5_take_L2 {X : XX} {G : GG} {ρ : Nat → Nat} {n t u w v : Nat} {x : Option Nat} {d : Nat} (hX : Ok X G ρ cX5_take 3 RX5 d) (hd0 : 0 ≤ d) (hn : 126 ≤ n) {mE : Mm} (hF : Fin' X G ρ n none none (RT t u w v x) mE) : ∀ (k : Nat) (v1 : Int32) (v2 : Int32) (m : Mm), f_X5_take_L2 k v1 v2 m = some mE → J X G ρ n 3 2 [(0, .ref 76), (1, .int v1), (2, .int v2)] [] (RT t u w v x) m := by
  intro k
  induction k with
  | zero => intro _ _ _ h; rw [f_X5_take_L2] at h; cases h
  | succ k ih =>
    intro v1 v2 m h
    rw [f_X5_take_L2] at h
    refine J_iload_n hX dX5_take_2 rfl 2 rfl ?_
    refine J_bipush hX (13 : Int32) dX5_take_3 (by decide) ?_
    refine J_icmp_ge hX 28 dX5_take_5 (by decide) h (fun c h => ?_) (fun c h => ?_)
    · refine J_aload_n hX dX5_take_8 rfl 0 rfl ?_
      refine J_getR hX dX5_take_9 fl_RX5_9 (ltn ltc_76 hn) lo_76 rfl (rt_76_2 _ _ _ _ _) ?_
      refine J_iload_n hX dX5_take_12 rfl 2 rfl ?_
      refine J_dup2 hX dX5_take_13 rfl rfl ?_
      refine J_iaload hX dX5_take_14 (ltn ltc_77 hn) lay_77 h (fun h => ?_)
      refine J_iload_n hX dX5_take_15 rfl 1 rfl ?_
      refine J_iload_n hX dX5_take_16 rfl 2 rfl ?_
      refine J_ishr hX dX5_take_17 ?_
      refine J_iconst hX (1 : Int32) dX5_take_18 ic_1 ?_
      refine J_iand hX dX5_take_19 ?_
      refine J_isub hX dX5_take_20 ?_
      refine J_iastore hX dX5_take_21 (ltn ltc_77 hn) lay_77 h (fun m1 h => ?_)
      refine J_iinc hX (v2 + (1 : Int32)) [(2, .int (v2 + (1 : Int32))), (0, .ref 76), (1, .int v1)] dX5_take_22 2 rfl (congrArg (fun z => v2 + z) ic_1) (by decide) rfl ?_
      refine J_goto hX 2 dX5_take_25 (by decide) ?_
      refine J_sub [(0, .ref 76), (1, .int v1), (2, .int (v2 + (1 : Int32)))] [1, 2, 0] rfl ?_
      exact ih v1 (v2 + (1 : Int32)) m1 h
    · exact J_return hX dX5_take_28 h hF
theorem t_X5_take {X : XX} {G : GG} {ρ : Nat → Nat} {n t u w v : Nat} {x : Option Nat} {d : Nat} (hX : Ok X G ρ cX5_take 3 RX5 d) (hd0 : 0 ≤ d) (hn : 126 ≤ n) {mE : Mm} (hF : Fin' X G ρ n none none (RT t u w v x) mE) {x1 : Int32} {m : Mm} (h : f_X5_take x1 m = some mE) : J X G ρ n 3 0 [(0, .ref 76), (1, .int x1)] [] (RT t u w v x) m := by
  unfold f_X5_take at h
  refine J_iconst hX (0 : Int32) dX5_take_0 ic_0 ?_
  refine J_istore_n hX [(2, .int (0 : Int32)), (0, .ref 76), (1, .int x1)] dX5_take_1 rfl (by decide) rfl ?_
  refine J_sub [(0, .ref 76), (1, .int x1), (2, .int (0 : Int32))] [1, 2, 0] rfl ?_
  exact t_X5_take_L2 hX hd0 hn hF FU x1 (0 : Int32)  m h
theorem c_X5_take {G : GG} {l : Launch} {ρ : Nat → Nat} {n t u w v : Nat} {x : Option Nat} (hn : 126 ≤ n) {x1 : Int32} {m : Mm} {mE : Mm} (h : f_X5_take x1 m = some mE) : CT G l yX5_take cX5_take 3 none 0 0 0 ρ n (RT t u w v x) [.ref 76, .int x1] m none (RT t u w v x) mE := ct_of_J (by decide) rfl (Nat.le_of_ble_eq_true rfl) (fun X hX e1 e2 e3 e4 hQ hr hl => t_X5_take hX (Nat.le_refl _) hn ⟨by rw [hQ, e3, e4], hr, hl⟩ h)
theorem t_X5_afterTick_L6 {X : XX} {G : GG} {ρ : Nat → Nat} {n t u w v : Nat} {x : Option Nat} {d : Nat} (hX : Ok X G ρ cX5_afterTick 8 RX5 d) (hd0 : 1 ≤ d) (hn : 126 ≤ n) {rE : Int64} {mE : Mm} (hF : Fin' X G ρ n (some .long) (some (.long rE)) (RT t u w v x) mE) : ∀ (k : Nat) (v1 : Int64) (v3 : Int32) (v4 : Int64) (v6 : Int32) (m : Mm), f_X5_afterTick_L6 k v1 v3 v4 v6 m = some (rE, mE) → J X G ρ n 8 6 [(0, .ref 76), (1, .long v1), (3, .int v3), (4, .long v4), (6, .int v6)] [] (RT t u w v x) m := by
  intro k
  induction k with
  | zero => intro _ _ _ _ _ h; rw [f_X5_afterTick_L6] at h; cases h
  | succ k ih =>
    intro v1 v3 v4 v6 m h
    rw [f_X5_afterTick_L6] at h
    refine J_iload hX dX5_afterTick_6 4 rfl ?_
    refine J_aload_n hX dX5_afterTick_8 rfl 0 rfl ?_
    refine J_getR hX dX5_afterTick_9 fl_RX5_19 (ltn ltc_76 hn) lo_76 rfl (rt_76_1 _ _ _ _ _) ?_
    refine J_getI hX dX5_afterTick_12 fl_RX5_23 (ltn ltc_26 hn) lo_26 rfl ?_
    refine J_icmp_ge hX 94 dX5_afterTick_15 (by decide) h (fun c h => ?_) (fun c h => ?_)
    · refine J_lload_n hX dX5_afterTick_18 rfl 1 rfl ?_
      refine J_iload hX dX5_afterTick_19 4 rfl ?_
      refine J_lshr hX dX5_afterTick_21 ?_
      refine J_lconst hX (1 : Int64) dX5_afterTick_22 (by decide) ?_
      refine J_land hX dX5_afterTick_23 ?_
      refine J_lconst hX (0 : Int64) dX5_afterTick_24 (by decide) ?_
      refine J_lcmp hX dX5_afterTick_25 ?_
      refine J_if_eq hX 88 dX5_afterTick_26 (by decide) h (fun c h => ?_) (fun c h => ?_)
      · refine J_iinc hX (v6 + (1 : Int32)) [(6, .int (v6 + (1 : Int32))), (0, .ref 76), (1, .long v1), (3, .int v3), (4, .long v4)] dX5_afterTick_88 4 rfl (congrArg (fun z => v6 + z) ic_1) (by decide) rfl ?_
        refine J_goto hX 6 dX5_afterTick_91 (by decide) ?_
        refine J_sub [(0, .ref 76), (1, .long v1), (3, .int v3), (4, .long v4), (6, .int (v6 + (1 : Int32)))] [1, 2, 3, 4, 0] rfl ?_
        exact ih v1 v3 v4 (v6 + (1 : Int32)) m h
      · refine J_aload_n hX dX5_afterTick_29 rfl 0 rfl ?_
        refine J_getR hX dX5_afterTick_30 fl_RX5_19 (ltn ltc_76 hn) lo_76 rfl (rt_76_1 _ _ _ _ _) ?_
        refine J_getR hX dX5_afterTick_33 fl_RX5_56 (ltn ltc_26 hn) lo_26 rfl (rt_26_8 _ _ _ _ _) ?_
        refine J_iload hX dX5_afterTick_36 4 rfl ?_
        refine J_iaload hX dX5_afterTick_38 (ltn ltc_32 hn) lay_32 h (fun h => ?_)
        refine J_iconst hX (1 : Int32) dX5_afterTick_39 ic_1 ?_
        refine J_iload_n hX dX5_afterTick_40 rfl 2 rfl ?_
        refine J_ishl hX dX5_afterTick_41 ?_
        refine J_iconst hX (-1 : Int32) dX5_afterTick_42 ic_m1 ?_
        refine J_ixor hX dX5_afterTick_43 ?_
        refine J_iand hX dX5_afterTick_44 ?_
        refine J_iconst hX (1 : Int32) dX5_afterTick_45 ic_1 ?_
        refine J_aload_n hX dX5_afterTick_46 rfl 0 rfl ?_
        refine J_getR hX dX5_afterTick_47 fl_RX5_19 (ltn ltc_76 hn) lo_76 rfl (rt_76_1 _ _ _ _ _) ?_
        refine J_getR hX dX5_afterTick_50 fl_RX5_49 (ltn ltc_26 hn) lo_26 rfl (rt_26_6 _ _ _ _ _) ?_
        refine J_iload hX dX5_afterTick_53 4 rfl ?_
        refine J_iaload hX dX5_afterTick_55 (ltn ltc_30 hn) lay_30 h (fun h => ?_)
        refine J_ishl hX dX5_afterTick_56 ?_
        refine J_ior hX dX5_afterTick_57 ?_
        refine J_istore hX [(7, .int (((gI m 32 (ix v6)) &&& (((1 : Int32) <<< (v3 &&& 31)) ^^^ (-1 : Int32))) ||| ((1 : Int32) <<< ((gI m 30 (ix v6)) &&& 31)))), (0, .ref 76), (1, .long v1), (3, .int v3), (4, .long v4), (6, .int v6)] dX5_afterTick_58 (by decide) rfl ?_
        refine J_aload_n hX dX5_afterTick_60 rfl 1 rfl ?_
        refine J_iload hX dX5_afterTick_61 0 rfl ?_
        obtain ⟨r2, m1, h0, h⟩ := bd2_some h
        refine J_callVi (As := [.int (((gI m 32 (ix v6)) &&& (((1 : Int32) <<< (v3 &&& 31)) ^^^ (-1 : Int32))) ||| ((1 : Int32) <<< ((gI m 30 (ix v6)) &&& 31)))]) (st := []) hX dX5_afterTick_63 cw_RX5_59 (by omega) (c_X5_canTake hn  h0) (ltn ltc_76 hn) lo_76 (by decide) rfl rfl rfl (Nat.le_of_ble_eq_true rfl) ?_
        clear h0
        refine J_if_eq hX 88 dX5_afterTick_66 (by decide) h (fun c h => ?_) (fun c h => ?_)
        · refine J_iinc hX (v6 + (1 : Int32)) [(6, .int (v6 + (1 : Int32))), (7, .int (((gI m 32 (ix v6)) &&& (((1 : Int32) <<< (v3 &&& 31)) ^^^ (-1 : Int32))) ||| ((1 : Int32) <<< ((gI m 30 (ix v6)) &&& 31)))), (0, .ref 76), (1, .long v1), (3, .int v3), (4, .long v4)] dX5_afterTick_88 5 rfl (congrArg (fun z => v6 + z) ic_1) (by decide) rfl ?_
          refine J_goto hX 6 dX5_afterTick_91 (by decide) ?_
          refine J_sub [(0, .ref 76), (1, .long v1), (3, .int v3), (4, .long v4), (6, .int (v6 + (1 : Int32)))] [2, 3, 4, 5, 0] rfl ?_
          exact ih v1 v3 v4 (v6 + (1 : Int32)) m1 h
        · refine J_aload_n hX dX5_afterTick_69 rfl 1 rfl ?_
          refine J_iload hX dX5_afterTick_70 0 rfl ?_
          obtain ⟨m3, h0, h⟩ := bd1_some h
          refine J_callVv (As := [.int (((gI m 32 (ix v6)) &&& (((1 : Int32) <<< (v3 &&& 31)) ^^^ (-1 : Int32))) ||| ((1 : Int32) <<< ((gI m 30 (ix v6)) &&& 31)))]) (st := []) hX dX5_afterTick_72 cw_RX5_62 (by omega) (c_X5_take hn  h0) (ltn ltc_76 hn) lo_76 (by decide) rfl rfl rfl (Nat.le_of_ble_eq_true rfl) ?_
          clear h0
          refine J_lload hX dX5_afterTick_75 4 rfl ?_
          refine J_lconst hX (1 : Int64) dX5_afterTick_77 (by decide) ?_
          refine J_iload hX dX5_afterTick_78 5 rfl ?_
          refine J_lshl hX dX5_afterTick_80 ?_
          refine J_ldc2 hX (-1 : Int64) dX5_afterTick_81 k_RX5_66 ?_
          refine J_lxor hX dX5_afterTick_84 ?_
          refine J_land hX dX5_afterTick_85 ?_
          refine J_lstore hX [(4, .long (v4 &&& (((1 : Int64) <<< (v6.toInt64 &&& 63)) ^^^ (-1 : Int64)))), (7, .int (((gI m 32 (ix v6)) &&& (((1 : Int32) <<< (v3 &&& 31)) ^^^ (-1 : Int32))) ||| ((1 : Int32) <<< ((gI m 30 (ix v6)) &&& 31)))), (0, .ref 76), (1, .long v1), (3, .int v3), (6, .int v6)] dX5_afterTick_86 (by decide) rfl ?_
          refine J_iinc hX (v6 + (1 : Int32)) [(6, .int (v6 + (1 : Int32))), (4, .long (v4 &&& (((1 : Int64) <<< (v6.toInt64 &&& 63)) ^^^ (-1 : Int64)))), (7, .int (((gI m 32 (ix v6)) &&& (((1 : Int32) <<< (v3 &&& 31)) ^^^ (-1 : Int32))) ||| ((1 : Int32) <<< ((gI m 30 (ix v6)) &&& 31)))), (0, .ref 76), (1, .long v1), (3, .int v3)] dX5_afterTick_88 5 rfl (congrArg (fun z => v6 + z) ic_1) (by decide) rfl ?_
          refine J_goto hX 6 dX5_afterTick_91 (by decide) ?_
          refine J_sub [(0, .ref 76), (1, .long v1), (3, .int v3), (4, .long (v4 &&& (((1 : Int64) <<< (v6.toInt64 &&& 63)) ^^^ (-1 : Int64)))), (6, .int (v6 + (1 : Int32)))] [3, 4, 5, 1, 0] rfl ?_
          exact ih v1 v3 (v4 &&& (((1 : Int64) <<< (v6.toInt64 &&& 63)) ^^^ (-1 : Int64))) (v6 + (1 : Int32)) m3 h
    · refine J_lload hX dX5_afterTick_94 3 rfl ?_
      exact J_lreturn hX dX5_afterTick_96 h hF
theorem t_X5_afterTick {X : XX} {G : GG} {ρ : Nat → Nat} {n t u w v : Nat} {x : Option Nat} {d : Nat} (hX : Ok X G ρ cX5_afterTick 8 RX5 d) (hd0 : 1 ≤ d) (hn : 126 ≤ n) {rE : Int64} {mE : Mm} (hF : Fin' X G ρ n (some .long) (some (.long rE)) (RT t u w v x) mE) {x1 : Int64} {x3 : Int32} {m : Mm} (h : f_X5_afterTick x1 x3 m = some (rE, mE)) : J X G ρ n 8 0 [(0, .ref 76), (1, .long x1), (3, .int x3)] [] (RT t u w v x) m := by
  unfold f_X5_afterTick at h
  refine J_lload_n hX dX5_afterTick_0 rfl 1 rfl ?_
  refine J_lstore hX [(4, .long x1), (0, .ref 76), (1, .long x1), (3, .int x3)] dX5_afterTick_1 (by decide) rfl ?_
  refine J_iconst hX (0 : Int32) dX5_afterTick_3 ic_0 ?_
  refine J_istore hX [(6, .int (0 : Int32)), (4, .long x1), (0, .ref 76), (1, .long x1), (3, .int x3)] dX5_afterTick_4 (by decide) rfl ?_
  refine J_sub [(0, .ref 76), (1, .long x1), (3, .int x3), (4, .long x1), (6, .int (0 : Int32))] [2, 3, 4, 1, 0] rfl ?_
  exact t_X5_afterTick_L6 hX hd0 hn hF FU x1 x3 x1 (0 : Int32)  m h
theorem c_X5_afterTick {G : GG} {l : Launch} {ρ : Nat → Nat} {n t u w v : Nat} {x : Option Nat} (hn : 126 ≤ n) {x1 : Int64} {x3 : Int32} {m : Mm} {rE : Int64} {mE : Mm} (h : f_X5_afterTick x1 x3 m = some (rE, mE)) : CT G l yX5_afterTick cX5_afterTick 8 (some .long) 1 0 0 ρ n (RT t u w v x) [.ref 76, .long x1, .int x3] m (some (.long rE)) (RT t u w v x) mE := ct_of_J (by decide) rfl (Nat.le_of_ble_eq_true rfl) (fun X hX e1 e2 e3 e4 hQ hr hl => t_X5_afterTick hX (Nat.le_refl _) hn ⟨by rw [hQ, e3, e4], hr, hl⟩ h)
theorem t_X6_lostMany {X : XX} {G : GG} {ρ : Nat → Nat} {n t u w v : Nat} {x : Option Nat} {d : Nat} {a : Nat} (hX : Ok X G ρ cX6_lostMany 2 RX6 d) (hd0 : 1 ≤ d) (hn : 126 ≤ n) (ha : isSt a) {rE : Int32} {mE : Mm} (hF : Fin' X G ρ n (some .int) (some (.int rE)) (RT t u w v x) mE) {x1 : Int32} {m : Mm} (h : f_X6_lostMany a x1 m = some (rE, mE)) : J X G ρ n 2 0 [(0, .ref a), (1, .int x1)] [] (RT t u w v x) m := by
  unfold f_X6_lostMany at h
  refine J_aload_n hX dX6_lostMany_0 rfl 0 rfl ?_
  refine J_iload_n hX dX6_lostMany_1 rfl 1 rfl ?_
  obtain ⟨r2, m1, h0, h⟩ := bd2_some h
  refine J_callVi (As := [.int x1]) (st := []) hX dX6_lostMany_2 cw_RX6_64 (by omega) (c_X6_lostBits hn ha h0) (ltn (lt_isSt_0 ha) hn) (lo_isSt_0 ha) (by decide) rfl rfl rfl (Nat.le_of_ble_eq_true rfl) ?_
  clear h0
  obtain ⟨r4, m3, h0, h⟩ := bd2_some h
  refine J_callSi (As := [.int r2]) (st := []) hX dX6_lostMany_5 cw_RX6_68 (by omega) (c_J6_bitCount_0f7a4 hn  h0) rfl rfl (Nat.le_of_ble_eq_true rfl) ?_
  clear h0
  exact J_ireturn hX dX6_lostMany_8 h hF rfl
theorem c_X6_lostMany {G : GG} {l : Launch} {ρ : Nat → Nat} {n t u w v : Nat} {x : Option Nat} (hn : 126 ≤ n) {a : Nat} (ha : isSt a) {x1 : Int32} {m : Mm} {rE : Int32} {mE : Mm} (h : f_X6_lostMany a x1 m = some (rE, mE)) : CT G l yX6_lostMany cX6_lostMany 2 (some .int) 1 0 0 ρ n (RT t u w v x) [.ref a, .int x1] m (some (.int rE)) (RT t u w v x) mE := ct_of_J (by decide) rfl (Nat.le_of_ble_eq_true rfl) (fun X hX e1 e2 e3 e4 hQ hr hl => t_X6_lostMany hX (Nat.le_refl _) hn ha ⟨by rw [hQ, e3, e4], hr, hl⟩ h)
theorem t_X5_kills_L2 {X : XX} {G : GG} {ρ : Nat → Nat} {n t u w v : Nat} {x : Option Nat} {d : Nat} (hX : Ok X G ρ cX5_kills 4 RX5 d) (hd0 : 2 ≤ d) (hn : 126 ≤ n) {rE : Int32} {mE : Mm} (hF : Fin' X G ρ n (some .boolean) (some (.int rE)) (RT t u w v x) mE) : ∀ (k : Nat) (v1 : Int32) (v2 : Int32) (m : Mm), f_X5_kills_L2 k v1 v2 m = some (rE, mE) → J X G ρ n 4 2 [(0, .ref 76), (1, .int v1), (2, .int v2)] [] (RT t u w v x) m := by
  intro k
  induction k with
  | zero => intro _ _ _ h; rw [f_X5_kills_L2] at h; cases h
  | succ k ih =>
    intro v1 v2 m h
    rw [f_X5_kills_L2] at h
    refine J_iload_n hX dX5_kills_2 rfl 2 rfl ?_
    refine J_aload_n hX dX5_kills_3 rfl 0 rfl ?_
    refine J_getR hX dX5_kills_4 fl_RX5_19 (ltn ltc_76 hn) lo_76 rfl (rt_76_1 _ _ _ _ _) ?_
    refine J_getI hX dX5_kills_7 fl_RX5_23 (ltn ltc_26 hn) lo_26 rfl ?_
    refine J_icmp_ge hX 54 dX5_kills_10 (by decide) h (fun c h => ?_) (fun c h => ?_)
    · refine J_aload_n hX dX5_kills_13 rfl 0 rfl ?_
      refine J_getR hX dX5_kills_14 fl_RX5_15 (ltn ltc_76 hn) lo_76 rfl (rt_76_0 _ _ _ _ _) ?_
      refine J_iload_n hX dX5_kills_17 rfl 2 rfl ?_
      obtain ⟨r2, m1, h0, h⟩ := bd2_some h
      refine J_callVi (As := [.int v2]) (st := []) hX dX5_kills_18 cw_RX5_68 (by omega) (c_X6_lostMany hn p_isSt_54 h0) (ltn ltc_54 hn) lo_54 (by decide) rfl rfl rfl (Nat.le_of_ble_eq_true rfl) ?_
      clear h0
      refine J_istore_n hX [(3, .int r2), (0, .ref 76), (1, .int v1), (2, .int v2)] dX5_kills_21 rfl (by decide) rfl ?_
      refine J_iload_n hX dX5_kills_22 rfl 0 rfl ?_
      refine J_iconst hX (2 : Int32) dX5_kills_23 ic_2 ?_
      refine J_icmp_ge hX 48 dX5_kills_24 (by decide) h (fun c h => ?_) (fun c h => ?_)
      · refine J_iload_n hX dX5_kills_27 rfl 0 rfl ?_
        refine J_aload_n hX dX5_kills_28 rfl 1 rfl ?_
        refine J_getR hX dX5_kills_29 fl_RX5_15 (ltn ltc_76 hn) lo_76 rfl (rt_76_0 _ _ _ _ _) ?_
        refine J_iload_n hX dX5_kills_32 rfl 3 rfl ?_
        obtain ⟨r4, m3, h0, h⟩ := bd2_some h
        refine J_callVi (As := [.int v2]) (st := [.int r2]) hX dX5_kills_33 cw_RX5_35 (by omega) (c_X6_disksNow hn p_isSt_54 h0) (ltn ltc_54 hn) lo_54 (by decide) rfl rfl rfl (Nat.le_of_ble_eq_true rfl) ?_
        clear h0
        refine J_iload_n hX dX5_kills_36 rfl 2 rfl ?_
        refine J_iand hX dX5_kills_37 ?_
        obtain ⟨r6, m5, h0, h⟩ := bd2_some h
        refine J_callSi (As := [.int (r4 &&& v1)]) (st := [.int r2]) hX dX5_kills_38 cw_RX5_71 (by omega) (c_J6_bitCount_0f7a4 hn  h0) rfl rfl (Nat.le_of_ble_eq_true rfl) ?_
        clear h0
        refine J_iadd hX dX5_kills_41 ?_
        refine J_iconst hX (2 : Int32) dX5_kills_42 ic_2 ?_
        refine J_icmp_lt hX 48 dX5_kills_43 (by decide) h (fun c h => ?_) (fun c h => ?_)
        · refine J_iinc hX (v2 + (1 : Int32)) [(2, .int (v2 + (1 : Int32))), (3, .int r2), (0, .ref 76), (1, .int v1)] dX5_kills_48 3 rfl (congrArg (fun z => v2 + z) ic_1) (by decide) rfl ?_
          refine J_goto hX 2 dX5_kills_51 (by decide) ?_
          refine J_sub [(0, .ref 76), (1, .int v1), (2, .int (v2 + (1 : Int32)))] [2, 3, 0] rfl ?_
          exact ih v1 (v2 + (1 : Int32)) m5 h
        · refine J_iconst hX (1 : Int32) dX5_kills_46 ic_1 ?_
          exact J_ireturn hX dX5_kills_47 h hF narrow_b1
      · refine J_iinc hX (v2 + (1 : Int32)) [(2, .int (v2 + (1 : Int32))), (3, .int r2), (0, .ref 76), (1, .int v1)] dX5_kills_48 3 rfl (congrArg (fun z => v2 + z) ic_1) (by decide) rfl ?_
        refine J_goto hX 2 dX5_kills_51 (by decide) ?_
        refine J_sub [(0, .ref 76), (1, .int v1), (2, .int (v2 + (1 : Int32)))] [2, 3, 0] rfl ?_
        exact ih v1 (v2 + (1 : Int32)) m1 h
    · refine J_iconst hX (0 : Int32) dX5_kills_54 ic_0 ?_
      exact J_ireturn hX dX5_kills_55 h hF narrow_b0
theorem t_X5_kills {X : XX} {G : GG} {ρ : Nat → Nat} {n t u w v : Nat} {x : Option Nat} {d : Nat} (hX : Ok X G ρ cX5_kills 4 RX5 d) (hd0 : 2 ≤ d) (hn : 126 ≤ n) {rE : Int32} {mE : Mm} (hF : Fin' X G ρ n (some .boolean) (some (.int rE)) (RT t u w v x) mE) {x1 : Int32} {m : Mm} (h : f_X5_kills x1 m = some (rE, mE)) : J X G ρ n 4 0 [(0, .ref 76), (1, .int x1)] [] (RT t u w v x) m := by
  unfold f_X5_kills at h
  refine J_iconst hX (0 : Int32) dX5_kills_0 ic_0 ?_
  refine J_istore_n hX [(2, .int (0 : Int32)), (0, .ref 76), (1, .int x1)] dX5_kills_1 rfl (by decide) rfl ?_
  refine J_sub [(0, .ref 76), (1, .int x1), (2, .int (0 : Int32))] [1, 2, 0] rfl ?_
  exact t_X5_kills_L2 hX hd0 hn hF FU x1 (0 : Int32)  m h
theorem c_X5_kills {G : GG} {l : Launch} {ρ : Nat → Nat} {n t u w v : Nat} {x : Option Nat} (hn : 126 ≤ n) {x1 : Int32} {m : Mm} {rE : Int32} {mE : Mm} (h : f_X5_kills x1 m = some (rE, mE)) : CT G l yX5_kills cX5_kills 4 (some .boolean) 2 0 0 ρ n (RT t u w v x) [.ref 76, .int x1] m (some (.int rE)) (RT t u w v x) mE := ct_of_J (by decide) rfl (Nat.le_of_ble_eq_true rfl) (fun X hX e1 e2 e3 e4 hQ hr hl => t_X5_kills hX (Nat.le_refl _) hn ⟨by rw [hQ, e3, e4], hr, hl⟩ h)
theorem t_X5_dearerWithout_J54 {X : XX} {G : GG} {ρ : Nat → Nat} {n t u w v : Nat} {x : Option Nat} {d : Nat} (hX : Ok X G ρ cX5_dearerWithout 7 RX5 d) (hd0 : 2 ≤ d) (hn : 126 ≤ n) {rE : Int32} {mE : Mm} (hF : Fin' X G ρ n (some .boolean) (some (.int rE)) (RT t u w v x) mE) (v1 : Int32) (v4 : Int32) (v5 : Int32) (m : Mm) (h : f_X5_dearerWithout_J54 v1 v4 v5 m = some (rE, mE)) : J X G ρ n 7 54 [(0, .ref 76), (1, .int v1), (4, .int v4), (5, .int v5)] [] (RT t u w v x) m := by
  unfold f_X5_dearerWithout_J54 at h
  refine J_aload_n hX dX5_dearerWithout_54 rfl 0 rfl ?_
  refine J_getR hX dX5_dearerWithout_55 fl_RX5_15 (ltn ltc_76 hn) lo_76 rfl (rt_76_0 _ _ _ _ _) ?_
  refine J_iload hX dX5_dearerWithout_58 2 rfl ?_
  obtain ⟨r2, m1, h0, h⟩ := bd2_some h
  refine J_callVi (As := [.int v4]) (st := []) hX dX5_dearerWithout_60 cw_RX5_68 (by omega) (c_X6_lostMany hn p_isSt_54 h0) (ltn ltc_54 hn) lo_54 (by decide) rfl rfl rfl (Nat.le_of_ble_eq_true rfl) ?_
  clear h0
  refine J_aload_n hX dX5_dearerWithout_63 rfl 0 rfl ?_
  refine J_getR hX dX5_dearerWithout_64 fl_RX5_15 (ltn ltc_76 hn) lo_76 rfl (rt_76_0 _ _ _ _ _) ?_
  refine J_iload hX dX5_dearerWithout_67 2 rfl ?_
  obtain ⟨r4, m3, h0, h⟩ := bd2_some h
  refine J_callVi (As := [.int v4]) (st := [.int r2]) hX dX5_dearerWithout_69 cw_RX5_35 (by omega) (c_X6_disksNow hn p_isSt_54 h0) (ltn ltc_54 hn) lo_54 (by decide) rfl rfl rfl (Nat.le_of_ble_eq_true rfl) ?_
  clear h0
  refine J_iload_n hX dX5_dearerWithout_72 rfl 1 rfl ?_
  refine J_ishr hX dX5_dearerWithout_73 ?_
  refine J_iconst hX (1 : Int32) dX5_dearerWithout_74 ic_1 ?_
  refine J_iand hX dX5_dearerWithout_75 ?_
  refine J_iadd hX dX5_dearerWithout_76 ?_
  refine J_istore hX [(6, .int (r2 + ((r4 >>> (v1 &&& 31)) &&& (1 : Int32)))), (0, .ref 76), (1, .int v1), (4, .int v4), (5, .int v5)] dX5_dearerWithout_77 (by decide) rfl ?_
  refine J_iload hX dX5_dearerWithout_79 0 rfl ?_
  refine J_iconst hX (2 : Int32) dX5_dearerWithout_81 ic_2 ?_
  refine J_icmp_lt hX 87 dX5_dearerWithout_82 (by decide) h (fun c h => ?_) (fun c h => ?_)
  · refine J_iload hX dX5_dearerWithout_87 4 rfl ?_
    refine J_if_ne hX 112 dX5_dearerWithout_89 (by decide) h (fun c h => ?_) (fun c h => ?_)
    · refine J_aload_n hX dX5_dearerWithout_92 rfl 1 rfl ?_
      refine J_getR hX dX5_dearerWithout_93 fl_RX5_19 (ltn ltc_76 hn) lo_76 rfl (rt_76_1 _ _ _ _ _) ?_
      refine J_getR hX dX5_dearerWithout_96 fl_RX5_91 (ltn ltc_26 hn) lo_26 rfl (rt_26_3 _ _ _ _ _) ?_
      refine J_iload hX dX5_dearerWithout_99 3 rfl ?_
      refine J_iaload hX dX5_dearerWithout_101 (ltn ltc_27 hn) lay_27 h (fun h => ?_)
      refine J_iconst hX (1 : Int32) dX5_dearerWithout_102 ic_1 ?_
      refine J_isub hX dX5_dearerWithout_103 ?_
      refine J_iconst hX (1 : Int32) dX5_dearerWithout_104 ic_1 ?_
      refine J_icmp_le hX 112 dX5_dearerWithout_105 (by decide) h (fun c h => ?_) (fun c h => ?_)
      · refine J_iconst hX (1 : Int32) dX5_dearerWithout_108 ic_1 ?_
        refine J_goto hX 113 dX5_dearerWithout_109 (by decide) ?_
        exact J_ireturn hX dX5_dearerWithout_113 h hF narrow_b1
      · refine J_iconst hX (0 : Int32) dX5_dearerWithout_112 ic_0 ?_
        exact J_ireturn hX dX5_dearerWithout_113 h hF narrow_b0
    · refine J_iconst hX (0 : Int32) dX5_dearerWithout_112 ic_0 ?_
      exact J_ireturn hX dX5_dearerWithout_113 h hF narrow_b0
  · refine J_iconst hX (1 : Int32) dX5_dearerWithout_85 ic_1 ?_
    exact J_ireturn hX dX5_dearerWithout_86 h hF narrow_b1
theorem t_X5_dearerWithout_J33 {X : XX} {G : GG} {ρ : Nat → Nat} {n t u w v : Nat} {x : Option Nat} {d : Nat} (hX : Ok X G ρ cX5_dearerWithout 7 RX5 d) (hd0 : 2 ≤ d) (hn : 126 ≤ n) {rE : Int32} {mE : Mm} (hF : Fin' X G ρ n (some .boolean) (some (.int rE)) (RT t u w v x) mE) (v1 : Int32) (v3 : Int32) (v4 : Int32) (s0 : Int32) (m : Mm) (h : f_X5_dearerWithout_J33 v1 v3 v4 s0 m = some (rE, mE)) : J X G ρ n 7 33 [(0, .ref 76), (1, .int v1), (3, .int v3), (4, .int v4)] [.int s0] (RT t u w v x) m := by
  unfold f_X5_dearerWithout_J33 at h
  refine J_istore hX [(5, .int s0), (0, .ref 76), (1, .int v1), (3, .int v3), (4, .int v4)] dX5_dearerWithout_33 (by decide) rfl ?_
  refine J_iload hX dX5_dearerWithout_35 0 rfl ?_
  refine J_if_ne hX 54 dX5_dearerWithout_37 (by decide) h (fun c h => ?_) (fun c h => ?_)
  · refine J_aload_n hX dX5_dearerWithout_40 rfl 1 rfl ?_
    refine J_getR hX dX5_dearerWithout_41 fl_RX5_15 (ltn ltc_76 hn) lo_76 rfl (rt_76_0 _ _ _ _ _) ?_
    refine J_iload_n hX dX5_dearerWithout_44 rfl 3 rfl ?_
    obtain ⟨r6, m5, h0, h⟩ := bd2_some h
    refine J_callVi (As := [.int v3]) (st := []) hX dX5_dearerWithout_45 cw_RX5_88 (by omega) (c_X6_diskNow hn p_isSt_54 h0) (ltn ltc_54 hn) lo_54 (by decide) rfl rfl rfl (Nat.le_of_ble_eq_true rfl) ?_
    clear h0
    refine J_iload_n hX dX5_dearerWithout_48 rfl 2 rfl ?_
    refine J_icmp_eq hX 54 dX5_dearerWithout_49 (by decide) h (fun c h => ?_) (fun c h => ?_)
    · refine J_sub [(0, .ref 76), (1, .int v1), (4, .int v4), (5, .int s0)] [1, 2, 4, 0] rfl ?_
      exact t_X5_dearerWithout_J54 hX hd0 hn hF v1 v4 s0  m5 h
    · refine J_iconst hX (0 : Int32) dX5_dearerWithout_52 ic_0 ?_
      exact J_ireturn hX dX5_dearerWithout_53 h hF narrow_b0
  · refine J_sub [(0, .ref 76), (1, .int v1), (4, .int v4), (5, .int s0)] [1, 2, 4, 0] rfl ?_
    exact t_X5_dearerWithout_J54 hX hd0 hn hF v1 v4 s0  m h
theorem t_X5_dearerWithout {X : XX} {G : GG} {ρ : Nat → Nat} {n t u w v : Nat} {x : Option Nat} {d : Nat} (hX : Ok X G ρ cX5_dearerWithout 7 RX5 d) (hd0 : 2 ≤ d) (hn : 126 ≤ n) {rE : Int32} {mE : Mm} (hF : Fin' X G ρ n (some .boolean) (some (.int rE)) (RT t u w v x) mE) {x1 : Int32} {x2 : Int32} {m : Mm} (h : f_X5_dearerWithout x1 x2 m = some (rE, mE)) : J X G ρ n 7 0 [(0, .ref 76), (1, .int x1), (2, .int x2)] [] (RT t u w v x) m := by
  unfold f_X5_dearerWithout at h
  refine J_aload_n hX dX5_dearerWithout_0 rfl 0 rfl ?_
  refine J_getR hX dX5_dearerWithout_1 fl_RX5_19 (ltn ltc_76 hn) lo_76 rfl (rt_76_1 _ _ _ _ _) ?_
  refine J_getR hX dX5_dearerWithout_4 fl_RX5_82 (ltn ltc_26 hn) lo_26 rfl (rt_26_12 _ _ _ _ _) ?_
  refine J_iload_n hX dX5_dearerWithout_7 rfl 2 rfl ?_
  refine J_iaload hX dX5_dearerWithout_8 (ltn ltc_36 hn) lay_36 h (fun h => ?_)
  refine J_istore_n hX [(3, .int (gI m 36 (ix x2))), (0, .ref 76), (1, .int x1), (2, .int x2)] dX5_dearerWithout_9 rfl (by decide) rfl ?_
  refine J_iload_n hX dX5_dearerWithout_10 rfl 0 rfl ?_
  refine J_iconst hX (5 : Int32) dX5_dearerWithout_11 ic_5 ?_
  refine J_idiv0 hX dX5_dearerWithout_12 (by decide) ?_
  refine J_istore hX [(4, .int ((gI m 36 (ix x2)) / (5 : Int32))), (3, .int (gI m 36 (ix x2))), (0, .ref 76), (1, .int x1), (2, .int x2)] dX5_dearerWithout_13 (by decide) rfl ?_
  refine J_aload_n hX dX5_dearerWithout_15 rfl 2 rfl ?_
  refine J_getR hX dX5_dearerWithout_16 fl_RX5_15 (ltn ltc_76 hn) lo_76 rfl (rt_76_0 _ _ _ _ _) ?_
  refine J_getR hX dX5_dearerWithout_19 fl_RX5_85 (ltn ltc_54 hn) lo_54 rfl (rt_54_2 _ _ _ _ _) ?_
  refine J_iload_n hX dX5_dearerWithout_22 rfl 1 rfl ?_
  refine J_iaload hX dX5_dearerWithout_23 (ltn ltc_55 hn) lay_55 h (fun h => ?_)
  refine J_iconst hX (2 : Int32) dX5_dearerWithout_24 ic_2 ?_
  refine J_icmp_ne hX 32 dX5_dearerWithout_25 (by decide) h (fun c h => ?_) (fun c h => ?_)
  · refine J_iconst hX (1 : Int32) dX5_dearerWithout_28 ic_1 ?_
    refine J_goto hX 33 dX5_dearerWithout_29 (by decide) ?_
    refine J_sub [(0, .ref 76), (1, .int x1), (3, .int (gI m 36 (ix x2))), (4, .int ((gI m 36 (ix x2)) / (5 : Int32)))] [2, 3, 1, 0] rfl ?_
    exact t_X5_dearerWithout_J33 hX hd0 hn hF x1 (gI m 36 (ix x2)) ((gI m 36 (ix x2)) / (5 : Int32)) (1 : Int32) m h
  · refine J_iconst hX (0 : Int32) dX5_dearerWithout_32 ic_0 ?_
    refine J_sub [(0, .ref 76), (1, .int x1), (3, .int (gI m 36 (ix x2))), (4, .int ((gI m 36 (ix x2)) / (5 : Int32)))] [2, 3, 1, 0] rfl ?_
    exact t_X5_dearerWithout_J33 hX hd0 hn hF x1 (gI m 36 (ix x2)) ((gI m 36 (ix x2)) / (5 : Int32)) (0 : Int32) m h
theorem c_X5_dearerWithout {G : GG} {l : Launch} {ρ : Nat → Nat} {n t u w v : Nat} {x : Option Nat} (hn : 126 ≤ n) {x1 : Int32} {x2 : Int32} {m : Mm} {rE : Int32} {mE : Mm} (h : f_X5_dearerWithout x1 x2 m = some (rE, mE)) : CT G l yX5_dearerWithout cX5_dearerWithout 7 (some .boolean) 2 0 0 ρ n (RT t u w v x) [.ref 76, .int x1, .int x2] m (some (.int rE)) (RT t u w v x) mE := ct_of_J (by decide) rfl (Nat.le_of_ble_eq_true rfl) (fun X hX e1 e2 e3 e4 hQ hr hl => t_X5_dearerWithout hX (Nat.le_refl _) hn ⟨by rw [hQ, e3, e4], hr, hl⟩ h)
theorem t_X5_fitsSeen_J32 {X : XX} {G : GG} {ρ : Nat → Nat} {n t u w v : Nat} {x : Option Nat} {d : Nat} (hX : Ok X G ρ cX5_fitsSeen 4 RX5 d) (hd0 : 3 ≤ d) (hn : 126 ≤ n) {rE : Int32} {mE : Mm} (hF : Fin' X G ρ n (some .boolean) (some (.int rE)) (RT t u w v x) mE) {K2 : Int32 → Int32 → Mm → Option (Int32 × Mm)} (v1 : Int32) (v2 : Int32) (s0 : Int32) (hK2 : ∀ (w1 : Int32) (w2 : Int32) (m : Mm), K2 w1 w2 m = some (rE, mE) → J X G ρ n 4 2 [(0, .ref 76), (1, .int w1), (2, .int w2)] [] (RT t u w v x) m) (m : Mm) (h : f_X5_fitsSeen_J32 K2 v1 v2 s0 m = some (rE, mE)) : J X G ρ n 4 32 [(0, .ref 76), (1, .int v1), (2, .int v2)] [.int s0] (RT t u w v x) m := by
  unfold f_X5_fitsSeen_J32 at h
  refine J_istore_n hX [(3, .int s0), (0, .ref 76), (1, .int v1), (2, .int v2)] dX5_fitsSeen_32 rfl (by decide) rfl ?_
  refine J_aload_n hX dX5_fitsSeen_33 rfl 1 rfl ?_
  refine J_iload_n hX dX5_fitsSeen_34 rfl 2 rfl ?_
  refine J_aload_n hX dX5_fitsSeen_35 rfl 1 rfl ?_
  refine J_getR hX dX5_fitsSeen_36 fl_RX5_15 (ltn ltc_76 hn) lo_76 rfl (rt_76_0 _ _ _ _ _) ?_
  refine J_getR hX dX5_fitsSeen_39 fl_RX5_103 (ltn ltc_54 hn) lo_54 rfl (rt_54_6 _ _ _ _ _) ?_
  refine J_iload_n hX dX5_fitsSeen_42 rfl 3 rfl ?_
  refine J_iaload hX dX5_fitsSeen_43 (ltn ltc_58 hn) lay_58 h (fun h => ?_)
  obtain ⟨r2, m1, h0, h⟩ := bd2_some h
  refine J_callVi (As := [.int v1, .int (gI m 58 (ix v2))]) (st := []) hX dX5_fitsSeen_44 cw_RX5_106 (by omega) (c_X5_dearerWithout hn  h0) (ltn ltc_76 hn) lo_76 (by decide) rfl rfl rfl (Nat.le_of_ble_eq_true rfl) ?_
  clear h0
  refine J_iload_n hX dX5_fitsSeen_47 rfl 0 rfl ?_
  refine J_icmp_eq hX 53 dX5_fitsSeen_48 (by decide) h (fun c h => ?_) (fun c h => ?_)
  · refine J_iinc hX (v2 + (1 : Int32)) [(2, .int (v2 + (1 : Int32))), (3, .int s0), (0, .ref 76), (1, .int v1)] dX5_fitsSeen_53 3 rfl (congrArg (fun z => v2 + z) ic_1) (by decide) rfl ?_
    refine J_goto hX 2 dX5_fitsSeen_56 (by decide) ?_
    refine J_sub [(0, .ref 76), (1, .int v1), (2, .int (v2 + (1 : Int32)))] [2, 3, 0] rfl ?_
    exact hK2 v1 (v2 + (1 : Int32)) m1 h
  · refine J_iconst hX (0 : Int32) dX5_fitsSeen_51 ic_0 ?_
    exact J_ireturn hX dX5_fitsSeen_52 h hF narrow_b0
theorem t_X5_fitsSeen_L2 {X : XX} {G : GG} {ρ : Nat → Nat} {n t u w v : Nat} {x : Option Nat} {d : Nat} (hX : Ok X G ρ cX5_fitsSeen 4 RX5 d) (hd0 : 3 ≤ d) (hn : 126 ≤ n) {rE : Int32} {mE : Mm} (hF : Fin' X G ρ n (some .boolean) (some (.int rE)) (RT t u w v x) mE) : ∀ (k : Nat) (v1 : Int32) (v2 : Int32) (m : Mm), f_X5_fitsSeen_L2 k v1 v2 m = some (rE, mE) → J X G ρ n 4 2 [(0, .ref 76), (1, .int v1), (2, .int v2)] [] (RT t u w v x) m := by
  intro k
  induction k with
  | zero => intro _ _ _ h; rw [f_X5_fitsSeen_L2] at h; cases h
  | succ k ih =>
    intro v1 v2 m h
    rw [f_X5_fitsSeen_L2] at h
    refine J_iload_n hX dX5_fitsSeen_2 rfl 2 rfl ?_
    refine J_aload_n hX dX5_fitsSeen_3 rfl 0 rfl ?_
    refine J_getR hX dX5_fitsSeen_4 fl_RX5_15 (ltn ltc_76 hn) lo_76 rfl (rt_76_0 _ _ _ _ _) ?_
    refine J_getI hX dX5_fitsSeen_7 fl_RX5_97 (ltn ltc_54 hn) lo_54 rfl ?_
    refine J_icmp_ge hX 59 dX5_fitsSeen_10 (by decide) h (fun c h => ?_) (fun c h => ?_)
    · refine J_aload_n hX dX5_fitsSeen_13 rfl 0 rfl ?_
      refine J_getR hX dX5_fitsSeen_14 fl_RX5_15 (ltn ltc_76 hn) lo_76 rfl (rt_76_0 _ _ _ _ _) ?_
      refine J_getI hX dX5_fitsSeen_17 fl_RX5_100 (ltn ltc_54 hn) lo_54 rfl ?_
      refine J_iload_n hX dX5_fitsSeen_20 rfl 2 rfl ?_
      refine J_ishr hX dX5_fitsSeen_21 ?_
      refine J_iconst hX (1 : Int32) dX5_fitsSeen_22 ic_1 ?_
      refine J_iand hX dX5_fitsSeen_23 ?_
      refine J_if_eq hX 31 dX5_fitsSeen_24 (by decide) h (fun c h => ?_) (fun c h => ?_)
      · refine J_iconst hX (0 : Int32) dX5_fitsSeen_31 ic_0 ?_
        exact t_X5_fitsSeen_J32 hX hd0 hn hF v1 v2 (0 : Int32) (fun w1 w2 m h => ih w1 w2 m h) m h
      · refine J_iconst hX (1 : Int32) dX5_fitsSeen_27 ic_1 ?_
        refine J_goto hX 32 dX5_fitsSeen_28 (by decide) ?_
        exact t_X5_fitsSeen_J32 hX hd0 hn hF v1 v2 (1 : Int32) (fun w1 w2 m h => ih w1 w2 m h) m h
    · refine J_iconst hX (1 : Int32) dX5_fitsSeen_59 ic_1 ?_
      exact J_ireturn hX dX5_fitsSeen_60 h hF narrow_b1
theorem t_X5_fitsSeen {X : XX} {G : GG} {ρ : Nat → Nat} {n t u w v : Nat} {x : Option Nat} {d : Nat} (hX : Ok X G ρ cX5_fitsSeen 4 RX5 d) (hd0 : 3 ≤ d) (hn : 126 ≤ n) {rE : Int32} {mE : Mm} (hF : Fin' X G ρ n (some .boolean) (some (.int rE)) (RT t u w v x) mE) {x1 : Int32} {m : Mm} (h : f_X5_fitsSeen x1 m = some (rE, mE)) : J X G ρ n 4 0 [(0, .ref 76), (1, .int x1)] [] (RT t u w v x) m := by
  unfold f_X5_fitsSeen at h
  refine J_iconst hX (0 : Int32) dX5_fitsSeen_0 ic_0 ?_
  refine J_istore_n hX [(2, .int (0 : Int32)), (0, .ref 76), (1, .int x1)] dX5_fitsSeen_1 rfl (by decide) rfl ?_
  refine J_sub [(0, .ref 76), (1, .int x1), (2, .int (0 : Int32))] [1, 2, 0] rfl ?_
  exact t_X5_fitsSeen_L2 hX hd0 hn hF FU x1 (0 : Int32)  m h
theorem c_X5_fitsSeen {G : GG} {l : Launch} {ρ : Nat → Nat} {n t u w v : Nat} {x : Option Nat} (hn : 126 ≤ n) {x1 : Int32} {m : Mm} {rE : Int32} {mE : Mm} (h : f_X5_fitsSeen x1 m = some (rE, mE)) : CT G l yX5_fitsSeen cX5_fitsSeen 4 (some .boolean) 3 0 0 ρ n (RT t u w v x) [.ref 76, .int x1] m (some (.int rE)) (RT t u w v x) mE := ct_of_J (by decide) rfl (Nat.le_of_ble_eq_true rfl) (fun X hX e1 e2 e3 e4 hQ hr hl => t_X5_fitsSeen hX (Nat.le_refl _) hn ⟨by rw [hQ, e3, e4], hr, hl⟩ h)
theorem t_X5_suspects_L4 {X : XX} {G : GG} {ρ : Nat → Nat} {n t u w v : Nat} {x : Option Nat} {d : Nat} (hX : Ok X G ρ cX5_suspects 3 RX5 d) (hd0 : 4 ≤ d) (hn : 126 ≤ n) {rE : Int32} {mE : Mm} (hF : Fin' X G ρ n (some .int) (some (.int rE)) (RT t u w v x) mE) : ∀ (k : Nat) (v1 : Int32) (v2 : Int32) (m : Mm), f_X5_suspects_L4 k v1 v2 m = some (rE, mE) → J X G ρ n 3 4 [(0, .ref 76), (1, .int v1), (2, .int v2)] [] (RT t u w v x) m := by
  intro k
  induction k with
  | zero => intro _ _ _ h; rw [f_X5_suspects_L4] at h; cases h
  | succ k ih =>
    intro v1 v2 m h
    rw [f_X5_suspects_L4] at h
    refine J_iload_n hX dX5_suspects_4 rfl 2 rfl ?_
    refine J_aload_n hX dX5_suspects_5 rfl 0 rfl ?_
    refine J_getR hX dX5_suspects_6 fl_RX5_19 (ltn ltc_76 hn) lo_76 rfl (rt_76_1 _ _ _ _ _) ?_
    refine J_getI hX dX5_suspects_9 fl_RX5_76 (ltn ltc_26 hn) lo_26 rfl ?_
    refine J_icmp_ge hX 46 dX5_suspects_12 (by decide) h (fun c h => ?_) (fun c h => ?_)
    · refine J_aload_n hX dX5_suspects_15 rfl 0 rfl ?_
      refine J_getR hX dX5_suspects_16 fl_RX5_15 (ltn ltc_76 hn) lo_76 rfl (rt_76_0 _ _ _ _ _) ?_
      refine J_iload_n hX dX5_suspects_19 rfl 2 rfl ?_
      obtain ⟨r2, m1, h0, h⟩ := bd2_some h
      refine J_callVi (As := [.int v2]) (st := []) hX dX5_suspects_20 cw_RX5_52 (by omega) (c_X6_isUp hn p_isSt_54 h0) (ltn ltc_54 hn) lo_54 (by decide) rfl rfl rfl (Nat.le_of_ble_eq_true rfl) ?_
      clear h0
      refine J_if_eq hX 40 dX5_suspects_23 (by decide) h (fun c h => ?_) (fun c h => ?_)
      · refine J_iinc hX (v2 + (1 : Int32)) [(2, .int (v2 + (1 : Int32))), (0, .ref 76), (1, .int v1)] dX5_suspects_40 2 rfl (congrArg (fun z => v2 + z) ic_1) (by decide) rfl ?_
        refine J_goto hX 4 dX5_suspects_43 (by decide) ?_
        refine J_sub [(0, .ref 76), (1, .int v1), (2, .int (v2 + (1 : Int32)))] [1, 2, 0] rfl ?_
        exact ih v1 (v2 + (1 : Int32)) m1 h
      · refine J_aload_n hX dX5_suspects_26 rfl 0 rfl ?_
        refine J_iload_n hX dX5_suspects_27 rfl 2 rfl ?_
        obtain ⟨r4, m3, h0, h⟩ := bd2_some h
        refine J_callVi (As := [.int v2]) (st := []) hX dX5_suspects_28 cw_RX5_94 (by omega) (c_X5_fitsSeen hn  h0) (ltn ltc_76 hn) lo_76 (by decide) rfl rfl rfl (Nat.le_of_ble_eq_true rfl) ?_
        clear h0
        refine J_if_eq hX 40 dX5_suspects_31 (by decide) h (fun c h => ?_) (fun c h => ?_)
        · refine J_iinc hX (v2 + (1 : Int32)) [(2, .int (v2 + (1 : Int32))), (0, .ref 76), (1, .int v1)] dX5_suspects_40 2 rfl (congrArg (fun z => v2 + z) ic_1) (by decide) rfl ?_
          refine J_goto hX 4 dX5_suspects_43 (by decide) ?_
          refine J_sub [(0, .ref 76), (1, .int v1), (2, .int (v2 + (1 : Int32)))] [1, 2, 0] rfl ?_
          exact ih v1 (v2 + (1 : Int32)) m3 h
        · refine J_iload_n hX dX5_suspects_34 rfl 1 rfl ?_
          refine J_iconst hX (1 : Int32) dX5_suspects_35 ic_1 ?_
          refine J_iload_n hX dX5_suspects_36 rfl 2 rfl ?_
          refine J_ishl hX dX5_suspects_37 ?_
          refine J_ior hX dX5_suspects_38 ?_
          refine J_istore_n hX [(1, .int (v1 ||| ((1 : Int32) <<< (v2 &&& 31)))), (0, .ref 76), (2, .int v2)] dX5_suspects_39 rfl (by decide) rfl ?_
          refine J_iinc hX (v2 + (1 : Int32)) [(2, .int (v2 + (1 : Int32))), (1, .int (v1 ||| ((1 : Int32) <<< (v2 &&& 31)))), (0, .ref 76)] dX5_suspects_40 2 rfl (congrArg (fun z => v2 + z) ic_1) (by decide) rfl ?_
          refine J_goto hX 4 dX5_suspects_43 (by decide) ?_
          refine J_sub [(0, .ref 76), (1, .int (v1 ||| ((1 : Int32) <<< (v2 &&& 31)))), (2, .int (v2 + (1 : Int32)))] [2, 1, 0] rfl ?_
          exact ih (v1 ||| ((1 : Int32) <<< (v2 &&& 31))) (v2 + (1 : Int32)) m3 h
    · refine J_iload_n hX dX5_suspects_46 rfl 1 rfl ?_
      exact J_ireturn hX dX5_suspects_47 h hF rfl
theorem t_X5_suspects {X : XX} {G : GG} {ρ : Nat → Nat} {n t u w v : Nat} {x : Option Nat} {d : Nat} (hX : Ok X G ρ cX5_suspects 3 RX5 d) (hd0 : 4 ≤ d) (hn : 126 ≤ n) {rE : Int32} {mE : Mm} (hF : Fin' X G ρ n (some .int) (some (.int rE)) (RT t u w v x) mE) {m : Mm} (h : f_X5_suspects m = some (rE, mE)) : J X G ρ n 3 0 [(0, .ref 76)] [] (RT t u w v x) m := by
  unfold f_X5_suspects at h
  refine J_iconst hX (0 : Int32) dX5_suspects_0 ic_0 ?_
  refine J_istore_n hX [(1, .int (0 : Int32)), (0, .ref 76)] dX5_suspects_1 rfl (by decide) rfl ?_
  refine J_iconst hX (0 : Int32) dX5_suspects_2 ic_0 ?_
  refine J_istore_n hX [(2, .int (0 : Int32)), (1, .int (0 : Int32)), (0, .ref 76)] dX5_suspects_3 rfl (by decide) rfl ?_
  refine J_sub [(0, .ref 76), (1, .int (0 : Int32)), (2, .int (0 : Int32))] [2, 1, 0] rfl ?_
  exact t_X5_suspects_L4 hX hd0 hn hF FU (0 : Int32) (0 : Int32)  m h
theorem c_X5_suspects {G : GG} {l : Launch} {ρ : Nat → Nat} {n t u w v : Nat} {x : Option Nat} (hn : 126 ≤ n) {m : Mm} {rE : Int32} {mE : Mm} (h : f_X5_suspects m = some (rE, mE)) : CT G l yX5_suspects cX5_suspects 3 (some .int) 4 0 0 ρ n (RT t u w v x) [.ref 76] m (some (.int rE)) (RT t u w v x) mE := ct_of_J (by decide) rfl (Nat.le_of_ble_eq_true rfl) (fun X hX e1 e2 e3 e4 hQ hr hl => t_X5_suspects hX (Nat.le_refl _) hn ⟨by rw [hQ, e3, e4], hr, hl⟩ h)
theorem t_X5_leftBy_L5 {X : XX} {G : GG} {ρ : Nat → Nat} {n t u w v : Nat} {x : Option Nat} {d : Nat} (hX : Ok X G ρ cX5_leftBy 5 RX5 d) (hd0 : 3 ≤ d) (hn : 126 ≤ n) {rE : Int32} {mE : Mm} (hF : Fin' X G ρ n (some .int) (some (.int rE)) (RT t u w v x) mE) : ∀ (k : Nat) (v1 : Int32) (v2 : Int32) (v3 : Int32) (v4 : Int32) (m : Mm), f_X5_leftBy_L5 k v1 v2 v3 v4 m = some (rE, mE) → J X G ρ n 5 5 [(0, .ref 76), (1, .int v1), (2, .int v2), (3, .int v3), (4, .int v4)] [] (RT t u w v x) m := by
  intro k
  induction k with
  | zero => intro _ _ _ _ _ h; rw [f_X5_leftBy_L5] at h; cases h
  | succ k ih =>
    intro v1 v2 v3 v4 m h
    rw [f_X5_leftBy_L5] at h
    refine J_iload hX dX5_leftBy_5 4 rfl ?_
    refine J_aload_n hX dX5_leftBy_7 rfl 0 rfl ?_
    refine J_getR hX dX5_leftBy_8 fl_RX5_19 (ltn ltc_76 hn) lo_76 rfl (rt_76_1 _ _ _ _ _) ?_
    refine J_getI hX dX5_leftBy_11 fl_RX5_76 (ltn ltc_26 hn) lo_26 rfl ?_
    refine J_icmp_ge hX 45 dX5_leftBy_14 (by decide) h (fun c h => ?_) (fun c h => ?_)
    · refine J_iload_n hX dX5_leftBy_17 rfl 2 rfl ?_
      refine J_iload hX dX5_leftBy_18 4 rfl ?_
      refine J_ishr hX dX5_leftBy_20 ?_
      refine J_iconst hX (1 : Int32) dX5_leftBy_21 ic_1 ?_
      refine J_iand hX dX5_leftBy_22 ?_
      refine J_if_eq hX 39 dX5_leftBy_23 (by decide) h (fun c h => ?_) (fun c h => ?_)
      · refine J_iinc hX (v4 + (1 : Int32)) [(4, .int (v4 + (1 : Int32))), (0, .ref 76), (1, .int v1), (2, .int v2), (3, .int v3)] dX5_leftBy_39 4 rfl (congrArg (fun z => v4 + z) ic_1) (by decide) rfl ?_
        refine J_goto hX 5 dX5_leftBy_42 (by decide) ?_
        refine J_sub [(0, .ref 76), (1, .int v1), (2, .int v2), (3, .int v3), (4, .int (v4 + (1 : Int32)))] [1, 2, 3, 4, 0] rfl ?_
        exact ih v1 v2 v3 (v4 + (1 : Int32)) m h
      · refine J_aload_n hX dX5_leftBy_26 rfl 0 rfl ?_
        refine J_iload hX dX5_leftBy_27 4 rfl ?_
        refine J_iload_n hX dX5_leftBy_29 rfl 1 rfl ?_
        obtain ⟨r4, m3, h0, h⟩ := bd2_some h
        refine J_callVi (As := [.int v4, .int v1]) (st := []) hX dX5_leftBy_30 cw_RX5_106 (by omega) (c_X5_dearerWithout hn  h0) (ltn ltc_76 hn) lo_76 (by decide) rfl rfl rfl (Nat.le_of_ble_eq_true rfl) ?_
        clear h0
        refine J_if_eq hX 39 dX5_leftBy_33 (by decide) h (fun c h => ?_) (fun c h => ?_)
        · refine J_iinc hX (v4 + (1 : Int32)) [(4, .int (v4 + (1 : Int32))), (0, .ref 76), (1, .int v1), (2, .int v2), (3, .int v3)] dX5_leftBy_39 4 rfl (congrArg (fun z => v4 + z) ic_1) (by decide) rfl ?_
          refine J_goto hX 5 dX5_leftBy_42 (by decide) ?_
          refine J_sub [(0, .ref 76), (1, .int v1), (2, .int v2), (3, .int v3), (4, .int (v4 + (1 : Int32)))] [1, 2, 3, 4, 0] rfl ?_
          exact ih v1 v2 v3 (v4 + (1 : Int32)) m3 h
        · refine J_iinc hX (v3 + (1 : Int32)) [(3, .int (v3 + (1 : Int32))), (0, .ref 76), (1, .int v1), (2, .int v2), (4, .int v4)] dX5_leftBy_36 3 rfl (congrArg (fun z => v3 + z) ic_1) (by decide) rfl ?_
          refine J_iinc hX (v4 + (1 : Int32)) [(4, .int (v4 + (1 : Int32))), (3, .int (v3 + (1 : Int32))), (0, .ref 76), (1, .int v1), (2, .int v2)] dX5_leftBy_39 4 rfl (congrArg (fun z => v4 + z) ic_1) (by decide) rfl ?_
          refine J_goto hX 5 dX5_leftBy_42 (by decide) ?_
          refine J_sub [(0, .ref 76), (1, .int v1), (2, .int v2), (3, .int (v3 + (1 : Int32))), (4, .int (v4 + (1 : Int32)))] [2, 3, 4, 1, 0] rfl ?_
          exact ih v1 v2 (v3 + (1 : Int32)) (v4 + (1 : Int32)) m3 h
    · refine J_iload_n hX dX5_leftBy_45 rfl 3 rfl ?_
      refine J_iload_n hX dX5_leftBy_46 rfl 2 rfl ?_
      obtain ⟨r2, m1, h0, h⟩ := bd2_some h
      refine J_callSi (As := [.int v2]) (st := [.int v3]) hX dX5_leftBy_47 cw_RX5_71 (by omega) (c_J6_bitCount_0f7a4 hn  h0) rfl rfl (Nat.le_of_ble_eq_true rfl) ?_
      clear h0
      refine J_iload_n hX dX5_leftBy_50 rfl 3 rfl ?_
      refine J_isub hX dX5_leftBy_51 ?_
      refine J_imax hX dX5_leftBy_52 (by omega) cm_RX5_121 (Nat.le_of_ble_eq_true rfl) ?_
      exact J_ireturn hX dX5_leftBy_55 h hF rfl
theorem t_X5_leftBy {X : XX} {G : GG} {ρ : Nat → Nat} {n t u w v : Nat} {x : Option Nat} {d : Nat} (hX : Ok X G ρ cX5_leftBy 5 RX5 d) (hd0 : 3 ≤ d) (hn : 126 ≤ n) {rE : Int32} {mE : Mm} (hF : Fin' X G ρ n (some .int) (some (.int rE)) (RT t u w v x) mE) {x1 : Int32} {x2 : Int32} {m : Mm} (h : f_X5_leftBy x1 x2 m = some (rE, mE)) : J X G ρ n 5 0 [(0, .ref 76), (1, .int x1), (2, .int x2)] [] (RT t u w v x) m := by
  unfold f_X5_leftBy at h
  refine J_iconst hX (0 : Int32) dX5_leftBy_0 ic_0 ?_
  refine J_istore_n hX [(3, .int (0 : Int32)), (0, .ref 76), (1, .int x1), (2, .int x2)] dX5_leftBy_1 rfl (by decide) rfl ?_
  refine J_iconst hX (0 : Int32) dX5_leftBy_2 ic_0 ?_
  refine J_istore hX [(4, .int (0 : Int32)), (3, .int (0 : Int32)), (0, .ref 76), (1, .int x1), (2, .int x2)] dX5_leftBy_3 (by decide) rfl ?_
  refine J_sub [(0, .ref 76), (1, .int x1), (2, .int x2), (3, .int (0 : Int32)), (4, .int (0 : Int32))] [2, 3, 4, 1, 0] rfl ?_
  exact t_X5_leftBy_L5 hX hd0 hn hF FU x1 x2 (0 : Int32) (0 : Int32)  m h
theorem c_X5_leftBy {G : GG} {l : Launch} {ρ : Nat → Nat} {n t u w v : Nat} {x : Option Nat} (hn : 126 ≤ n) {x1 : Int32} {x2 : Int32} {m : Mm} {rE : Int32} {mE : Mm} (h : f_X5_leftBy x1 x2 m = some (rE, mE)) : CT G l yX5_leftBy cX5_leftBy 5 (some .int) 3 0 0 ρ n (RT t u w v x) [.ref 76, .int x1, .int x2] m (some (.int rE)) (RT t u w v x) mE := ct_of_J (by decide) rfl (Nat.le_of_ble_eq_true rfl) (fun X hX e1 e2 e3 e4 hQ hr hl => t_X5_leftBy hX (Nat.le_refl _) hn ⟨by rw [hQ, e3, e4], hr, hl⟩ h)
theorem t_X6_isDead {X : XX} {G : GG} {ρ : Nat → Nat} {n t u w v : Nat} {x : Option Nat} {d : Nat} {a : Nat} (hX : Ok X G ρ cX6_isDead 3 RX6 d) (hd0 : 1 ≤ d) (hn : 126 ≤ n) (ha : isSt a) {rE : Int32} {mE : Mm} (hF : Fin' X G ρ n (some .boolean) (some (.int rE)) (RT t u w v x) mE) {x1 : Int32} {m : Mm} (h : f_X6_isDead a x1 m = some (rE, mE)) : J X G ρ n 3 0 [(0, .ref a), (1, .int x1)] [] (RT t u w v x) m := by
  unfold f_X6_isDead at h
  refine J_aload_n hX dX6_isDead_0 rfl 0 rfl ?_
  refine J_iload_n hX dX6_isDead_1 rfl 1 rfl ?_
  obtain ⟨r2, m1, h0, h⟩ := bd2_some h
  refine J_callVi (As := [.int x1]) (st := []) hX dX6_isDead_2 cw_RX6_64 (by omega) (c_X6_lostBits hn ha h0) (ltn (lt_isSt_0 ha) hn) (lo_isSt_0 ha) (by decide) rfl rfl rfl (Nat.le_of_ble_eq_true rfl) ?_
  clear h0
  refine J_istore_n hX [(2, .int r2), (0, .ref a), (1, .int x1)] dX6_isDead_5 rfl (by decide) rfl ?_
  refine J_iload_n hX dX6_isDead_6 rfl 0 rfl ?_
  refine J_iload_n hX dX6_isDead_7 rfl 0 rfl ?_
  refine J_iconst hX (1 : Int32) dX6_isDead_8 ic_1 ?_
  refine J_isub hX dX6_isDead_9 ?_
  refine J_iand hX dX6_isDead_10 ?_
  refine J_if_eq hX 18 dX6_isDead_11 (by decide) h (fun c h => ?_) (fun c h => ?_)
  · refine J_iconst hX (0 : Int32) dX6_isDead_18 ic_0 ?_
    exact J_ireturn hX dX6_isDead_19 h hF narrow_b0
  · refine J_iconst hX (1 : Int32) dX6_isDead_14 ic_1 ?_
    refine J_goto hX 19 dX6_isDead_15 (by decide) ?_
    exact J_ireturn hX dX6_isDead_19 h hF narrow_b1
theorem c_X6_isDead {G : GG} {l : Launch} {ρ : Nat → Nat} {n t u w v : Nat} {x : Option Nat} (hn : 126 ≤ n) {a : Nat} (ha : isSt a) {x1 : Int32} {m : Mm} {rE : Int32} {mE : Mm} (h : f_X6_isDead a x1 m = some (rE, mE)) : CT G l yX6_isDead cX6_isDead 3 (some .boolean) 1 0 0 ρ n (RT t u w v x) [.ref a, .int x1] m (some (.int rE)) (RT t u w v x) mE := ct_of_J (by decide) rfl (Nat.le_of_ble_eq_true rfl) (fun X hX e1 e2 e3 e4 hQ hr hl => t_X6_isDead hX (Nat.le_refl _) hn ha ⟨by rw [hQ, e3, e4], hr, hl⟩ h)
theorem t_X6_costOf {X : XX} {G : GG} {ρ : Nat → Nat} {n t u w v : Nat} {x : Option Nat} {d : Nat} {a : Nat} (hX : Ok X G ρ cX6_costOf 2 RX6 d) (hd0 : 2 ≤ d) (hn : 126 ≤ n) (ha : isSt a) {rE : Int32} {mE : Mm} (hF : Fin' X G ρ n (some .int) (some (.int rE)) (RT t u w v x) mE) {x1 : Int32} {m : Mm} (h : f_X6_costOf a x1 m = some (rE, mE)) : J X G ρ n 2 0 [(0, .ref a), (1, .int x1)] [] (RT t u w v x) m := by
  unfold f_X6_costOf at h
  refine J_aload_n hX dX6_costOf_0 rfl 0 rfl ?_
  refine J_getR hX dX6_costOf_1 fl_RX6_9 (ltn (lt_isSt_0 ha) hn) (lo_isSt_0 ha) rfl (rt_isSt_0_2 _ _ _ _ _ ha) ?_
  refine J_iload_n hX dX6_costOf_4 rfl 1 rfl ?_
  refine J_iaload hX dX6_costOf_5 (ltn (lt_isSt_1 ha) hn) (lay_isSt_1 ha) h (fun h => ?_)
  refine J_iconst hX (2 : Int32) dX6_costOf_6 ic_2 ?_
  refine J_icmp_eq hX 12 dX6_costOf_7 (by decide) h (fun c h => ?_) (fun c h => ?_)
  · refine J_aload_n hX dX6_costOf_12 rfl 0 rfl ?_
    refine J_iload_n hX dX6_costOf_13 rfl 1 rfl ?_
    refine J_iconst hX (5 : Int32) dX6_costOf_14 ic_5 ?_
    refine J_idiv0 hX dX6_costOf_15 (by decide) ?_
    obtain ⟨r2, m1, h0, h⟩ := bd2_some h
    refine J_callVi (As := [.int (x1 / (5 : Int32))]) (st := []) hX dX6_costOf_16 cw_RX6_85 (by omega) (c_X6_isDead hn ha h0) (ltn (lt_isSt_0 ha) hn) (lo_isSt_0 ha) (by decide) rfl rfl rfl (Nat.le_of_ble_eq_true rfl) ?_
    clear h0
    refine J_if_eq hX 26 dX6_costOf_19 (by decide) h (fun c h => ?_) (fun c h => ?_)
    · refine J_aload_n hX dX6_costOf_26 rfl 0 rfl ?_
      refine J_getR hX dX6_costOf_27 fl_RX6_24 (ltn (lt_isSt_0 ha) hn) (lo_isSt_0 ha) rfl (rt_isSt_0_0 _ _ _ _ _ ha) ?_
      refine J_getR hX dX6_costOf_30 fl_RX6_61 (ltn ltc_26 hn) lo_26 rfl (rt_26_3 _ _ _ _ _) ?_
      refine J_iload_n hX dX6_costOf_33 rfl 1 rfl ?_
      refine J_iconst hX (5 : Int32) dX6_costOf_34 ic_5 ?_
      refine J_idiv0 hX dX6_costOf_35 (by decide) ?_
      refine J_iaload hX dX6_costOf_36 (ltn ltc_27 hn) lay_27 h (fun h => ?_)
      refine J_iconst hX (1 : Int32) dX6_costOf_37 ic_1 ?_
      refine J_isub hX dX6_costOf_38 ?_
      exact J_ireturn hX dX6_costOf_39 h hF rfl
    · refine J_iconst hX (-1 : Int32) dX6_costOf_22 ic_m1 ?_
      refine J_goto hX 39 dX6_costOf_23 (by decide) ?_
      exact J_ireturn hX dX6_costOf_39 h hF rfl
  · refine J_iconst hX (1 : Int32) dX6_costOf_10 ic_1 ?_
    exact J_ireturn hX dX6_costOf_11 h hF rfl
theorem c_X6_costOf {G : GG} {l : Launch} {ρ : Nat → Nat} {n t u w v : Nat} {x : Option Nat} (hn : 126 ≤ n) {a : Nat} (ha : isSt a) {x1 : Int32} {m : Mm} {rE : Int32} {mE : Mm} (h : f_X6_costOf a x1 m = some (rE, mE)) : CT G l yX6_costOf cX6_costOf 2 (some .int) 2 0 0 ρ n (RT t u w v x) [.ref a, .int x1] m (some (.int rE)) (RT t u w v x) mE := ct_of_J (by decide) rfl (Nat.le_of_ble_eq_true rfl) (fun X hX e1 e2 e3 e4 hQ hr hl => t_X6_costOf hX (Nat.le_refl _) hn ha ⟨by rw [hQ, e3, e4], hr, hl⟩ h)
theorem t_X6_load {X : XX} {G : GG} {ρ : Nat → Nat} {n t u w v : Nat} {x : Option Nat} {d : Nat} {a : Nat} (hX : Ok X G ρ cX6_load 4 RX6 d) (hd0 : 1 ≤ d) (hn : 126 ≤ n) (ha : isSt a) {mE : Mm} (hF : Fin' X G ρ n none none (RT t u w v x) mE) {x1 : Int32} {x2 : Int32} {m : Mm} (h : f_X6_load a x1 x2 m = some mE) : J X G ρ n 4 0 [(0, .ref a), (1, .int x1), (2, .int x2)] [] (RT t u w v x) m := by
  unfold f_X6_load at h
  refine J_aload_n hX dX6_load_0 rfl 0 rfl ?_
  refine J_iload_n hX dX6_load_1 rfl 1 rfl ?_
  obtain ⟨r2, m1, h0, h⟩ := bd2_some h
  refine J_callVi (As := [.int x1]) (st := []) hX dX6_load_2 cw_RX6_73 (by omega) (c_X6_diskNow hn ha h0) (ltn (lt_isSt_0 ha) hn) (lo_isSt_0 ha) (by decide) rfl rfl rfl (Nat.le_of_ble_eq_true rfl) ?_
  clear h0
  refine J_istore_n hX [(3, .int r2), (0, .ref a), (1, .int x1), (2, .int x2)] dX6_load_5 rfl (by decide) rfl ?_
  refine J_iload_n hX dX6_load_6 rfl 0 rfl ?_
  refine J_iconst hX (-1 : Int32) dX6_load_7 ic_m1 ?_
  refine J_icmp_eq hX 21 dX6_load_8 (by decide) h (fun c h => ?_) (fun c h => ?_)
  · exact J_return hX dX6_load_21 h hF
  · refine J_aload_n hX dX6_load_11 rfl 1 rfl ?_
    refine J_getR hX dX6_load_12 fl_RX6_18 (ltn (lt_isSt_0 ha) hn) (lo_isSt_0 ha) rfl (rt_isSt_0_4 _ _ _ _ _ ha) ?_
    refine J_iload_n hX dX6_load_15 rfl 0 rfl ?_
    refine J_dup2 hX dX6_load_16 rfl rfl ?_
    refine J_iaload hX dX6_load_17 (ltn (lt_isSt_3 ha) hn) (lay_isSt_3 ha) h (fun h => ?_)
    refine J_iload_n hX dX6_load_18 rfl 3 rfl ?_
    refine J_iadd hX dX6_load_19 ?_
    refine J_iastore hX dX6_load_20 (ltn (lt_isSt_3 ha) hn) (lay_isSt_3 ha) h (fun m3 h => ?_)
    exact J_return hX dX6_load_21 h hF
theorem c_X6_load {G : GG} {l : Launch} {ρ : Nat → Nat} {n t u w v : Nat} {x : Option Nat} (hn : 126 ≤ n) {a : Nat} (ha : isSt a) {x1 : Int32} {x2 : Int32} {m : Mm} {mE : Mm} (h : f_X6_load a x1 x2 m = some mE) : CT G l yX6_load cX6_load 4 none 1 0 0 ρ n (RT t u w v x) [.ref a, .int x1, .int x2] m none (RT t u w v x) mE := ct_of_J (by decide) rfl (Nat.le_of_ble_eq_true rfl) (fun X hX e1 e2 e3 e4 hQ hr hl => t_X6_load hX (Nat.le_refl _) hn ha ⟨by rw [hQ, e3, e4], hr, hl⟩ h)
theorem t_X6_loadThere_L2 {X : XX} {G : GG} {ρ : Nat → Nat} {n t u w v : Nat} {x : Option Nat} {d : Nat} {a : Nat} (hX : Ok X G ρ cX6_loadThere 3 RX6 d) (hd0 : 2 ≤ d) (hn : 126 ≤ n) (ha : isSt a) {mE : Mm} (hF : Fin' X G ρ n none none (RT t u w v x) mE) : ∀ (k : Nat) (v1 : Int32) (v2 : Int32) (m : Mm), f_X6_loadThere_L2 a k v1 v2 m = some mE → J X G ρ n 3 2 [(0, .ref a), (1, .int v1), (2, .int v2)] [] (RT t u w v x) m := by
  intro k
  induction k with
  | zero => intro _ _ _ h; rw [f_X6_loadThere_L2] at h; cases h
  | succ k ih =>
    intro v1 v2 m h
    rw [f_X6_loadThere_L2] at h
    refine J_iload_n hX dX6_loadThere_2 rfl 2 rfl ?_
    refine J_aload_n hX dX6_loadThere_3 rfl 0 rfl ?_
    refine J_getR hX dX6_loadThere_4 fl_RX6_24 (ltn (lt_isSt_0 ha) hn) (lo_isSt_0 ha) rfl (rt_isSt_0_0 _ _ _ _ _ ha) ?_
    refine J_getR hX dX6_loadThere_7 fl_RX6_61 (ltn ltc_26 hn) lo_26 rfl (rt_26_3 _ _ _ _ _) ?_
    refine J_iload_n hX dX6_loadThere_10 rfl 1 rfl ?_
    refine J_iaload hX dX6_loadThere_11 (ltn ltc_27 hn) lay_27 h (fun h => ?_)
    refine J_icmp_ge hX 31 dX6_loadThere_12 (by decide) h (fun c h => ?_) (fun c h => ?_)
    · refine J_aload_n hX dX6_loadThere_15 rfl 0 rfl ?_
      refine J_iload_n hX dX6_loadThere_16 rfl 1 rfl ?_
      refine J_iconst hX (5 : Int32) dX6_loadThere_17 ic_5 ?_
      refine J_imul hX dX6_loadThere_18 ?_
      refine J_iload_n hX dX6_loadThere_19 rfl 2 rfl ?_
      refine J_iadd hX dX6_loadThere_20 ?_
      refine J_iconst hX (1 : Int32) dX6_loadThere_21 ic_1 ?_
      obtain ⟨m1, h0, h⟩ := bd1_some h
      refine J_callVv (As := [.int ((v1 * (5 : Int32)) + v2), .int (1 : Int32)]) (st := []) hX dX6_loadThere_22 cw_RX6_89 (by omega) (c_X6_load hn ha h0) (ltn (lt_isSt_0 ha) hn) (lo_isSt_0 ha) (by decide) rfl rfl rfl (Nat.le_of_ble_eq_true rfl) ?_
      clear h0
      refine J_iinc hX (v2 + (1 : Int32)) [(2, .int (v2 + (1 : Int32))), (0, .ref a), (1, .int v1)] dX6_loadThere_25 2 rfl (congrArg (fun z => v2 + z) ic_1) (by decide) rfl ?_
      refine J_goto hX 2 dX6_loadThere_28 (by decide) ?_
      refine J_sub [(0, .ref a), (1, .int v1), (2, .int (v2 + (1 : Int32)))] [1, 2, 0] rfl ?_
      exact ih v1 (v2 + (1 : Int32)) m1 h
    · exact J_return hX dX6_loadThere_31 h hF
theorem t_X6_loadThere {X : XX} {G : GG} {ρ : Nat → Nat} {n t u w v : Nat} {x : Option Nat} {d : Nat} {a : Nat} (hX : Ok X G ρ cX6_loadThere 3 RX6 d) (hd0 : 2 ≤ d) (hn : 126 ≤ n) (ha : isSt a) {mE : Mm} (hF : Fin' X G ρ n none none (RT t u w v x) mE) {x1 : Int32} {m : Mm} (h : f_X6_loadThere a x1 m = some mE) : J X G ρ n 3 0 [(0, .ref a), (1, .int x1)] [] (RT t u w v x) m := by
  unfold f_X6_loadThere at h
  refine J_iconst hX (0 : Int32) dX6_loadThere_0 ic_0 ?_
  refine J_istore_n hX [(2, .int (0 : Int32)), (0, .ref a), (1, .int x1)] dX6_loadThere_1 rfl (by decide) rfl ?_
  refine J_sub [(0, .ref a), (1, .int x1), (2, .int (0 : Int32))] [1, 2, 0] rfl ?_
  exact t_X6_loadThere_L2 hX hd0 hn ha hF FU x1 (0 : Int32)  m h
theorem c_X6_loadThere {G : GG} {l : Launch} {ρ : Nat → Nat} {n t u w v : Nat} {x : Option Nat} (hn : 126 ≤ n) {a : Nat} (ha : isSt a) {x1 : Int32} {m : Mm} {mE : Mm} (h : f_X6_loadThere a x1 m = some mE) : CT G l yX6_loadThere cX6_loadThere 3 none 2 0 0 ρ n (RT t u w v x) [.ref a, .int x1] m none (RT t u w v x) mE := ct_of_J (by decide) rfl (Nat.le_of_ble_eq_true rfl) (fun X hX e1 e2 e3 e4 hQ hr hl => t_X6_loadThere hX (Nat.le_refl _) hn ha ⟨by rw [hQ, e3, e4], hr, hl⟩ h)
theorem t_X6_priceOf {X : XX} {G : GG} {ρ : Nat → Nat} {n t u w v : Nat} {x : Option Nat} {d : Nat} {a : Nat} (hX : Ok X G ρ cX6_priceOf 3 RX6 d) (hd0 : 2 ≤ d) (hn : 126 ≤ n) (ha : isSt a) {rE : Int32} {mE : Mm} (hF : Fin' X G ρ n (some .int) (some (.int rE)) (RT t u w v x) mE) {x1 : Int32} {m : Mm} (h : f_X6_priceOf a x1 m = some (rE, mE)) : J X G ρ n 3 0 [(0, .ref a), (1, .int x1)] [] (RT t u w v x) m := by
  unfold f_X6_priceOf at h
  refine J_iload_n hX dX6_priceOf_0 rfl 1 rfl ?_
  refine J_iconst hX (5 : Int32) dX6_priceOf_1 ic_5 ?_
  refine J_idiv0 hX dX6_priceOf_2 (by decide) ?_
  refine J_istore_n hX [(2, .int (x1 / (5 : Int32))), (0, .ref a), (1, .int x1)] dX6_priceOf_3 rfl (by decide) rfl ?_
  refine J_aload_n hX dX6_priceOf_4 rfl 1 rfl ?_
  refine J_iload_n hX dX6_priceOf_5 rfl 0 rfl ?_
  obtain ⟨r2, m1, h0, h⟩ := bd2_some h
  refine J_callVi (As := [.int (x1 / (5 : Int32))]) (st := []) hX dX6_priceOf_6 cw_RX6_85 (by omega) (c_X6_isDead hn ha h0) (ltn (lt_isSt_0 ha) hn) (lo_isSt_0 ha) (by decide) rfl rfl rfl (Nat.le_of_ble_eq_true rfl) ?_
  clear h0
  refine J_if_eq hX 14 dX6_priceOf_9 (by decide) h (fun c h => ?_) (fun c h => ?_)
  · refine J_aload_n hX dX6_priceOf_14 rfl 1 rfl ?_
    refine J_getR hX dX6_priceOf_15 fl_RX6_9 (ltn (lt_isSt_0 ha) hn) (lo_isSt_0 ha) rfl (rt_isSt_0_2 _ _ _ _ _ ha) ?_
    refine J_iload_n hX dX6_priceOf_18 rfl 2 rfl ?_
    refine J_iaload hX dX6_priceOf_19 (ltn (lt_isSt_1 ha) hn) (lay_isSt_1 ha) h (fun h => ?_)
    refine J_iconst hX (2 : Int32) dX6_priceOf_20 ic_2 ?_
    refine J_icmp_ne hX 36 dX6_priceOf_21 (by decide) h (fun c h => ?_) (fun c h => ?_)
    · refine J_aload_n hX dX6_priceOf_24 rfl 1 rfl ?_
      refine J_getR hX dX6_priceOf_25 fl_RX6_24 (ltn (lt_isSt_0 ha) hn) (lo_isSt_0 ha) rfl (rt_isSt_0_0 _ _ _ _ _ ha) ?_
      refine J_getR hX dX6_priceOf_28 fl_RX6_61 (ltn ltc_26 hn) lo_26 rfl (rt_26_3 _ _ _ _ _) ?_
      refine J_iload_n hX dX6_priceOf_31 rfl 0 rfl ?_
      refine J_iaload hX dX6_priceOf_32 (ltn ltc_27 hn) lay_27 h (fun h => ?_)
      refine J_iconst hX (1 : Int32) dX6_priceOf_33 ic_1 ?_
      refine J_isub hX dX6_priceOf_34 ?_
      exact J_ireturn hX dX6_priceOf_35 h hF rfl
    · refine J_aload_n hX dX6_priceOf_36 rfl 1 rfl ?_
      refine J_getR hX dX6_priceOf_37 fl_RX6_9 (ltn (lt_isSt_0 ha) hn) (lo_isSt_0 ha) rfl (rt_isSt_0_2 _ _ _ _ _ ha) ?_
      refine J_iload_n hX dX6_priceOf_40 rfl 0 rfl ?_
      refine J_iconst hX (5 : Int32) dX6_priceOf_41 ic_5 ?_
      refine J_imul hX dX6_priceOf_42 ?_
      refine J_aload_n hX dX6_priceOf_43 rfl 1 rfl ?_
      refine J_getR hX dX6_priceOf_44 fl_RX6_24 (ltn (lt_isSt_0 ha) hn) (lo_isSt_0 ha) rfl (rt_isSt_0_0 _ _ _ _ _ ha) ?_
      refine J_getR hX dX6_priceOf_47 fl_RX6_82 (ltn ltc_26 hn) lo_26 rfl (rt_26_4 _ _ _ _ _) ?_
      refine J_iload_n hX dX6_priceOf_50 rfl 0 rfl ?_
      refine J_iaload hX dX6_priceOf_51 (ltn ltc_28 hn) lay_28 h (fun h => ?_)
      refine J_iadd hX dX6_priceOf_52 ?_
      refine J_iaload hX dX6_priceOf_53 (ltn (lt_isSt_1 ha) hn) (lay_isSt_1 ha) h (fun h => ?_)
      refine J_iconst hX (2 : Int32) dX6_priceOf_54 ic_2 ?_
      refine J_icmp_ne hX 62 dX6_priceOf_55 (by decide) h (fun c h => ?_) (fun c h => ?_)
      · refine J_iconst hX (1 : Int32) dX6_priceOf_58 ic_1 ?_
        refine J_goto hX 63 dX6_priceOf_59 (by decide) ?_
        exact J_ireturn hX dX6_priceOf_63 h hF rfl
      · refine J_iconst hX (4 : Int32) dX6_priceOf_62 ic_4 ?_
        exact J_ireturn hX dX6_priceOf_63 h hF rfl
  · refine J_iconst hX (-1 : Int32) dX6_priceOf_12 ic_m1 ?_
    exact J_ireturn hX dX6_priceOf_13 h hF rfl
theorem c_X6_priceOf {G : GG} {l : Launch} {ρ : Nat → Nat} {n t u w v : Nat} {x : Option Nat} (hn : 126 ≤ n) {a : Nat} (ha : isSt a) {x1 : Int32} {m : Mm} {rE : Int32} {mE : Mm} (h : f_X6_priceOf a x1 m = some (rE, mE)) : CT G l yX6_priceOf cX6_priceOf 3 (some .int) 2 0 0 ρ n (RT t u w v x) [.ref a, .int x1] m (some (.int rE)) (RT t u w v x) mE := ct_of_J (by decide) rfl (Nat.le_of_ble_eq_true rfl) (fun X hX e1 e2 e3 e4 hQ hr hl => t_X6_priceOf hX (Nat.le_refl _) hn ha ⟨by rw [hQ, e3, e4], hr, hl⟩ h)
theorem t_X6_onlyLost_L8 {X : XX} {G : GG} {ρ : Nat → Nat} {n t u w v : Nat} {x : Option Nat} {d : Nat} {a : Nat} (hX : Ok X G ρ cX6_onlyLost 4 RX6 d) (hd0 : 1 ≤ d) (hn : 126 ≤ n) (ha : isSt a) {rE : Int32} {mE : Mm} (hF : Fin' X G ρ n (some .int) (some (.int rE)) (RT t u w v x) mE) : ∀ (k : Nat) (v1 : Int32) (v2 : Int32) (v3 : Int32) (m : Mm), f_X6_onlyLost_L8 a k v1 v2 v3 m = some (rE, mE) → J X G ρ n 4 8 [(1, .int v1), (2, .int v2), (3, .int v3)] [] (RT t u w v x) m := by
  intro k
  induction k with
  | zero => intro _ _ _ _ h; rw [f_X6_onlyLost_L8] at h; cases h
  | succ k ih =>
    intro v1 v2 v3 m h
    rw [f_X6_onlyLost_L8] at h
    refine J_iload_n hX dX6_onlyLost_8 rfl 2 rfl ?_
    refine J_iconst hX (5 : Int32) dX6_onlyLost_9 ic_5 ?_
    refine J_icmp_ge hX 32 dX6_onlyLost_10 (by decide) h (fun c h => ?_) (fun c h => ?_)
    · refine J_iload_n hX dX6_onlyLost_13 rfl 1 rfl ?_
      refine J_iconst hX (1 : Int32) dX6_onlyLost_14 ic_1 ?_
      refine J_iload_n hX dX6_onlyLost_15 rfl 2 rfl ?_
      refine J_ishl hX dX6_onlyLost_16 ?_
      refine J_icmp_ne hX 26 dX6_onlyLost_17 (by decide) h (fun c h => ?_) (fun c h => ?_)
      · refine J_iload_n hX dX6_onlyLost_20 rfl 0 rfl ?_
        refine J_iconst hX (5 : Int32) dX6_onlyLost_21 ic_5 ?_
        refine J_imul hX dX6_onlyLost_22 ?_
        refine J_iload_n hX dX6_onlyLost_23 rfl 2 rfl ?_
        refine J_iadd hX dX6_onlyLost_24 ?_
        exact J_ireturn hX dX6_onlyLost_25 h hF rfl
      · refine J_iinc hX (v3 + (1 : Int32)) [(3, .int (v3 + (1 : Int32))), (1, .int v1), (2, .int v2)] dX6_onlyLost_26 2 rfl (congrArg (fun z => v3 + z) ic_1) (by decide) rfl ?_
        refine J_goto hX 8 dX6_onlyLost_29 (by decide) ?_
        refine J_sub [(1, .int v1), (2, .int v2), (3, .int (v3 + (1 : Int32)))] [1, 2, 0] rfl ?_
        exact ih v1 v2 (v3 + (1 : Int32)) m h
    · refine J_iconst hX (-1 : Int32) dX6_onlyLost_32 ic_m1 ?_
      exact J_ireturn hX dX6_onlyLost_33 h hF rfl
theorem t_X6_onlyLost {X : XX} {G : GG} {ρ : Nat → Nat} {n t u w v : Nat} {x : Option Nat} {d : Nat} {a : Nat} (hX : Ok X G ρ cX6_onlyLost 4 RX6 d) (hd0 : 1 ≤ d) (hn : 126 ≤ n) (ha : isSt a) {rE : Int32} {mE : Mm} (hF : Fin' X G ρ n (some .int) (some (.int rE)) (RT t u w v x) mE) {x1 : Int32} {m : Mm} (h : f_X6_onlyLost a x1 m = some (rE, mE)) : J X G ρ n 4 0 [(0, .ref a), (1, .int x1)] [] (RT t u w v x) m := by
  unfold f_X6_onlyLost at h
  refine J_aload_n hX dX6_onlyLost_0 rfl 0 rfl ?_
  refine J_iload_n hX dX6_onlyLost_1 rfl 1 rfl ?_
  obtain ⟨r2, m1, h0, h⟩ := bd2_some h
  refine J_callVi (As := [.int x1]) (st := []) hX dX6_onlyLost_2 cw_RX6_64 (by omega) (c_X6_lostBits hn ha h0) (ltn (lt_isSt_0 ha) hn) (lo_isSt_0 ha) (by decide) rfl rfl rfl (Nat.le_of_ble_eq_true rfl) ?_
  clear h0
  refine J_istore_n hX [(2, .int r2), (0, .ref a), (1, .int x1)] dX6_onlyLost_5 rfl (by decide) rfl ?_
  refine J_iconst hX (0 : Int32) dX6_onlyLost_6 ic_0 ?_
  refine J_istore_n hX [(3, .int (0 : Int32)), (2, .int r2), (0, .ref a), (1, .int x1)] dX6_onlyLost_7 rfl (by decide) rfl ?_
  refine J_sub [(1, .int x1), (2, .int r2), (3, .int (0 : Int32))] [3, 1, 0] rfl ?_
  exact t_X6_onlyLost_L8 hX hd0 hn ha hF FU x1 r2 (0 : Int32)  m1 h
theorem c_X6_onlyLost {G : GG} {l : Launch} {ρ : Nat → Nat} {n t u w v : Nat} {x : Option Nat} (hn : 126 ≤ n) {a : Nat} (ha : isSt a) {x1 : Int32} {m : Mm} {rE : Int32} {mE : Mm} (h : f_X6_onlyLost a x1 m = some (rE, mE)) : CT G l yX6_onlyLost cX6_onlyLost 4 (some .int) 1 0 0 ρ n (RT t u w v x) [.ref a, .int x1] m (some (.int rE)) (RT t u w v x) mE := ct_of_J (by decide) rfl (Nat.le_of_ble_eq_true rfl) (fun X hX e1 e2 e3 e4 hQ hr hl => t_X6_onlyLost hX (Nat.le_refl _) hn ha ⟨by rw [hQ, e3, e4], hr, hl⟩ h)
theorem t_X6_rebuiltTo {X : XX} {G : GG} {ρ : Nat → Nat} {n t u w v : Nat} {x : Option Nat} {d : Nat} {a : Nat} (hX : Ok X G ρ cX6_rebuiltTo 3 RX6 d) (hd0 : 1 ≤ d) (hn : 126 ≤ n) (ha : isSt a) {rE : Int32} {mE : Mm} (hF : Fin' X G ρ n (some .int) (some (.int rE)) (RT t u w v x) mE) {x1 : Int32} {m : Mm} (h : f_X6_rebuiltTo a x1 m = some (rE, mE)) : J X G ρ n 3 0 [(0, .ref a), (1, .int x1)] [] (RT t u w v x) m := by
  unfold f_X6_rebuiltTo at h
  refine J_aload_n hX dX6_rebuiltTo_0 rfl 0 rfl ?_
  refine J_aload_n hX dX6_rebuiltTo_1 rfl 0 rfl ?_
  refine J_getR hX dX6_rebuiltTo_2 fl_RX6_24 (ltn (lt_isSt_0 ha) hn) (lo_isSt_0 ha) rfl (rt_isSt_0_0 _ _ _ _ _ ha) ?_
  refine J_getR hX dX6_rebuiltTo_5 fl_RX6_49 (ltn ltc_26 hn) lo_26 rfl (rt_26_9 _ _ _ _ _) ?_
  refine J_iload_n hX dX6_rebuiltTo_8 rfl 1 rfl ?_
  refine J_iaload hX dX6_rebuiltTo_9 (ltn ltc_33 hn) lay_33 h (fun h => ?_)
  obtain ⟨r2, m1, h0, h⟩ := bd2_some h
  refine J_callVi (As := [.int (gI m 33 (ix x1))]) (st := []) hX dX6_rebuiltTo_10 cw_RX6_106 (by omega) (c_X6_isUp hn ha h0) (ltn (lt_isSt_0 ha) hn) (lo_isSt_0 ha) (by decide) rfl rfl rfl (Nat.le_of_ble_eq_true rfl) ?_
  clear h0
  refine J_if_eq hX 18 dX6_rebuiltTo_13 (by decide) h (fun c h => ?_) (fun c h => ?_)
  · refine J_iload_n hX dX6_rebuiltTo_18 rfl 1 rfl ?_
    refine J_iconst hX (5 : Int32) dX6_rebuiltTo_19 ic_5 ?_
    refine J_idiv0 hX dX6_rebuiltTo_20 (by decide) ?_
    refine J_istore_n hX [(2, .int (x1 / (5 : Int32))), (0, .ref a), (1, .int x1)] dX6_rebuiltTo_21 rfl (by decide) rfl ?_
    refine J_aload_n hX dX6_rebuiltTo_22 rfl 1 rfl ?_
    refine J_aload_n hX dX6_rebuiltTo_23 rfl 1 rfl ?_
    refine J_getR hX dX6_rebuiltTo_24 fl_RX6_24 (ltn (lt_isSt_0 ha) hn) (lo_isSt_0 ha) rfl (rt_isSt_0_0 _ _ _ _ _ ha) ?_
    refine J_getR hX dX6_rebuiltTo_27 fl_RX6_52 (ltn ltc_26 hn) lo_26 rfl (rt_26_6 _ _ _ _ _) ?_
    refine J_iload_n hX dX6_rebuiltTo_30 rfl 0 rfl ?_
    refine J_iaload hX dX6_rebuiltTo_31 (ltn ltc_30 hn) lay_30 h (fun h => ?_)
    obtain ⟨r4, m3, h0, h⟩ := bd2_some h
    refine J_callVi (As := [.int (gI m1 30 (ix (x1 / (5 : Int32))))]) (st := []) hX dX6_rebuiltTo_32 cw_RX6_106 (by omega) (c_X6_isUp hn ha h0) (ltn (lt_isSt_0 ha) hn) (lo_isSt_0 ha) (by decide) rfl rfl rfl (Nat.le_of_ble_eq_true rfl) ?_
    clear h0
    refine J_if_eq hX 51 dX6_rebuiltTo_35 (by decide) h (fun c h => ?_) (fun c h => ?_)
    · refine J_iconst hX (2 : Int32) dX6_rebuiltTo_51 ic_2 ?_
      exact J_ireturn hX dX6_rebuiltTo_52 h hF rfl
    · refine J_aload_n hX dX6_rebuiltTo_38 rfl 1 rfl ?_
      refine J_iload_n hX dX6_rebuiltTo_39 rfl 0 rfl ?_
      obtain ⟨r6, m5, h0, h⟩ := bd2_some h
      refine J_callVi (As := [.int (x1 / (5 : Int32))]) (st := []) hX dX6_rebuiltTo_40 cw_RX6_115 (by omega) (c_X6_awayUnit hn ha h0) (ltn (lt_isSt_0 ha) hn) (lo_isSt_0 ha) (by decide) rfl rfl rfl (Nat.le_of_ble_eq_true rfl) ?_
      clear h0
      refine J_iconst hX (-1 : Int32) dX6_rebuiltTo_43 ic_m1 ?_
      refine J_icmp_ne hX 51 dX6_rebuiltTo_44 (by decide) h (fun c h => ?_) (fun c h => ?_)
      · refine J_iconst hX (1 : Int32) dX6_rebuiltTo_47 ic_1 ?_
        refine J_goto hX 52 dX6_rebuiltTo_48 (by decide) ?_
        exact J_ireturn hX dX6_rebuiltTo_52 h hF rfl
      · refine J_iconst hX (2 : Int32) dX6_rebuiltTo_51 ic_2 ?_
        exact J_ireturn hX dX6_rebuiltTo_52 h hF rfl
  · refine J_iconst hX (0 : Int32) dX6_rebuiltTo_16 ic_0 ?_
    exact J_ireturn hX dX6_rebuiltTo_17 h hF rfl
theorem c_X6_rebuiltTo {G : GG} {l : Launch} {ρ : Nat → Nat} {n t u w v : Nat} {x : Option Nat} (hn : 126 ≤ n) {a : Nat} (ha : isSt a) {x1 : Int32} {m : Mm} {rE : Int32} {mE : Mm} (h : f_X6_rebuiltTo a x1 m = some (rE, mE)) : CT G l yX6_rebuiltTo cX6_rebuiltTo 3 (some .int) 1 0 0 ρ n (RT t u w v x) [.ref a, .int x1] m (some (.int rE)) (RT t u w v x) mE := ct_of_J (by decide) rfl (Nat.le_of_ble_eq_true rfl) (fun X hX e1 e2 e3 e4 hQ hr hl => t_X6_rebuiltTo hX (Nat.le_refl _) hn ha ⟨by rw [hQ, e3, e4], hr, hl⟩ h)
theorem t_X6_readDatum {X : XX} {G : GG} {ρ : Nat → Nat} {n t u w v : Nat} {x : Option Nat} {d : Nat} {a : Nat} (hX : Ok X G ρ cX6_readDatum 3 RX6 d) (hd0 : 3 ≤ d) (hn : 126 ≤ n) (ha : isSt a) {rE : Int32} {mE : Mm} (hF : Fin' X G ρ n (some .boolean) (some (.int rE)) (RT t u w v x) mE) {x1 : Int32} {m : Mm} (h : f_X6_readDatum a x1 m = some (rE, mE)) : J X G ρ n 3 0 [(0, .ref a), (1, .int x1)] [] (RT t u w v x) m := by
  unfold f_X6_readDatum at h
  refine J_aload_n hX dX6_readDatum_0 rfl 0 rfl ?_
  refine J_getR hX dX6_readDatum_1 fl_RX6_24 (ltn (lt_isSt_0 ha) hn) (lo_isSt_0 ha) rfl (rt_isSt_0_0 _ _ _ _ _ ha) ?_
  refine J_getR hX dX6_readDatum_4 fl_RX6_93 (ltn ltc_26 hn) lo_26 rfl (rt_26_12 _ _ _ _ _) ?_
  refine J_iload_n hX dX6_readDatum_7 rfl 1 rfl ?_
  refine J_iaload hX dX6_readDatum_8 (ltn ltc_36 hn) lay_36 h (fun h => ?_)
  refine J_istore_n hX [(2, .int (gI m 36 (ix x1))), (0, .ref a), (1, .int x1)] dX6_readDatum_9 rfl (by decide) rfl ?_
  refine J_aload_n hX dX6_readDatum_10 rfl 1 rfl ?_
  refine J_iload_n hX dX6_readDatum_11 rfl 0 rfl ?_
  obtain ⟨r2, m1, h0, h⟩ := bd2_some h
  refine J_callVi (As := [.int (gI m 36 (ix x1))]) (st := []) hX dX6_readDatum_12 cw_RX6_96 (by omega) (c_X6_costOf hn ha h0) (ltn (lt_isSt_0 ha) hn) (lo_isSt_0 ha) (by decide) rfl rfl rfl (Nat.le_of_ble_eq_true rfl) ?_
  clear h0
  refine J_iconst hX (-1 : Int32) dX6_readDatum_15 ic_m1 ?_
  refine J_icmp_ne hX 21 dX6_readDatum_16 (by decide) h (fun c h => ?_) (fun c h => ?_)
  · refine J_iconst hX (0 : Int32) dX6_readDatum_19 ic_0 ?_
    exact J_ireturn hX dX6_readDatum_20 h hF narrow_b0
  · refine J_aload_n hX dX6_readDatum_21 rfl 1 rfl ?_
    refine J_getR hX dX6_readDatum_22 fl_RX6_9 (ltn (lt_isSt_0 ha) hn) (lo_isSt_0 ha) rfl (rt_isSt_0_2 _ _ _ _ _ ha) ?_
    refine J_iload_n hX dX6_readDatum_25 rfl 0 rfl ?_
    refine J_iaload hX dX6_readDatum_26 (ltn (lt_isSt_1 ha) hn) (lay_isSt_1 ha) h (fun h => ?_)
    refine J_iconst hX (2 : Int32) dX6_readDatum_27 ic_2 ?_
    refine J_icmp_ne hX 41 dX6_readDatum_28 (by decide) h (fun c h => ?_) (fun c h => ?_)
    · refine J_aload_n hX dX6_readDatum_31 rfl 1 rfl ?_
      refine J_iload_n hX dX6_readDatum_32 rfl 0 rfl ?_
      refine J_iconst hX (5 : Int32) dX6_readDatum_33 ic_5 ?_
      refine J_idiv0 hX dX6_readDatum_34 (by decide) ?_
      obtain ⟨m4, h0, h⟩ := bd1_some h
      refine J_callVv (As := [.int ((gI m 36 (ix x1)) / (5 : Int32))]) (st := []) hX dX6_readDatum_35 cw_RX6_99 (by omega) (c_X6_loadThere hn ha h0) (ltn (lt_isSt_0 ha) hn) (lo_isSt_0 ha) (by decide) rfl rfl rfl (Nat.le_of_ble_eq_true rfl) ?_
      clear h0
      refine J_goto hX 47 dX6_readDatum_38 (by decide) ?_
      refine J_iconst hX (1 : Int32) dX6_readDatum_47 ic_1 ?_
      exact J_ireturn hX dX6_readDatum_48 h hF narrow_b1
    · refine J_aload_n hX dX6_readDatum_41 rfl 1 rfl ?_
      refine J_iload_n hX dX6_readDatum_42 rfl 0 rfl ?_
      refine J_iconst hX (1 : Int32) dX6_readDatum_43 ic_1 ?_
      obtain ⟨m3, h0, h⟩ := bd1_some h
      refine J_callVv (As := [.int (gI m 36 (ix x1)), .int (1 : Int32)]) (st := []) hX dX6_readDatum_44 cw_RX6_89 (by omega) (c_X6_load hn ha h0) (ltn (lt_isSt_0 ha) hn) (lo_isSt_0 ha) (by decide) rfl rfl rfl (Nat.le_of_ble_eq_true rfl) ?_
      clear h0
      refine J_iconst hX (1 : Int32) dX6_readDatum_47 ic_1 ?_
      exact J_ireturn hX dX6_readDatum_48 h hF narrow_b1
theorem c_X6_readDatum {G : GG} {l : Launch} {ρ : Nat → Nat} {n t u w v : Nat} {x : Option Nat} (hn : 126 ≤ n) {a : Nat} (ha : isSt a) {x1 : Int32} {m : Mm} {rE : Int32} {mE : Mm} (h : f_X6_readDatum a x1 m = some (rE, mE)) : CT G l yX6_readDatum cX6_readDatum 3 (some .boolean) 3 0 0 ρ n (RT t u w v x) [.ref a, .int x1] m (some (.int rE)) (RT t u w v x) mE := ct_of_J (by decide) rfl (Nat.le_of_ble_eq_true rfl) (fun X hX e1 e2 e3 e4 hQ hr hl => t_X6_readDatum hX (Nat.le_refl _) hn ha ⟨by rw [hQ, e3, e4], hr, hl⟩ h)
theorem t_X6_writeDatum {X : XX} {G : GG} {ρ : Nat → Nat} {n t u w v : Nat} {x : Option Nat} {d : Nat} {a : Nat} (hX : Ok X G ρ cX6_writeDatum 7 RX6 d) (hd0 : 3 ≤ d) (hn : 126 ≤ n) (ha : isSt a) {rE : Int32} {mE : Mm} (hF : Fin' X G ρ n (some .int) (some (.int rE)) (RT t u w v x) mE) {x1 : Int32} {x2 : Int32} {m : Mm} (h : f_X6_writeDatum a x1 x2 m = some (rE, mE)) : J X G ρ n 7 0 [(0, .ref a), (1, .int x1), (2, .int x2)] [] (RT t u w v x) m := by
  unfold f_X6_writeDatum at h
  refine J_aload_n hX dX6_writeDatum_0 rfl 0 rfl ?_
  refine J_getR hX dX6_writeDatum_1 fl_RX6_24 (ltn (lt_isSt_0 ha) hn) (lo_isSt_0 ha) rfl (rt_isSt_0_0 _ _ _ _ _ ha) ?_
  refine J_getR hX dX6_writeDatum_4 fl_RX6_93 (ltn ltc_26 hn) lo_26 rfl (rt_26_12 _ _ _ _ _) ?_
  refine J_iload_n hX dX6_writeDatum_7 rfl 1 rfl ?_
  refine J_iaload hX dX6_writeDatum_8 (ltn ltc_36 hn) lay_36 h (fun h => ?_)
  refine J_istore_n hX [(3, .int (gI m 36 (ix x1))), (0, .ref a), (1, .int x1), (2, .int x2)] dX6_writeDatum_9 rfl (by decide) rfl ?_
  refine J_iload_n hX dX6_writeDatum_10 rfl 0 rfl ?_
  refine J_iconst hX (5 : Int32) dX6_writeDatum_11 ic_5 ?_
  refine J_idiv0 hX dX6_writeDatum_12 (by decide) ?_
  refine J_istore hX [(4, .int ((gI m 36 (ix x1)) / (5 : Int32))), (3, .int (gI m 36 (ix x1))), (0, .ref a), (1, .int x1), (2, .int x2)] dX6_writeDatum_13 (by decide) rfl ?_
  refine J_aload_n hX dX6_writeDatum_15 rfl 2 rfl ?_
  refine J_iload_n hX dX6_writeDatum_16 rfl 1 rfl ?_
  obtain ⟨r2, m1, h0, h⟩ := bd2_some h
  refine J_callVi (As := [.int (gI m 36 (ix x1))]) (st := []) hX dX6_writeDatum_17 cw_RX6_103 (by omega) (c_X6_priceOf hn ha h0) (ltn (lt_isSt_0 ha) hn) (lo_isSt_0 ha) (by decide) rfl rfl rfl (Nat.le_of_ble_eq_true rfl) ?_
  clear h0
  refine J_istore hX [(5, .int r2), (4, .int ((gI m 36 (ix x1)) / (5 : Int32))), (3, .int (gI m 36 (ix x1))), (0, .ref a), (1, .int x1), (2, .int x2)] dX6_writeDatum_20 (by decide) rfl ?_
  refine J_iload hX dX6_writeDatum_22 0 rfl ?_
  refine J_iconst hX (-1 : Int32) dX6_writeDatum_24 ic_m1 ?_
  refine J_icmp_ne hX 30 dX6_writeDatum_25 (by decide) h (fun c h => ?_) (fun c h => ?_)
  · refine J_iconst hX (-1 : Int32) dX6_writeDatum_28 ic_m1 ?_
    exact J_ireturn hX dX6_writeDatum_29 h hF rfl
  · refine J_iload hX dX6_writeDatum_30 1 rfl ?_
    refine J_iconst hX (5 : Int32) dX6_writeDatum_32 ic_5 ?_
    refine J_imul hX dX6_writeDatum_33 ?_
    refine J_aload_n hX dX6_writeDatum_34 rfl 3 rfl ?_
    refine J_getR hX dX6_writeDatum_35 fl_RX6_24 (ltn (lt_isSt_0 ha) hn) (lo_isSt_0 ha) rfl (rt_isSt_0_0 _ _ _ _ _ ha) ?_
    refine J_getR hX dX6_writeDatum_38 fl_RX6_82 (ltn ltc_26 hn) lo_26 rfl (rt_26_4 _ _ _ _ _) ?_
    refine J_iload hX dX6_writeDatum_41 1 rfl ?_
    refine J_iaload hX dX6_writeDatum_43 (ltn ltc_28 hn) lay_28 h (fun h => ?_)
    refine J_iadd hX dX6_writeDatum_44 ?_
    refine J_istore hX [(6, .int ((((gI m 36 (ix x1)) / (5 : Int32)) * (5 : Int32)) + (gI m1 28 (ix ((gI m 36 (ix x1)) / (5 : Int32)))))), (5, .int r2), (4, .int ((gI m 36 (ix x1)) / (5 : Int32))), (3, .int (gI m 36 (ix x1))), (0, .ref a), (1, .int x1), (2, .int x2)] dX6_writeDatum_45 (by decide) rfl ?_
    refine J_aload_n hX dX6_writeDatum_47 rfl 4 rfl ?_
    refine J_getR hX dX6_writeDatum_48 fl_RX6_9 (ltn (lt_isSt_0 ha) hn) (lo_isSt_0 ha) rfl (rt_isSt_0_2 _ _ _ _ _ ha) ?_
    refine J_iload_n hX dX6_writeDatum_51 rfl 3 rfl ?_
    refine J_iaload hX dX6_writeDatum_52 (ltn (lt_isSt_1 ha) hn) (lay_isSt_1 ha) h (fun h => ?_)
    refine J_iconst hX (2 : Int32) dX6_writeDatum_53 ic_2 ?_
    refine J_icmp_ne hX 66 dX6_writeDatum_54 (by decide) h (fun c h => ?_) (fun c h => ?_)
    · refine J_aload_n hX dX6_writeDatum_57 rfl 4 rfl ?_
      refine J_iload hX dX6_writeDatum_58 2 rfl ?_
      obtain ⟨m8, h0, h⟩ := bd1_some h
      refine J_callVv (As := [.int ((gI m 36 (ix x1)) / (5 : Int32))]) (st := []) hX dX6_writeDatum_60 cw_RX6_99 (by omega) (c_X6_loadThere hn ha h0) (ltn (lt_isSt_0 ha) hn) (lo_isSt_0 ha) (by decide) rfl rfl rfl (Nat.le_of_ble_eq_true rfl) ?_
      clear h0
      refine J_goto hX 99 dX6_writeDatum_63 (by decide) ?_
      refine J_aload_n hX dX6_writeDatum_99 rfl 4 rfl ?_
      refine J_getR hX dX6_writeDatum_100 fl_RX6_15 (ltn (lt_isSt_0 ha) hn) (lo_isSt_0 ha) rfl (rt_isSt_0_3 _ _ _ _ _ ha) ?_
      refine J_iload_n hX dX6_writeDatum_103 rfl 3 rfl ?_
      refine J_iload_n hX dX6_writeDatum_104 rfl 6 rfl ?_
      refine J_iastore hX dX6_writeDatum_105 (ltn (lt_isSt_2 ha) hn) (lay_isSt_2 ha) h (fun m9 h => ?_)
      refine J_iload hX dX6_writeDatum_106 1 rfl ?_
      exact J_ireturn hX dX6_writeDatum_108 h hF rfl
    · refine J_aload_n hX dX6_writeDatum_66 rfl 4 rfl ?_
      refine J_getR hX dX6_writeDatum_67 fl_RX6_9 (ltn (lt_isSt_0 ha) hn) (lo_isSt_0 ha) rfl (rt_isSt_0_2 _ _ _ _ _ ha) ?_
      refine J_iload hX dX6_writeDatum_70 0 rfl ?_
      refine J_iaload hX dX6_writeDatum_72 (ltn (lt_isSt_1 ha) hn) (lay_isSt_1 ha) h (fun h => ?_)
      refine J_iconst hX (2 : Int32) dX6_writeDatum_73 ic_2 ?_
      refine J_icmp_ne hX 86 dX6_writeDatum_74 (by decide) h (fun c h => ?_) (fun c h => ?_)
      · refine J_aload_n hX dX6_writeDatum_77 rfl 4 rfl ?_
        refine J_iload_n hX dX6_writeDatum_78 rfl 3 rfl ?_
        refine J_iconst hX (1 : Int32) dX6_writeDatum_79 ic_1 ?_
        obtain ⟨m6, h0, h⟩ := bd1_some h
        refine J_callVv (As := [.int (gI m 36 (ix x1)), .int (1 : Int32)]) (st := []) hX dX6_writeDatum_80 cw_RX6_89 (by omega) (c_X6_load hn ha h0) (ltn (lt_isSt_0 ha) hn) (lo_isSt_0 ha) (by decide) rfl rfl rfl (Nat.le_of_ble_eq_true rfl) ?_
        clear h0
        refine J_goto hX 99 dX6_writeDatum_83 (by decide) ?_
        refine J_aload_n hX dX6_writeDatum_99 rfl 4 rfl ?_
        refine J_getR hX dX6_writeDatum_100 fl_RX6_15 (ltn (lt_isSt_0 ha) hn) (lo_isSt_0 ha) rfl (rt_isSt_0_3 _ _ _ _ _ ha) ?_
        refine J_iload_n hX dX6_writeDatum_103 rfl 3 rfl ?_
        refine J_iload_n hX dX6_writeDatum_104 rfl 6 rfl ?_
        refine J_iastore hX dX6_writeDatum_105 (ltn (lt_isSt_2 ha) hn) (lay_isSt_2 ha) h (fun m7 h => ?_)
        refine J_iload hX dX6_writeDatum_106 1 rfl ?_
        exact J_ireturn hX dX6_writeDatum_108 h hF rfl
      · refine J_aload_n hX dX6_writeDatum_86 rfl 4 rfl ?_
        refine J_iload_n hX dX6_writeDatum_87 rfl 3 rfl ?_
        refine J_iconst hX (2 : Int32) dX6_writeDatum_88 ic_2 ?_
        obtain ⟨m3, h0, h⟩ := bd1_some h
        refine J_callVv (As := [.int (gI m 36 (ix x1)), .int (2 : Int32)]) (st := []) hX dX6_writeDatum_89 cw_RX6_89 (by omega) (c_X6_load hn ha h0) (ltn (lt_isSt_0 ha) hn) (lo_isSt_0 ha) (by decide) rfl rfl rfl (Nat.le_of_ble_eq_true rfl) ?_
        clear h0
        refine J_aload_n hX dX6_writeDatum_92 rfl 4 rfl ?_
        refine J_iload hX dX6_writeDatum_93 0 rfl ?_
        refine J_iconst hX (2 : Int32) dX6_writeDatum_95 ic_2 ?_
        obtain ⟨m4, h0, h⟩ := bd1_some h
        refine J_callVv (As := [.int ((((gI m 36 (ix x1)) / (5 : Int32)) * (5 : Int32)) + (gI m1 28 (ix ((gI m 36 (ix x1)) / (5 : Int32))))), .int (2 : Int32)]) (st := []) hX dX6_writeDatum_96 cw_RX6_89 (by omega) (c_X6_load hn ha h0) (ltn (lt_isSt_0 ha) hn) (lo_isSt_0 ha) (by decide) rfl rfl rfl (Nat.le_of_ble_eq_true rfl) ?_
        clear h0
        refine J_aload_n hX dX6_writeDatum_99 rfl 4 rfl ?_
        refine J_getR hX dX6_writeDatum_100 fl_RX6_15 (ltn (lt_isSt_0 ha) hn) (lo_isSt_0 ha) rfl (rt_isSt_0_3 _ _ _ _ _ ha) ?_
        refine J_iload_n hX dX6_writeDatum_103 rfl 3 rfl ?_
        refine J_iload_n hX dX6_writeDatum_104 rfl 6 rfl ?_
        refine J_iastore hX dX6_writeDatum_105 (ltn (lt_isSt_2 ha) hn) (lay_isSt_2 ha) h (fun m5 h => ?_)
        refine J_iload hX dX6_writeDatum_106 1 rfl ?_
        exact J_ireturn hX dX6_writeDatum_108 h hF rfl
theorem c_X6_writeDatum {G : GG} {l : Launch} {ρ : Nat → Nat} {n t u w v : Nat} {x : Option Nat} (hn : 126 ≤ n) {a : Nat} (ha : isSt a) {x1 : Int32} {x2 : Int32} {m : Mm} {rE : Int32} {mE : Mm} (h : f_X6_writeDatum a x1 x2 m = some (rE, mE)) : CT G l yX6_writeDatum cX6_writeDatum 7 (some .int) 3 0 0 ρ n (RT t u w v x) [.ref a, .int x1, .int x2] m (some (.int rE)) (RT t u w v x) mE := ct_of_J (by decide) rfl (Nat.le_of_ble_eq_true rfl) (fun X hX e1 e2 e3 e4 hQ hr hl => t_X6_writeDatum hX (Nat.le_refl _) hn ha ⟨by rw [hQ, e3, e4], hr, hl⟩ h)
theorem t_X6_loseDisk_L28 {X : XX} {G : GG} {ρ : Nat → Nat} {n t u w v : Nat} {x : Option Nat} {d : Nat} {a : Nat} (hX : Ok X G ρ cX6_loseDisk 5 RX6 d) (hd0 : 1 ≤ d) (hn : 126 ≤ n) (ha : isSt a) {rE : Int32} {mE : Mm} (hF : Fin' X G ρ n (some .int) (some (.int rE)) (RT t u w v x) mE) {v1 : Int32} {v3 : Int32} {K : Int32 → Mm → Option (Int32 × Mm)} (hK : ∀ (w2 : Int32) (m : Mm), K w2 m = some (rE, mE) → J X G ρ n 5 77 [(0, .ref a), (1, .int v1), (2, .int w2), (3, .int v3)] [] (RT t u w v x) m) : ∀ (k : Nat) (v2 : Int32) (v4 : Int32) (m : Mm), f_X6_loseDisk_L28 a v1 v3 K k v2 v4 m = some (rE, mE) → J X G ρ n 5 28 [(0, .ref a), (1, .int v1), (2, .int v2), (3, .int v3), (4, .int v4)] [] (RT t u w v x) m := by
  intro k
  induction k with
  | zero => intro _ _ _ h; rw [f_X6_loseDisk_L28] at h; cases h
  | succ k ih =>
    intro v2 v4 m h
    rw [f_X6_loseDisk_L28] at h
    refine J_iload hX dX6_loseDisk_28 4 rfl ?_
    refine J_aload_n hX dX6_loseDisk_30 rfl 0 rfl ?_
    refine J_getR hX dX6_loseDisk_31 fl_RX6_24 (ltn (lt_isSt_0 ha) hn) (lo_isSt_0 ha) rfl (rt_isSt_0_0 _ _ _ _ _ ha) ?_
    refine J_getR hX dX6_loseDisk_34 fl_RX6_61 (ltn ltc_26 hn) lo_26 rfl (rt_26_3 _ _ _ _ _) ?_
    refine J_iload_n hX dX6_loseDisk_37 rfl 3 rfl ?_
    refine J_iaload hX dX6_loseDisk_38 (ltn ltc_27 hn) lay_27 h (fun h => ?_)
    refine J_icmp_ge hX 77 dX6_loseDisk_39 (by decide) h (fun c h => ?_) (fun c h => ?_)
    · refine J_aload_n hX dX6_loseDisk_42 rfl 0 rfl ?_
      refine J_iload_n hX dX6_loseDisk_43 rfl 3 rfl ?_
      refine J_iconst hX (5 : Int32) dX6_loseDisk_44 ic_5 ?_
      refine J_imul hX dX6_loseDisk_45 ?_
      refine J_iload hX dX6_loseDisk_46 4 rfl ?_
      refine J_iadd hX dX6_loseDisk_48 ?_
      obtain ⟨r5, m4, h0, h⟩ := bd2_some h
      refine J_callVi (As := [.int ((v3 * (5 : Int32)) + v4)]) (st := []) hX dX6_loseDisk_49 cw_RX6_73 (by omega) (c_X6_diskNow hn ha h0) (ltn (lt_isSt_0 ha) hn) (lo_isSt_0 ha) (by decide) rfl rfl rfl (Nat.le_of_ble_eq_true rfl) ?_
      clear h0
      refine J_iload_n hX dX6_loseDisk_52 rfl 1 rfl ?_
      refine J_icmp_ne hX 71 dX6_loseDisk_53 (by decide) h (fun c h => ?_) (fun c h => ?_)
      · refine J_aload_n hX dX6_loseDisk_56 rfl 0 rfl ?_
        refine J_getR hX dX6_loseDisk_57 fl_RX6_9 (ltn (lt_isSt_0 ha) hn) (lo_isSt_0 ha) rfl (rt_isSt_0_2 _ _ _ _ _ ha) ?_
        refine J_iload_n hX dX6_loseDisk_60 rfl 3 rfl ?_
        refine J_iconst hX (5 : Int32) dX6_loseDisk_61 ic_5 ?_
        refine J_imul hX dX6_loseDisk_62 ?_
        refine J_iload hX dX6_loseDisk_63 4 rfl ?_
        refine J_iadd hX dX6_loseDisk_65 ?_
        refine J_iconst hX (2 : Int32) dX6_loseDisk_66 ic_2 ?_
        refine J_iastore hX dX6_loseDisk_67 (ltn (lt_isSt_1 ha) hn) (lay_isSt_1 ha) h (fun m6 h => ?_)
        refine J_iinc hX (v2 + (1 : Int32)) [(2, .int (v2 + (1 : Int32))), (0, .ref a), (1, .int v1), (3, .int v3), (4, .int v4)] dX6_loseDisk_68 2 rfl (congrArg (fun z => v2 + z) ic_1) (by decide) rfl ?_
        refine J_iinc hX (v4 + (1 : Int32)) [(4, .int (v4 + (1 : Int32))), (2, .int (v2 + (1 : Int32))), (0, .ref a), (1, .int v1), (3, .int v3)] dX6_loseDisk_71 4 rfl (congrArg (fun z => v4 + z) ic_1) (by decide) rfl ?_
        refine J_goto hX 28 dX6_loseDisk_74 (by decide) ?_
        refine J_sub [(0, .ref a), (1, .int v1), (2, .int (v2 + (1 : Int32))), (3, .int v3), (4, .int (v4 + (1 : Int32)))] [2, 3, 1, 4, 0] rfl ?_
        exact ih (v2 + (1 : Int32)) (v4 + (1 : Int32)) m6 h
      · refine J_iinc hX (v4 + (1 : Int32)) [(4, .int (v4 + (1 : Int32))), (0, .ref a), (1, .int v1), (2, .int v2), (3, .int v3)] dX6_loseDisk_71 4 rfl (congrArg (fun z => v4 + z) ic_1) (by decide) rfl ?_
        refine J_goto hX 28 dX6_loseDisk_74 (by decide) ?_
        refine J_sub [(0, .ref a), (1, .int v1), (2, .int v2), (3, .int v3), (4, .int (v4 + (1 : Int32)))] [1, 2, 3, 4, 0] rfl ?_
        exact ih v2 (v4 + (1 : Int32)) m4 h
    · refine J_sub [(0, .ref a), (1, .int v1), (2, .int v2), (3, .int v3)] [0, 1, 2, 3] rfl ?_
      exact hK v2 m h
theorem t_X6_loseDisk_L14 {X : XX} {G : GG} {ρ : Nat → Nat} {n t u w v : Nat} {x : Option Nat} {d : Nat} {a : Nat} (hX : Ok X G ρ cX6_loseDisk 5 RX6 d) (hd0 : 1 ≤ d) (hn : 126 ≤ n) (ha : isSt a) {rE : Int32} {mE : Mm} (hF : Fin' X G ρ n (some .int) (some (.int rE)) (RT t u w v x) mE) : ∀ (k : Nat) (v1 : Int32) (v2 : Int32) (v3 : Int32) (m : Mm), f_X6_loseDisk_L14 a k v1 v2 v3 m = some (rE, mE) → J X G ρ n 5 14 [(0, .ref a), (1, .int v1), (2, .int v2), (3, .int v3)] [] (RT t u w v x) m := by
  intro k
  induction k with
  | zero => intro _ _ _ _ h; rw [f_X6_loseDisk_L14] at h; cases h
  | succ k ih =>
    intro v1 v2 v3 m h
    rw [f_X6_loseDisk_L14] at h
    refine J_iload_n hX dX6_loseDisk_14 rfl 3 rfl ?_
    refine J_aload_n hX dX6_loseDisk_15 rfl 0 rfl ?_
    refine J_getR hX dX6_loseDisk_16 fl_RX6_24 (ltn (lt_isSt_0 ha) hn) (lo_isSt_0 ha) rfl (rt_isSt_0_0 _ _ _ _ _ ha) ?_
    refine J_getI hX dX6_loseDisk_19 fl_RX6_76 (ltn ltc_26 hn) lo_26 rfl ?_
    refine J_icmp_ge hX 83 dX6_loseDisk_22 (by decide) h (fun c h => ?_) (fun c h => ?_)
    · refine J_iconst hX (0 : Int32) dX6_loseDisk_25 ic_0 ?_
      refine J_istore hX [(4, .int (0 : Int32)), (0, .ref a), (1, .int v1), (2, .int v2), (3, .int v3)] dX6_loseDisk_26 (by decide) rfl ?_
      refine J_sub [(0, .ref a), (1, .int v1), (2, .int v2), (3, .int v3), (4, .int (0 : Int32))] [1, 2, 3, 4, 0] rfl ?_
      refine t_X6_loseDisk_L28 hX hd0 hn ha hF (fun w7 m8 h => ?_) FU v2 (0 : Int32) m h
      refine J_iinc hX (v3 + (1 : Int32)) [(3, .int (v3 + (1 : Int32))), (0, .ref a), (1, .int v1), (2, .int w7)] dX6_loseDisk_77 3 rfl (congrArg (fun z => v3 + z) ic_1) (by decide) rfl ?_
      refine J_goto hX 14 dX6_loseDisk_80 (by decide) ?_
      refine J_sub [(0, .ref a), (1, .int v1), (2, .int w7), (3, .int (v3 + (1 : Int32)))] [1, 2, 3, 0] rfl ?_
      exact ih v1 w7 (v3 + (1 : Int32)) m8 h
    · refine J_aload_n hX dX6_loseDisk_83 rfl 0 rfl ?_
      refine J_dup hX dX6_loseDisk_84 rfl ?_
      refine J_getI hX dX6_loseDisk_85 fl_RX6_34 (ltn (lt_isSt_0 ha) hn) (lo_isSt_0 ha) rfl ?_
      refine J_iconst hX (1 : Int32) dX6_loseDisk_88 ic_1 ?_
      refine J_iload_n hX dX6_loseDisk_89 rfl 1 rfl ?_
      refine J_ishl hX dX6_loseDisk_90 ?_
      refine J_iconst hX (-1 : Int32) dX6_loseDisk_91 ic_m1 ?_
      refine J_ixor hX dX6_loseDisk_92 ?_
      refine J_iand hX dX6_loseDisk_93 ?_
      refine J_putI hX dX6_loseDisk_94 pl_RX6_34 (ltn (lt_isSt_0 ha) hn) (lo_isSt_0 ha) rfl rfl rfl h (fun m3 h => ?_)
      refine J_iload_n hX dX6_loseDisk_97 rfl 2 rfl ?_
      exact J_ireturn hX dX6_loseDisk_98 h hF rfl
theorem t_X6_loseDisk {X : XX} {G : GG} {ρ : Nat → Nat} {n t u w v : Nat} {x : Option Nat} {d : Nat} {a : Nat} (hX : Ok X G ρ cX6_loseDisk 5 RX6 d) (hd0 : 1 ≤ d) (hn : 126 ≤ n) (ha : isSt a) {rE : Int32} {mE : Mm} (hF : Fin' X G ρ n (some .int) (some (.int rE)) (RT t u w v x) mE) {x1 : Int32} {m : Mm} (h : f_X6_loseDisk a x1 m = some (rE, mE)) : J X G ρ n 5 0 [(0, .ref a), (1, .int x1)] [] (RT t u w v x) m := by
  unfold f_X6_loseDisk at h
  refine J_aload_n hX dX6_loseDisk_0 rfl 0 rfl ?_
  refine J_iload_n hX dX6_loseDisk_1 rfl 1 rfl ?_
  obtain ⟨r2, m1, h0, h⟩ := bd2_some h
  refine J_callVi (As := [.int x1]) (st := []) hX dX6_loseDisk_2 cw_RX6_106 (by omega) (c_X6_isUp hn ha h0) (ltn (lt_isSt_0 ha) hn) (lo_isSt_0 ha) (by decide) rfl rfl rfl (Nat.le_of_ble_eq_true rfl) ?_
  clear h0
  refine J_if_ne hX 10 dX6_loseDisk_5 (by decide) h (fun c h => ?_) (fun c h => ?_)
  · refine J_iconst hX (-1 : Int32) dX6_loseDisk_8 ic_m1 ?_
    exact J_ireturn hX dX6_loseDisk_9 h hF rfl
  · refine J_iconst hX (0 : Int32) dX6_loseDisk_10 ic_0 ?_
    refine J_istore_n hX [(2, .int (0 : Int32)), (0, .ref a), (1, .int x1)] dX6_loseDisk_11 rfl (by decide) rfl ?_
    refine J_iconst hX (0 : Int32) dX6_loseDisk_12 ic_0 ?_
    refine J_istore_n hX [(3, .int (0 : Int32)), (2, .int (0 : Int32)), (0, .ref a), (1, .int x1)] dX6_loseDisk_13 rfl (by decide) rfl ?_
    refine J_sub [(0, .ref a), (1, .int x1), (2, .int (0 : Int32)), (3, .int (0 : Int32))] [2, 3, 1, 0] rfl ?_
    exact t_X6_loseDisk_L14 hX hd0 hn ha hF FU x1 (0 : Int32) (0 : Int32)  m1 h
theorem c_X6_loseDisk {G : GG} {l : Launch} {ρ : Nat → Nat} {n t u w v : Nat} {x : Option Nat} (hn : 126 ≤ n) {a : Nat} (ha : isSt a) {x1 : Int32} {m : Mm} {rE : Int32} {mE : Mm} (h : f_X6_loseDisk a x1 m = some (rE, mE)) : CT G l yX6_loseDisk cX6_loseDisk 5 (some .int) 1 0 0 ρ n (RT t u w v x) [.ref a, .int x1] m (some (.int rE)) (RT t u w v x) mE := ct_of_J (by decide) rfl (Nat.le_of_ble_eq_true rfl) (fun X hX e1 e2 e3 e4 hQ hr hl => t_X6_loseDisk hX (Nat.le_refl _) hn ha ⟨by rw [hQ, e3, e4], hr, hl⟩ h)
theorem t_X6_replaceDisk {X : XX} {G : GG} {ρ : Nat → Nat} {n t u w v : Nat} {x : Option Nat} {d : Nat} {a : Nat} (hX : Ok X G ρ cX6_replaceDisk 2 RX6 d) (hd0 : 1 ≤ d) (hn : 126 ≤ n) (ha : isSt a) {rE : Int32} {mE : Mm} (hF : Fin' X G ρ n (some .boolean) (some (.int rE)) (RT t u w v x) mE) {x1 : Int32} {m : Mm} (h : f_X6_replaceDisk a x1 m = some (rE, mE)) : J X G ρ n 2 0 [(0, .ref a), (1, .int x1)] [] (RT t u w v x) m := by
  unfold f_X6_replaceDisk at h
  refine J_aload_n hX dX6_replaceDisk_0 rfl 0 rfl ?_
  refine J_iload_n hX dX6_replaceDisk_1 rfl 1 rfl ?_
  obtain ⟨r2, m1, h0, h⟩ := bd2_some h
  refine J_callVi (As := [.int x1]) (st := []) hX dX6_replaceDisk_2 cw_RX6_106 (by omega) (c_X6_isUp hn ha h0) (ltn (lt_isSt_0 ha) hn) (lo_isSt_0 ha) (by decide) rfl rfl rfl (Nat.le_of_ble_eq_true rfl) ?_
  clear h0
  refine J_if_eq hX 10 dX6_replaceDisk_5 (by decide) h (fun c h => ?_) (fun c h => ?_)
  · refine J_aload_n hX dX6_replaceDisk_10 rfl 0 rfl ?_
    refine J_dup hX dX6_replaceDisk_11 rfl ?_
    refine J_getI hX dX6_replaceDisk_12 fl_RX6_34 (ltn (lt_isSt_0 ha) hn) (lo_isSt_0 ha) rfl ?_
    refine J_iconst hX (1 : Int32) dX6_replaceDisk_15 ic_1 ?_
    refine J_iload_n hX dX6_replaceDisk_16 rfl 1 rfl ?_
    refine J_ishl hX dX6_replaceDisk_17 ?_
    refine J_ior hX dX6_replaceDisk_18 ?_
    refine J_putI hX dX6_replaceDisk_19 pl_RX6_34 (ltn (lt_isSt_0 ha) hn) (lo_isSt_0 ha) rfl rfl rfl h (fun m3 h => ?_)
    refine J_iconst hX (1 : Int32) dX6_replaceDisk_22 ic_1 ?_
    exact J_ireturn hX dX6_replaceDisk_23 h hF narrow_b1
  · refine J_iconst hX (0 : Int32) dX6_replaceDisk_8 ic_0 ?_
    exact J_ireturn hX dX6_replaceDisk_9 h hF narrow_b0
theorem c_X6_replaceDisk {G : GG} {l : Launch} {ρ : Nat → Nat} {n t u w v : Nat} {x : Option Nat} (hn : 126 ≤ n) {a : Nat} (ha : isSt a) {x1 : Int32} {m : Mm} {rE : Int32} {mE : Mm} (h : f_X6_replaceDisk a x1 m = some (rE, mE)) : CT G l yX6_replaceDisk cX6_replaceDisk 2 (some .boolean) 1 0 0 ρ n (RT t u w v x) [.ref a, .int x1] m (some (.int rE)) (RT t u w v x) mE := ct_of_J (by decide) rfl (Nat.le_of_ble_eq_true rfl) (fun X hX e1 e2 e3 e4 hQ hr hl => t_X6_replaceDisk hX (Nat.le_refl _) hn ha ⟨by rw [hQ, e3, e4], hr, hl⟩ h)
theorem t_X6_rebuildUnits_J43 {X : XX} {G : GG} {ρ : Nat → Nat} {n t u w v : Nat} {x : Option Nat} {d : Nat} {a : Nat} (hX : Ok X G ρ cX6_rebuildUnits 6 RX6 d) (hd0 : 3 ≤ d) (hn : 126 ≤ n) (ha : isSt a) {rE : Int32} {mE : Mm} (hF : Fin' X G ρ n (some .int) (some (.int rE)) (RT t u w v x) mE) {K4 : Int32 → Int32 → Int32 → Mm → Option (Int32 × Mm)} (v1 : Int32) (v2 : Int32) (v3 : Int32) (v4 : Int32) (s0 : Int32) (hK4 : ∀ (w1 : Int32) (w2 : Int32) (w3 : Int32) (m : Mm), K4 w1 w2 w3 m = some (rE, mE) → J X G ρ n 6 4 [(0, .ref a), (1, .int w1), (2, .int w2), (3, .int w3)] [] (RT t u w v x) m) (m : Mm) (h : f_X6_rebuildUnits_J43 a K4 v1 v2 v3 v4 s0 m = some (rE, mE)) : J X G ρ n 6 43 [(0, .ref a), (1, .int v1), (2, .int v2), (3, .int v3), (4, .int v4)] [.int s0] (RT t u w v x) m := by
  unfold f_X6_rebuildUnits_J43 at h
  refine J_istore hX [(5, .int s0), (0, .ref a), (1, .int v1), (2, .int v2), (3, .int v3), (4, .int v4)] dX6_rebuildUnits_43 (by decide) rfl ?_
  refine J_iload hX dX6_rebuildUnits_45 0 rfl ?_
  refine J_iconst hX (2 : Int32) dX6_rebuildUnits_47 ic_2 ?_
  refine J_icmp_eq hX 68 dX6_rebuildUnits_48 (by decide) h (fun c h => ?_) (fun c h => ?_)
  · refine J_iinc hX (v3 + (1 : Int32)) [(3, .int (v3 + (1 : Int32))), (5, .int s0), (0, .ref a), (1, .int v1), (2, .int v2), (4, .int v4)] dX6_rebuildUnits_68 4 rfl (congrArg (fun z => v3 + z) ic_1) (by decide) rfl ?_
    refine J_goto hX 4 dX6_rebuildUnits_71 (by decide) ?_
    refine J_sub [(0, .ref a), (1, .int v1), (2, .int v2), (3, .int (v3 + (1 : Int32)))] [2, 3, 4, 0] rfl ?_
    exact hK4 v1 v2 (v3 + (1 : Int32)) m h
  · refine J_aload_n hX dX6_rebuildUnits_51 rfl 1 rfl ?_
    refine J_getR hX dX6_rebuildUnits_52 fl_RX6_9 (ltn (lt_isSt_0 ha) hn) (lo_isSt_0 ha) rfl (rt_isSt_0_2 _ _ _ _ _ ha) ?_
    refine J_iload hX dX6_rebuildUnits_55 5 rfl ?_
    refine J_iload hX dX6_rebuildUnits_57 0 rfl ?_
    refine J_iastore hX dX6_rebuildUnits_59 (ltn (lt_isSt_1 ha) hn) (lay_isSt_1 ha) h (fun m5 h => ?_)
    refine J_aload_n hX dX6_rebuildUnits_60 rfl 1 rfl ?_
    refine J_iload_n hX dX6_rebuildUnits_61 rfl 4 rfl ?_
    obtain ⟨m6, h0, h⟩ := bd1_some h
    refine J_callVv (As := [.int v3]) (st := []) hX dX6_rebuildUnits_62 cw_RX6_99 (by omega) (c_X6_loadThere hn ha h0) (ltn (lt_isSt_0 ha) hn) (lo_isSt_0 ha) (by decide) rfl rfl rfl (Nat.le_of_ble_eq_true rfl) ?_
    clear h0
    refine J_iinc hX (v2 + (1 : Int32)) [(2, .int (v2 + (1 : Int32))), (5, .int s0), (0, .ref a), (1, .int v1), (3, .int v3), (4, .int v4)] dX6_rebuildUnits_65 3 rfl (congrArg (fun z => v2 + z) ic_1) (by decide) rfl ?_
    refine J_iinc hX (v3 + (1 : Int32)) [(3, .int (v3 + (1 : Int32))), (2, .int (v2 + (1 : Int32))), (5, .int s0), (0, .ref a), (1, .int v1), (4, .int v4)] dX6_rebuildUnits_68 4 rfl (congrArg (fun z => v3 + z) ic_1) (by decide) rfl ?_
    refine J_goto hX 4 dX6_rebuildUnits_71 (by decide) ?_
    refine J_sub [(0, .ref a), (1, .int v1), (2, .int (v2 + (1 : Int32))), (3, .int (v3 + (1 : Int32)))] [3, 4, 1, 0] rfl ?_
    exact hK4 v1 (v2 + (1 : Int32)) (v3 + (1 : Int32)) m6 h
theorem t_X6_rebuildUnits_L4 {X : XX} {G : GG} {ρ : Nat → Nat} {n t u w v : Nat} {x : Option Nat} {d : Nat} {a : Nat} (hX : Ok X G ρ cX6_rebuildUnits 6 RX6 d) (hd0 : 3 ≤ d) (hn : 126 ≤ n) (ha : isSt a) {rE : Int32} {mE : Mm} (hF : Fin' X G ρ n (some .int) (some (.int rE)) (RT t u w v x) mE) : ∀ (k : Nat) (v1 : Int32) (v2 : Int32) (v3 : Int32) (m : Mm), f_X6_rebuildUnits_L4 a k v1 v2 v3 m = some (rE, mE) → J X G ρ n 6 4 [(0, .ref a), (1, .int v1), (2, .int v2), (3, .int v3)] [] (RT t u w v x) m := by
  intro k
  induction k with
  | zero => intro _ _ _ _ h; rw [f_X6_rebuildUnits_L4] at h; cases h
  | succ k ih =>
    intro v1 v2 v3 m h
    rw [f_X6_rebuildUnits_L4] at h
    refine J_iload_n hX dX6_rebuildUnits_4 rfl 3 rfl ?_
    refine J_aload_n hX dX6_rebuildUnits_5 rfl 0 rfl ?_
    refine J_getR hX dX6_rebuildUnits_6 fl_RX6_24 (ltn (lt_isSt_0 ha) hn) (lo_isSt_0 ha) rfl (rt_isSt_0_0 _ _ _ _ _ ha) ?_
    refine J_getI hX dX6_rebuildUnits_9 fl_RX6_76 (ltn ltc_26 hn) lo_26 rfl ?_
    refine J_icmp_ge hX 74 dX6_rebuildUnits_12 (by decide) h (fun c h => ?_) (fun c h => ?_)
    · refine J_iload_n hX dX6_rebuildUnits_15 rfl 2 rfl ?_
      refine J_iload_n hX dX6_rebuildUnits_16 rfl 1 rfl ?_
      refine J_icmp_ge hX 74 dX6_rebuildUnits_17 (by decide) h (fun c h => ?_) (fun c h => ?_)
      · refine J_aload_n hX dX6_rebuildUnits_20 rfl 0 rfl ?_
        refine J_iload_n hX dX6_rebuildUnits_21 rfl 3 rfl ?_
        obtain ⟨r2, m1, h0, h⟩ := bd2_some h
        refine J_callVi (As := [.int v3]) (st := []) hX dX6_rebuildUnits_22 cw_RX6_109 (by omega) (c_X6_onlyLost hn ha h0) (ltn (lt_isSt_0 ha) hn) (lo_isSt_0 ha) (by decide) rfl rfl rfl (Nat.le_of_ble_eq_true rfl) ?_
        clear h0
        refine J_istore hX [(4, .int r2), (0, .ref a), (1, .int v1), (2, .int v2), (3, .int v3)] dX6_rebuildUnits_25 (by decide) rfl ?_
        refine J_iload hX dX6_rebuildUnits_27 0 rfl ?_
        refine J_iconst hX (-1 : Int32) dX6_rebuildUnits_29 ic_m1 ?_
        refine J_icmp_ne hX 37 dX6_rebuildUnits_30 (by decide) h (fun c h => ?_) (fun c h => ?_)
        · refine J_iconst hX (2 : Int32) dX6_rebuildUnits_33 ic_2 ?_
          refine J_goto hX 43 dX6_rebuildUnits_34 (by decide) ?_
          refine J_sub [(0, .ref a), (1, .int v1), (2, .int v2), (3, .int v3), (4, .int r2)] [1, 2, 3, 4, 0] rfl ?_
          exact t_X6_rebuildUnits_J43 hX hd0 hn ha hF v1 v2 v3 r2 (2 : Int32) (fun w1 w2 w3 m h => ih w1 w2 w3 m h) m1 h
        · refine J_aload_n hX dX6_rebuildUnits_37 rfl 1 rfl ?_
          refine J_iload hX dX6_rebuildUnits_38 0 rfl ?_
          obtain ⟨r4, m3, h0, h⟩ := bd2_some h
          refine J_callVi (As := [.int r2]) (st := []) hX dX6_rebuildUnits_40 cw_RX6_112 (by omega) (c_X6_rebuiltTo hn ha h0) (ltn (lt_isSt_0 ha) hn) (lo_isSt_0 ha) (by decide) rfl rfl rfl (Nat.le_of_ble_eq_true rfl) ?_
          clear h0
          refine J_sub [(0, .ref a), (1, .int v1), (2, .int v2), (3, .int v3), (4, .int r2)] [1, 2, 3, 4, 0] rfl ?_
          exact t_X6_rebuildUnits_J43 hX hd0 hn ha hF v1 v2 v3 r2 r4 (fun w1 w2 w3 m h => ih w1 w2 w3 m h) m3 h
      · refine J_iload_n hX dX6_rebuildUnits_74 rfl 2 rfl ?_
        exact J_ireturn hX dX6_rebuildUnits_75 h hF rfl
    · refine J_iload_n hX dX6_rebuildUnits_74 rfl 2 rfl ?_
      exact J_ireturn hX dX6_rebuildUnits_75 h hF rfl
theorem t_X6_rebuildUnits {X : XX} {G : GG} {ρ : Nat → Nat} {n t u w v : Nat} {x : Option Nat} {d : Nat} {a : Nat} (hX : Ok X G ρ cX6_rebuildUnits 6 RX6 d) (hd0 : 3 ≤ d) (hn : 126 ≤ n) (ha : isSt a) {rE : Int32} {mE : Mm} (hF : Fin' X G ρ n (some .int) (some (.int rE)) (RT t u w v x) mE) {x1 : Int32} {m : Mm} (h : f_X6_rebuildUnits a x1 m = some (rE, mE)) : J X G ρ n 6 0 [(0, .ref a), (1, .int x1)] [] (RT t u w v x) m := by
  unfold f_X6_rebuildUnits at h
  refine J_iconst hX (0 : Int32) dX6_rebuildUnits_0 ic_0 ?_
  refine J_istore_n hX [(2, .int (0 : Int32)), (0, .ref a), (1, .int x1)] dX6_rebuildUnits_1 rfl (by decide) rfl ?_
  refine J_iconst hX (0 : Int32) dX6_rebuildUnits_2 ic_0 ?_
  refine J_istore_n hX [(3, .int (0 : Int32)), (2, .int (0 : Int32)), (0, .ref a), (1, .int x1)] dX6_rebuildUnits_3 rfl (by decide) rfl ?_
  refine J_sub [(0, .ref a), (1, .int x1), (2, .int (0 : Int32)), (3, .int (0 : Int32))] [2, 3, 1, 0] rfl ?_
  exact t_X6_rebuildUnits_L4 hX hd0 hn ha hF FU x1 (0 : Int32) (0 : Int32)  m h
theorem c_X6_rebuildUnits {G : GG} {l : Launch} {ρ : Nat → Nat} {n t u w v : Nat} {x : Option Nat} (hn : 126 ≤ n) {a : Nat} (ha : isSt a) {x1 : Int32} {m : Mm} {rE : Int32} {mE : Mm} (h : f_X6_rebuildUnits a x1 m = some (rE, mE)) : CT G l yX6_rebuildUnits cX6_rebuildUnits 6 (some .int) 3 0 0 ρ n (RT t u w v x) [.ref a, .int x1] m (some (.int rE)) (RT t u w v x) mE := ct_of_J (by decide) rfl (Nat.le_of_ble_eq_true rfl) (fun X hX e1 e2 e3 e4 hQ hr hl => t_X6_rebuildUnits hX (Nat.le_refl _) hn ha ⟨by rw [hQ, e3, e4], hr, hl⟩ h)
theorem t_X6_bringHome_L4 {X : XX} {G : GG} {ρ : Nat → Nat} {n t u w v : Nat} {x : Option Nat} {d : Nat} {a : Nat} (hX : Ok X G ρ cX6_bringHome 6 RX6 d) (hd0 : 2 ≤ d) (hn : 126 ≤ n) (ha : isSt a) {rE : Int32} {mE : Mm} (hF : Fin' X G ρ n (some .int) (some (.int rE)) (RT t u w v x) mE) : ∀ (k : Nat) (v1 : Int32) (v2 : Int32) (v3 : Int32) (m : Mm), f_X6_bringHome_L4 a k v1 v2 v3 m = some (rE, mE) → J X G ρ n 6 4 [(0, .ref a), (1, .int v1), (2, .int v2), (3, .int v3)] [] (RT t u w v x) m := by
  intro k
  induction k with
  | zero => intro _ _ _ _ h; rw [f_X6_bringHome_L4] at h; cases h
  | succ k ih =>
    intro v1 v2 v3 m h
    rw [f_X6_bringHome_L4] at h
    refine J_iload_n hX dX6_bringHome_4 rfl 3 rfl ?_
    refine J_aload_n hX dX6_bringHome_5 rfl 0 rfl ?_
    refine J_getR hX dX6_bringHome_6 fl_RX6_24 (ltn (lt_isSt_0 ha) hn) (lo_isSt_0 ha) rfl (rt_isSt_0_0 _ _ _ _ _ ha) ?_
    refine J_getI hX dX6_bringHome_9 fl_RX6_76 (ltn ltc_26 hn) lo_26 rfl ?_
    refine J_icmp_ge hX 93 dX6_bringHome_12 (by decide) h (fun c h => ?_) (fun c h => ?_)
    · refine J_iload_n hX dX6_bringHome_15 rfl 2 rfl ?_
      refine J_iload_n hX dX6_bringHome_16 rfl 1 rfl ?_
      refine J_icmp_ge hX 93 dX6_bringHome_17 (by decide) h (fun c h => ?_) (fun c h => ?_)
      · refine J_aload_n hX dX6_bringHome_20 rfl 0 rfl ?_
        refine J_iload_n hX dX6_bringHome_21 rfl 3 rfl ?_
        obtain ⟨r2, m1, h0, h⟩ := bd2_some h
        refine J_callVi (As := [.int v3]) (st := []) hX dX6_bringHome_22 cw_RX6_115 (by omega) (c_X6_awayUnit hn ha h0) (ltn (lt_isSt_0 ha) hn) (lo_isSt_0 ha) (by decide) rfl rfl rfl (Nat.le_of_ble_eq_true rfl) ?_
        clear h0
        refine J_istore hX [(4, .int r2), (0, .ref a), (1, .int v1), (2, .int v2), (3, .int v3)] dX6_bringHome_25 (by decide) rfl ?_
        refine J_iload hX dX6_bringHome_27 0 rfl ?_
        refine J_iconst hX (-1 : Int32) dX6_bringHome_29 ic_m1 ?_
        refine J_icmp_eq hX 87 dX6_bringHome_30 (by decide) h (fun c h => ?_) (fun c h => ?_)
        · refine J_iinc hX (v3 + (1 : Int32)) [(3, .int (v3 + (1 : Int32))), (4, .int r2), (0, .ref a), (1, .int v1), (2, .int v2)] dX6_bringHome_87 4 rfl (congrArg (fun z => v3 + z) ic_1) (by decide) rfl ?_
          refine J_goto hX 4 dX6_bringHome_90 (by decide) ?_
          refine J_sub [(0, .ref a), (1, .int v1), (2, .int v2), (3, .int (v3 + (1 : Int32)))] [2, 3, 4, 0] rfl ?_
          exact ih v1 v2 (v3 + (1 : Int32)) m1 h
        · refine J_aload_n hX dX6_bringHome_33 rfl 1 rfl ?_
          refine J_aload_n hX dX6_bringHome_34 rfl 1 rfl ?_
          refine J_getR hX dX6_bringHome_35 fl_RX6_24 (ltn (lt_isSt_0 ha) hn) (lo_isSt_0 ha) rfl (rt_isSt_0_0 _ _ _ _ _ ha) ?_
          refine J_getR hX dX6_bringHome_38 fl_RX6_49 (ltn ltc_26 hn) lo_26 rfl (rt_26_9 _ _ _ _ _) ?_
          refine J_iload_n hX dX6_bringHome_41 rfl 4 rfl ?_
          refine J_iconst hX (5 : Int32) dX6_bringHome_42 ic_5 ?_
          refine J_imul hX dX6_bringHome_43 ?_
          refine J_iload hX dX6_bringHome_44 0 rfl ?_
          refine J_iadd hX dX6_bringHome_46 ?_
          refine J_iaload hX dX6_bringHome_47 (ltn ltc_33 hn) lay_33 h (fun h => ?_)
          obtain ⟨r4, m3, h0, h⟩ := bd2_some h
          refine J_callVi (As := [.int (gI m1 33 (ix ((v3 * (5 : Int32)) + r2)))]) (st := []) hX dX6_bringHome_48 cw_RX6_106 (by omega) (c_X6_isUp hn ha h0) (ltn (lt_isSt_0 ha) hn) (lo_isSt_0 ha) (by decide) rfl rfl rfl (Nat.le_of_ble_eq_true rfl) ?_
          clear h0
          refine J_if_eq hX 87 dX6_bringHome_51 (by decide) h (fun c h => ?_) (fun c h => ?_)
          · refine J_iinc hX (v3 + (1 : Int32)) [(3, .int (v3 + (1 : Int32))), (4, .int r2), (0, .ref a), (1, .int v1), (2, .int v2)] dX6_bringHome_87 4 rfl (congrArg (fun z => v3 + z) ic_1) (by decide) rfl ?_
            refine J_goto hX 4 dX6_bringHome_90 (by decide) ?_
            refine J_sub [(0, .ref a), (1, .int v1), (2, .int v2), (3, .int (v3 + (1 : Int32)))] [2, 3, 4, 0] rfl ?_
            exact ih v1 v2 (v3 + (1 : Int32)) m3 h
          · refine J_iload_n hX dX6_bringHome_54 rfl 4 rfl ?_
            refine J_iconst hX (5 : Int32) dX6_bringHome_55 ic_5 ?_
            refine J_imul hX dX6_bringHome_56 ?_
            refine J_iload hX dX6_bringHome_57 0 rfl ?_
            refine J_iadd hX dX6_bringHome_59 ?_
            refine J_istore hX [(5, .int ((v3 * (5 : Int32)) + r2)), (4, .int r2), (0, .ref a), (1, .int v1), (2, .int v2), (3, .int v3)] dX6_bringHome_60 (by decide) rfl ?_
            refine J_aload_n hX dX6_bringHome_62 rfl 2 rfl ?_
            refine J_iload hX dX6_bringHome_63 0 rfl ?_
            refine J_iconst hX (1 : Int32) dX6_bringHome_65 ic_1 ?_
            obtain ⟨m5, h0, h⟩ := bd1_some h
            refine J_callVv (As := [.int ((v3 * (5 : Int32)) + r2), .int (1 : Int32)]) (st := []) hX dX6_bringHome_66 cw_RX6_89 (by omega) (c_X6_load hn ha h0) (ltn (lt_isSt_0 ha) hn) (lo_isSt_0 ha) (by decide) rfl rfl rfl (Nat.le_of_ble_eq_true rfl) ?_
            clear h0
            refine J_aload_n hX dX6_bringHome_69 rfl 2 rfl ?_
            refine J_getR hX dX6_bringHome_70 fl_RX6_9 (ltn (lt_isSt_0 ha) hn) (lo_isSt_0 ha) rfl (rt_isSt_0_2 _ _ _ _ _ ha) ?_
            refine J_iload hX dX6_bringHome_73 0 rfl ?_
            refine J_iconst hX (0 : Int32) dX6_bringHome_75 ic_0 ?_
            refine J_iastore hX dX6_bringHome_76 (ltn (lt_isSt_1 ha) hn) (lay_isSt_1 ha) h (fun m6 h => ?_)
            refine J_aload_n hX dX6_bringHome_77 rfl 2 rfl ?_
            refine J_iload hX dX6_bringHome_78 0 rfl ?_
            refine J_iconst hX (1 : Int32) dX6_bringHome_80 ic_1 ?_
            obtain ⟨m7, h0, h⟩ := bd1_some h
            refine J_callVv (As := [.int ((v3 * (5 : Int32)) + r2), .int (1 : Int32)]) (st := []) hX dX6_bringHome_81 cw_RX6_89 (by omega) (c_X6_load hn ha h0) (ltn (lt_isSt_0 ha) hn) (lo_isSt_0 ha) (by decide) rfl rfl rfl (Nat.le_of_ble_eq_true rfl) ?_
            clear h0
            refine J_iinc hX (v2 + (1 : Int32)) [(2, .int (v2 + (1 : Int32))), (5, .int ((v3 * (5 : Int32)) + r2)), (4, .int r2), (0, .ref a), (1, .int v1), (3, .int v3)] dX6_bringHome_84 4 rfl (congrArg (fun z => v2 + z) ic_1) (by decide) rfl ?_
            refine J_iinc hX (v3 + (1 : Int32)) [(3, .int (v3 + (1 : Int32))), (2, .int (v2 + (1 : Int32))), (5, .int ((v3 * (5 : Int32)) + r2)), (4, .int r2), (0, .ref a), (1, .int v1)] dX6_bringHome_87 5 rfl (congrArg (fun z => v3 + z) ic_1) (by decide) rfl ?_
            refine J_goto hX 4 dX6_bringHome_90 (by decide) ?_
            refine J_sub [(0, .ref a), (1, .int v1), (2, .int (v2 + (1 : Int32))), (3, .int (v3 + (1 : Int32)))] [4, 5, 1, 0] rfl ?_
            exact ih v1 (v2 + (1 : Int32)) (v3 + (1 : Int32)) m7 h
      · refine J_iload_n hX dX6_bringHome_93 rfl 2 rfl ?_
        exact J_ireturn hX dX6_bringHome_94 h hF rfl
    · refine J_iload_n hX dX6_bringHome_93 rfl 2 rfl ?_
      exact J_ireturn hX dX6_bringHome_94 h hF rfl
theorem t_X6_bringHome {X : XX} {G : GG} {ρ : Nat → Nat} {n t u w v : Nat} {x : Option Nat} {d : Nat} {a : Nat} (hX : Ok X G ρ cX6_bringHome 6 RX6 d) (hd0 : 2 ≤ d) (hn : 126 ≤ n) (ha : isSt a) {rE : Int32} {mE : Mm} (hF : Fin' X G ρ n (some .int) (some (.int rE)) (RT t u w v x) mE) {x1 : Int32} {m : Mm} (h : f_X6_bringHome a x1 m = some (rE, mE)) : J X G ρ n 6 0 [(0, .ref a), (1, .int x1)] [] (RT t u w v x) m := by
  unfold f_X6_bringHome at h
  refine J_iconst hX (0 : Int32) dX6_bringHome_0 ic_0 ?_
  refine J_istore_n hX [(2, .int (0 : Int32)), (0, .ref a), (1, .int x1)] dX6_bringHome_1 rfl (by decide) rfl ?_
  refine J_iconst hX (0 : Int32) dX6_bringHome_2 ic_0 ?_
  refine J_istore_n hX [(3, .int (0 : Int32)), (2, .int (0 : Int32)), (0, .ref a), (1, .int x1)] dX6_bringHome_3 rfl (by decide) rfl ?_
  refine J_sub [(0, .ref a), (1, .int x1), (2, .int (0 : Int32)), (3, .int (0 : Int32))] [2, 3, 1, 0] rfl ?_
  exact t_X6_bringHome_L4 hX hd0 hn ha hF FU x1 (0 : Int32) (0 : Int32)  m h
theorem c_X6_bringHome {G : GG} {l : Launch} {ρ : Nat → Nat} {n t u w v : Nat} {x : Option Nat} (hn : 126 ≤ n) {a : Nat} (ha : isSt a) {x1 : Int32} {m : Mm} {rE : Int32} {mE : Mm} (h : f_X6_bringHome a x1 m = some (rE, mE)) : CT G l yX6_bringHome cX6_bringHome 6 (some .int) 2 0 0 ρ n (RT t u w v x) [.ref a, .int x1] m (some (.int rE)) (RT t u w v x) mE := ct_of_J (by decide) rfl (Nat.le_of_ble_eq_true rfl) (fun X hX e1 e2 e3 e4 hQ hr hl => t_X6_bringHome hX (Nat.le_refl _) hn ha ⟨by rw [hQ, e3, e4], hr, hl⟩ h)
theorem t_X9_objectOf {X : XX} {G : GG} {ρ : Nat → Nat} {n t u w v : Nat} {x : Option Nat} {d : Nat} {a : Nat} (hX : Ok X G ρ cX9_objectOf 4 RX9 d) (hd0 : 6 ≤ d) (hn : 126 ≤ n) (ha : isWk a) {rE : Int32} {mE : Mm} (hF : Fin' X G ρ n (some .int) (some (.int rE)) (RT t u w v x) mE) {x1 : Int32} {x2 : Int32} {x3 : Int32} {m : Mm} (h : f_X9_objectOf a x1 x2 x3 m = some (rE, mE)) : J X G ρ n 4 0 [(0, .ref a), (1, .int x1), (2, .int x2), (3, .int x3)] [] (RT t u w v x) m := by
  unfold f_X9_objectOf at h
  refine J_iload_n hX dX9_objectOf_0 rfl 1 rfl ?_
  refine J_split h (fun c0 h => ?_) (fun c0 h => ?_)
  · refine J_tabIn hX 32 (0 : Int32) dX9_objectOf_1 c0 (by decide) (by decide) (by decide) (by decide) ?_
    refine J_aload_n hX dX9_objectOf_32 rfl 0 rfl ?_
    refine J_getR hX dX9_objectOf_33 fl_RX9_21 (ltn (lt_isWk_0 ha) hn) (lo_isWk_0 ha) rfl (rt_isWk_0_0 _ _ _ _ _ ha) ?_
    refine J_iconst hX (0 : Int32) dX9_objectOf_36 ic_0 ?_
    refine J_iload_n hX dX9_objectOf_37 rfl 2 rfl ?_
    refine J_iconst hX (1 : Int32) dX9_objectOf_38 ic_1 ?_
    refine J_isub hX dX9_objectOf_39 ?_
    obtain ⟨r2, m1, h0, h⟩ := bd2_some h
    refine J_callVi (As := [.int (0 : Int32), .int (x2 - (1 : Int32))]) (st := []) hX dX9_objectOf_40 cw_RX9_59 (by omega) (c_X7_numberWithin hn  h0) (ltn ltc_1 hn) lo_1 (by decide) rfl rfl rfl (Nat.le_of_ble_eq_true rfl) ?_
    clear h0
    exact J_ireturn hX dX9_objectOf_43 h hF rfl
  · refine J_split h (fun c1 h => ?_) (fun c1 h => ?_)
    · refine J_tabIn hX 32 (1 : Int32) dX9_objectOf_1 c1 (by decide) (by decide) (by decide) (by decide) ?_
      refine J_aload_n hX dX9_objectOf_32 rfl 0 rfl ?_
      refine J_getR hX dX9_objectOf_33 fl_RX9_21 (ltn (lt_isWk_0 ha) hn) (lo_isWk_0 ha) rfl (rt_isWk_0_0 _ _ _ _ _ ha) ?_
      refine J_iconst hX (0 : Int32) dX9_objectOf_36 ic_0 ?_
      refine J_iload_n hX dX9_objectOf_37 rfl 2 rfl ?_
      refine J_iconst hX (1 : Int32) dX9_objectOf_38 ic_1 ?_
      refine J_isub hX dX9_objectOf_39 ?_
      obtain ⟨r4, m3, h0, h⟩ := bd2_some h
      refine J_callVi (As := [.int (0 : Int32), .int (x2 - (1 : Int32))]) (st := []) hX dX9_objectOf_40 cw_RX9_59 (by omega) (c_X7_numberWithin hn  h0) (ltn ltc_1 hn) lo_1 (by decide) rfl rfl rfl (Nat.le_of_ble_eq_true rfl) ?_
      clear h0
      exact J_ireturn hX dX9_objectOf_43 h hF rfl
    · refine J_split h (fun c2 h => ?_) (fun c2 h => ?_)
      · refine J_tabIn hX 44 (2 : Int32) dX9_objectOf_1 c2 (by decide) (by decide) (by decide) (by decide) ?_
        refine J_aload_n hX dX9_objectOf_44 rfl 0 rfl ?_
        refine J_getR hX dX9_objectOf_45 fl_RX9_21 (ltn (lt_isWk_0 ha) hn) (lo_isWk_0 ha) rfl (rt_isWk_0_0 _ _ _ _ _ ha) ?_
        refine J_iconst hX (0 : Int32) dX9_objectOf_48 ic_0 ?_
        refine J_iload_n hX dX9_objectOf_49 rfl 3 rfl ?_
        refine J_iconst hX (1 : Int32) dX9_objectOf_50 ic_1 ?_
        refine J_isub hX dX9_objectOf_51 ?_
        obtain ⟨r6, m5, h0, h⟩ := bd2_some h
        refine J_callVi (As := [.int (0 : Int32), .int (x3 - (1 : Int32))]) (st := []) hX dX9_objectOf_52 cw_RX9_59 (by omega) (c_X7_numberWithin hn  h0) (ltn ltc_1 hn) lo_1 (by decide) rfl rfl rfl (Nat.le_of_ble_eq_true rfl) ?_
        clear h0
        exact J_ireturn hX dX9_objectOf_55 h hF rfl
      · refine J_split h (fun c3 h => ?_) (fun c3 h => ?_)
        · refine J_tabIn hX 44 (3 : Int32) dX9_objectOf_1 c3 (by decide) (by decide) (by decide) (by decide) ?_
          refine J_aload_n hX dX9_objectOf_44 rfl 0 rfl ?_
          refine J_getR hX dX9_objectOf_45 fl_RX9_21 (ltn (lt_isWk_0 ha) hn) (lo_isWk_0 ha) rfl (rt_isWk_0_0 _ _ _ _ _ ha) ?_
          refine J_iconst hX (0 : Int32) dX9_objectOf_48 ic_0 ?_
          refine J_iload_n hX dX9_objectOf_49 rfl 3 rfl ?_
          refine J_iconst hX (1 : Int32) dX9_objectOf_50 ic_1 ?_
          refine J_isub hX dX9_objectOf_51 ?_
          obtain ⟨r8, m7, h0, h⟩ := bd2_some h
          refine J_callVi (As := [.int (0 : Int32), .int (x3 - (1 : Int32))]) (st := []) hX dX9_objectOf_52 cw_RX9_59 (by omega) (c_X7_numberWithin hn  h0) (ltn ltc_1 hn) lo_1 (by decide) rfl rfl rfl (Nat.le_of_ble_eq_true rfl) ?_
          clear h0
          exact J_ireturn hX dX9_objectOf_55 h hF rfl
        · refine J_tabOut hX 56 [(0 : Int32), (1 : Int32), (2 : Int32), (3 : Int32)] dX9_objectOf_1 (by decide) (by simp only [List.mem_cons, List.not_mem_nil, or_false, not_or]; exact ⟨c0, c1, c2, c3⟩) (by decide) ?_
          refine J_aload_n hX dX9_objectOf_56 rfl 0 rfl ?_
          refine J_getR hX dX9_objectOf_57 fl_RX9_21 (ltn (lt_isWk_0 ha) hn) (lo_isWk_0 ha) rfl (rt_isWk_0_0 _ _ _ _ _ ha) ?_
          refine J_iconst hX (1 : Int32) dX9_objectOf_60 ic_1 ?_
          refine J_bipush hX (40 : Int32) dX9_objectOf_61 (by decide) ?_
          obtain ⟨r10, m9, h0, h⟩ := bd2_some h
          refine J_callVi (As := [.int (1 : Int32), .int (40 : Int32)]) (st := []) hX dX9_objectOf_63 cw_RX9_59 (by omega) (c_X7_numberWithin hn  h0) (ltn ltc_1 hn) lo_1 (by decide) rfl rfl rfl (Nat.le_of_ble_eq_true rfl) ?_
          clear h0
          exact J_ireturn hX dX9_objectOf_66 h hF rfl
theorem c_X9_objectOf {G : GG} {l : Launch} {ρ : Nat → Nat} {n t u w v : Nat} {x : Option Nat} (hn : 126 ≤ n) {a : Nat} (ha : isWk a) {x1 : Int32} {x2 : Int32} {x3 : Int32} {m : Mm} {rE : Int32} {mE : Mm} (h : f_X9_objectOf a x1 x2 x3 m = some (rE, mE)) : CT G l yX9_objectOf cX9_objectOf 4 (some .int) 6 0 0 ρ n (RT t u w v x) [.ref a, .int x1, .int x2, .int x3] m (some (.int rE)) (RT t u w v x) mE := ct_of_J (by decide) rfl (Nat.le_of_ble_eq_true rfl) (fun X hX e1 e2 e3 e4 hQ hr hl => t_X9_objectOf hX (Nat.le_refl _) hn ha ⟨by rw [hQ, e3, e4], hr, hl⟩ h)
theorem t_X9_verbInHand {X : XX} {G : GG} {ρ : Nat → Nat} {n t u w v : Nat} {x : Option Nat} {d : Nat} {a : Nat} (hX : Ok X G ρ cX9_verbInHand 1 RX9 d) (hd0 : 5 ≤ d) (hn : 126 ≤ n) (ha : isWk a) {rE : Int32} {mE : Mm} (hF : Fin' X G ρ n (some .int) (some (.int rE)) (RT t u w v x) mE) {m : Mm} (h : f_X9_verbInHand a m = some (rE, mE)) : J X G ρ n 1 0 [(0, .ref a)] [] (RT t u w v x) m := by
  unfold f_X9_verbInHand at h
  refine J_aload_n hX dX9_verbInHand_0 rfl 0 rfl ?_
  refine J_getR hX dX9_verbInHand_1 fl_RX9_21 (ltn (lt_isWk_0 ha) hn) (lo_isWk_0 ha) rfl (rt_isWk_0_0 _ _ _ _ _ ha) ?_
  refine J_ldcS hX (k := 15) dX9_verbInHand_4 rfl ?_
  obtain ⟨r2, m1, h0, h⟩ := bd2_some h
  refine J_callVi (As := [.ref 1015]) (st := []) hX dX9_verbInHand_6 cw_RX9_69 (by omega) (c_X7_isWord hn p_isTx_1015 h0) (ltn ltc_1 hn) lo_1 (by decide) rfl rfl rfl (Nat.le_of_ble_eq_true rfl) ?_
  clear h0
  refine J_if_eq hX 14 dX9_verbInHand_9 (by decide) h (fun c h => ?_) (fun c h => ?_)
  · refine J_aload_n hX dX9_verbInHand_14 rfl 0 rfl ?_
    refine J_getR hX dX9_verbInHand_15 fl_RX9_21 (ltn (lt_isWk_0 ha) hn) (lo_isWk_0 ha) rfl (rt_isWk_0_0 _ _ _ _ _ ha) ?_
    refine J_ldcS hX (k := 16) dX9_verbInHand_18 rfl ?_
    obtain ⟨r4, m3, h0, h⟩ := bd2_some h
    refine J_callVi (As := [.ref 1016]) (st := []) hX dX9_verbInHand_20 cw_RX9_69 (by omega) (c_X7_isWord hn p_isTx_1016 h0) (ltn ltc_1 hn) lo_1 (by decide) rfl rfl rfl (Nat.le_of_ble_eq_true rfl) ?_
    clear h0
    refine J_if_eq hX 28 dX9_verbInHand_23 (by decide) h (fun c h => ?_) (fun c h => ?_)
    · refine J_aload_n hX dX9_verbInHand_28 rfl 0 rfl ?_
      refine J_getR hX dX9_verbInHand_29 fl_RX9_21 (ltn (lt_isWk_0 ha) hn) (lo_isWk_0 ha) rfl (rt_isWk_0_0 _ _ _ _ _ ha) ?_
      refine J_ldcS hX (k := 17) dX9_verbInHand_32 rfl ?_
      obtain ⟨r6, m5, h0, h⟩ := bd2_some h
      refine J_callVi (As := [.ref 1017]) (st := []) hX dX9_verbInHand_34 cw_RX9_69 (by omega) (c_X7_isWord hn p_isTx_1017 h0) (ltn ltc_1 hn) lo_1 (by decide) rfl rfl rfl (Nat.le_of_ble_eq_true rfl) ?_
      clear h0
      refine J_if_eq hX 42 dX9_verbInHand_37 (by decide) h (fun c h => ?_) (fun c h => ?_)
      · refine J_aload_n hX dX9_verbInHand_42 rfl 0 rfl ?_
        refine J_getR hX dX9_verbInHand_43 fl_RX9_21 (ltn (lt_isWk_0 ha) hn) (lo_isWk_0 ha) rfl (rt_isWk_0_0 _ _ _ _ _ ha) ?_
        refine J_ldcS hX (k := 18) dX9_verbInHand_46 rfl ?_
        obtain ⟨r8, m7, h0, h⟩ := bd2_some h
        refine J_callVi (As := [.ref 1018]) (st := []) hX dX9_verbInHand_48 cw_RX9_69 (by omega) (c_X7_isWord hn p_isTx_1018 h0) (ltn ltc_1 hn) lo_1 (by decide) rfl rfl rfl (Nat.le_of_ble_eq_true rfl) ?_
        clear h0
        refine J_if_eq hX 56 dX9_verbInHand_51 (by decide) h (fun c h => ?_) (fun c h => ?_)
        · refine J_aload_n hX dX9_verbInHand_56 rfl 0 rfl ?_
          refine J_getR hX dX9_verbInHand_57 fl_RX9_21 (ltn (lt_isWk_0 ha) hn) (lo_isWk_0 ha) rfl (rt_isWk_0_0 _ _ _ _ _ ha) ?_
          refine J_ldcS hX (k := 19) dX9_verbInHand_60 rfl ?_
          obtain ⟨r10, m9, h0, h⟩ := bd2_some h
          refine J_callVi (As := [.ref 1019]) (st := []) hX dX9_verbInHand_62 cw_RX9_69 (by omega) (c_X7_isWord hn p_isTx_1019 h0) (ltn ltc_1 hn) lo_1 (by decide) rfl rfl rfl (Nat.le_of_ble_eq_true rfl) ?_
          clear h0
          refine J_if_eq hX 70 dX9_verbInHand_65 (by decide) h (fun c h => ?_) (fun c h => ?_)
          · refine J_aload_n hX dX9_verbInHand_70 rfl 0 rfl ?_
            refine J_getR hX dX9_verbInHand_71 fl_RX9_21 (ltn (lt_isWk_0 ha) hn) (lo_isWk_0 ha) rfl (rt_isWk_0_0 _ _ _ _ _ ha) ?_
            refine J_ldcS hX (k := 20) dX9_verbInHand_74 rfl ?_
            obtain ⟨r12, m11, h0, h⟩ := bd2_some h
            refine J_callVi (As := [.ref 1020]) (st := []) hX dX9_verbInHand_76 cw_RX9_69 (by omega) (c_X7_isWord hn p_isTx_1020 h0) (ltn ltc_1 hn) lo_1 (by decide) rfl rfl rfl (Nat.le_of_ble_eq_true rfl) ?_
            clear h0
            refine J_if_eq hX 86 dX9_verbInHand_79 (by decide) h (fun c h => ?_) (fun c h => ?_)
            · refine J_iconst hX (-1 : Int32) dX9_verbInHand_86 ic_m1 ?_
              exact J_ireturn hX dX9_verbInHand_87 h hF rfl
            · refine J_iconst hX (5 : Int32) dX9_verbInHand_82 ic_5 ?_
              refine J_goto hX 87 dX9_verbInHand_83 (by decide) ?_
              exact J_ireturn hX dX9_verbInHand_87 h hF rfl
          · refine J_iconst hX (4 : Int32) dX9_verbInHand_68 ic_4 ?_
            exact J_ireturn hX dX9_verbInHand_69 h hF rfl
        · refine J_iconst hX (3 : Int32) dX9_verbInHand_54 ic_3 ?_
          exact J_ireturn hX dX9_verbInHand_55 h hF rfl
      · refine J_iconst hX (2 : Int32) dX9_verbInHand_40 ic_2 ?_
        exact J_ireturn hX dX9_verbInHand_41 h hF rfl
    · refine J_iconst hX (1 : Int32) dX9_verbInHand_26 ic_1 ?_
      exact J_ireturn hX dX9_verbInHand_27 h hF rfl
  · refine J_iconst hX (0 : Int32) dX9_verbInHand_12 ic_0 ?_
    exact J_ireturn hX dX9_verbInHand_13 h hF rfl
theorem c_X9_verbInHand {G : GG} {l : Launch} {ρ : Nat → Nat} {n t u w v : Nat} {x : Option Nat} (hn : 126 ≤ n) {a : Nat} (ha : isWk a) {m : Mm} {rE : Int32} {mE : Mm} (h : f_X9_verbInHand a m = some (rE, mE)) : CT G l yX9_verbInHand cX9_verbInHand 1 (some .int) 5 0 0 ρ n (RT t u w v x) [.ref a] m (some (.int rE)) (RT t u w v x) mE := ct_of_J (by decide) rfl (Nat.le_of_ble_eq_true rfl) (fun X hX e1 e2 e3 e4 hQ hr hl => t_X9_verbInHand hX (Nat.le_refl _) hn ha ⟨by rw [hQ, e3, e4], hr, hl⟩ h)
theorem t_X9_addLine_J61 {X : XX} {G : GG} {ρ : Nat → Nat} {n t u w v : Nat} {x : Option Nat} {d : Nat} {a : Nat} (hX : Ok X G ρ cX9_addLine 4 RX9 d) (hd0 : 7 ≤ d) (hn : 126 ≤ n) (ha : isWk a) {mE : Mm} (hF : Fin' X G ρ n none none (RT t u w v x) mE) (s0 : Int32) (s1 : Int32) (m : Mm) (h : f_X9_addLine_J61 a s0 s1 m = some mE) : J X G ρ n 4 61 [(0, .ref a)] [.int s0, .int s1, .ref (a + 3)] (RT t u w v x) m := by
  unfold f_X9_addLine_J61 at h
  refine J_iastore hX dX9_addLine_61 (ltn (lt_isWk_3 ha) hn) (lay_isWk_3 ha) h (fun m6 h => ?_)
  refine J_aload_n hX dX9_addLine_62 rfl 0 rfl ?_
  refine J_getR hX dX9_addLine_63 fl_RX9_21 (ltn (lt_isWk_0 ha) hn) (lo_isWk_0 ha) rfl (rt_isWk_0_0 _ _ _ _ _ ha) ?_
  refine J_bipush hX (59 : Int32) dX9_addLine_66 (by decide) ?_
  obtain ⟨m7, h0, h⟩ := bd1_some h
  refine J_callVv (As := [.int (59 : Int32)]) (st := []) hX dX9_addLine_68 cw_RX9_63 (by omega) (c_X7_pass hn  h0) (ltn ltc_1 hn) lo_1 (by decide) rfl rfl rfl (Nat.le_of_ble_eq_true rfl) ?_
  clear h0
  refine J_aload_n hX dX9_addLine_71 rfl 0 rfl ?_
  refine J_dup hX dX9_addLine_72 rfl ?_
  refine J_getI hX dX9_addLine_73 fl_RX9_25 (ltn (lt_isWk_0 ha) hn) (lo_isWk_0 ha) rfl ?_
  refine J_iconst hX (1 : Int32) dX9_addLine_76 ic_1 ?_
  refine J_iadd hX dX9_addLine_77 ?_
  refine J_putI hX dX9_addLine_78 pl_RX9_25 (ltn (lt_isWk_0 ha) hn) (lo_isWk_0 ha) rfl rfl rfl h (fun m8 h => ?_)
  exact J_return hX dX9_addLine_81 h hF
theorem t_X9_addLine {X : XX} {G : GG} {ρ : Nat → Nat} {n t u w v : Nat} {x : Option Nat} {d : Nat} {a : Nat} (hX : Ok X G ρ cX9_addLine 4 RX9 d) (hd0 : 7 ≤ d) (hn : 126 ≤ n) (ha : isWk a) {mE : Mm} (hF : Fin' X G ρ n none none (RT t u w v x) mE) {x1 : Int32} {x2 : Int32} {x3 : Int32} {m : Mm} (h : f_X9_addLine a x1 x2 x3 m = some mE) : J X G ρ n 4 0 [(0, .ref a), (1, .int x1), (2, .int x2), (3, .int x3)] [] (RT t u w v x) m := by
  unfold f_X9_addLine at h
  refine J_aload_n hX dX9_addLine_0 rfl 0 rfl ?_
  refine J_getR hX dX9_addLine_1 fl_RX9_21 (ltn (lt_isWk_0 ha) hn) (lo_isWk_0 ha) rfl (rt_isWk_0_0 _ _ _ _ _ ha) ?_
  obtain ⟨m1, h0, h⟩ := bd1_some h
  refine J_callVv (As := []) (st := []) hX dX9_addLine_4 cw_RX9_52 (by omega) (c_X7_advance hn  h0) (ltn ltc_1 hn) lo_1 (by decide) rfl rfl rfl (Nat.le_of_ble_eq_true rfl) ?_
  clear h0
  refine J_aload_n hX dX9_addLine_7 rfl 0 rfl ?_
  refine J_getR hX dX9_addLine_8 fl_RX9_9 (ltn (lt_isWk_0 ha) hn) (lo_isWk_0 ha) rfl (rt_isWk_0_1 _ _ _ _ _ ha) ?_
  refine J_aload_n hX dX9_addLine_11 rfl 0 rfl ?_
  refine J_getI hX dX9_addLine_12 fl_RX9_25 (ltn (lt_isWk_0 ha) hn) (lo_isWk_0 ha) rfl ?_
  refine J_iload_n hX dX9_addLine_15 rfl 1 rfl ?_
  refine J_iastore hX dX9_addLine_16 (ltn (lt_isWk_1 ha) hn) (lay_isWk_1 ha) h (fun m2 h => ?_)
  refine J_aload_n hX dX9_addLine_17 rfl 0 rfl ?_
  refine J_getR hX dX9_addLine_18 fl_RX9_15 (ltn (lt_isWk_0 ha) hn) (lo_isWk_0 ha) rfl (rt_isWk_0_2 _ _ _ _ _ ha) ?_
  refine J_aload_n hX dX9_addLine_21 rfl 0 rfl ?_
  refine J_getI hX dX9_addLine_22 fl_RX9_25 (ltn (lt_isWk_0 ha) hn) (lo_isWk_0 ha) rfl ?_
  refine J_aload_n hX dX9_addLine_25 rfl 0 rfl ?_
  refine J_iload_n hX dX9_addLine_26 rfl 1 rfl ?_
  refine J_iload_n hX dX9_addLine_27 rfl 2 rfl ?_
  refine J_iload_n hX dX9_addLine_28 rfl 3 rfl ?_
  obtain ⟨r4, m3, h0, h⟩ := bd2_some h
  refine J_callVi (As := [.int x1, .int x2, .int x3]) (st := [.int (gI m2 a 4), .ref (a + 2)]) hX dX9_addLine_29 cw_RX9_55 (by omega) (c_X9_objectOf hn ha h0) (ltn (lt_isWk_0 ha) hn) (lo_isWk_0 ha) (by decide) rfl rfl rfl (Nat.le_of_ble_eq_true rfl) ?_
  clear h0
  refine J_iastore hX dX9_addLine_32 (ltn (lt_isWk_2 ha) hn) (lay_isWk_2 ha) h (fun m5 h => ?_)
  refine J_aload_n hX dX9_addLine_33 rfl 0 rfl ?_
  refine J_getR hX dX9_addLine_34 fl_RX9_18 (ltn (lt_isWk_0 ha) hn) (lo_isWk_0 ha) rfl (rt_isWk_0_3 _ _ _ _ _ ha) ?_
  refine J_aload_n hX dX9_addLine_37 rfl 0 rfl ?_
  refine J_getI hX dX9_addLine_38 fl_RX9_25 (ltn (lt_isWk_0 ha) hn) (lo_isWk_0 ha) rfl ?_
  refine J_iload_n hX dX9_addLine_41 rfl 1 rfl ?_
  refine J_iconst hX (1 : Int32) dX9_addLine_42 ic_1 ?_
  refine J_icmp_ne hX 60 dX9_addLine_43 (by decide) h (fun c h => ?_) (fun c h => ?_)
  · refine J_aload_n hX dX9_addLine_46 rfl 0 rfl ?_
    refine J_getR hX dX9_addLine_47 fl_RX9_21 (ltn (lt_isWk_0 ha) hn) (lo_isWk_0 ha) rfl (rt_isWk_0_0 _ _ _ _ _ ha) ?_
    refine J_iconst hX (0 : Int32) dX9_addLine_50 ic_0 ?_
    refine J_sipush hX (255 : Int32) dX9_addLine_51 (by decide) ?_
    obtain ⟨r10, m9, h0, h⟩ := bd2_some h
    refine J_callVi (As := [.int (0 : Int32), .int (255 : Int32)]) (st := [.int (gI m5 a 4), .ref (a + 3)]) hX dX9_addLine_54 cw_RX9_59 (by omega) (c_X7_numberWithin hn  h0) (ltn ltc_1 hn) lo_1 (by decide) rfl rfl rfl (Nat.le_of_ble_eq_true rfl) ?_
    clear h0
    refine J_goto hX 61 dX9_addLine_57 (by decide) ?_
    refine J_sub [(0, .ref a)] [0] rfl ?_
    exact t_X9_addLine_J61 hX hd0 hn ha hF  r10 (gI m5 a 4) m9 h
  · refine J_iconst hX (0 : Int32) dX9_addLine_60 ic_0 ?_
    refine J_sub [(0, .ref a)] [0] rfl ?_
    exact t_X9_addLine_J61 hX hd0 hn ha hF  (0 : Int32) (gI m5 a 4) m5 h
theorem c_X9_addLine {G : GG} {l : Launch} {ρ : Nat → Nat} {n t u w v : Nat} {x : Option Nat} (hn : 126 ≤ n) {a : Nat} (ha : isWk a) {x1 : Int32} {x2 : Int32} {x3 : Int32} {m : Mm} {mE : Mm} (h : f_X9_addLine a x1 x2 x3 m = some mE) : CT G l yX9_addLine cX9_addLine 4 none 7 0 0 ρ n (RT t u w v x) [.ref a, .int x1, .int x2, .int x3] m none (RT t u w v x) mE := ct_of_J (by decide) rfl (Nat.le_of_ble_eq_true rfl) (fun X hX e1 e2 e3 e4 hQ hr hl => t_X9_addLine hX (Nat.le_refl _) hn ha ⟨by rw [hQ, e3, e4], hr, hl⟩ h)
theorem t_X0_fill_L21 {X : XX} {G : GG} {ρ : Nat → Nat} {n t u w v : Nat} {d : Nat} {b : Nat} (hX : Ok X G ρ cX0_fill 3 RX0 d) (hd0 : 72 ≤ d) (hn : 126 ≤ n) (hb : isTo b) {rE : Int32} {mE : Mm} (hF : Fin' X G ρ n (some .int) (some (.int rE)) (RT t u w v (some b)) mE) : ∀ (k : Nat) (v2 : Int32) (m : Mm), f_X0_fill_L21 b k v2 m = some (rE, mE) → J X G ρ n 3 21 [(0, .ref 17), (2, .int v2)] [] (RT t u w v (some b)) m := by
  intro k
  induction k with
  | zero => intro _ _ h; rw [f_X0_fill_L21] at h; cases h
  | succ k ih =>
    intro v2 m h
    rw [f_X0_fill_L21] at h
    refine J_iload_n hX dX0_fill_21 rfl 1 rfl ?_
    refine J_sipush hX (1000 : Int32) dX0_fill_22 (by decide) ?_
    refine J_icmp_ge hX 138 dX0_fill_25 (by decide) h (fun c h => ?_) (fun c h => ?_)
    · refine J_aload_n hX dX0_fill_28 rfl 0 rfl ?_
      refine J_getR hX dX0_fill_29 fl_RX0_9 (ltn ltc_17 hn) lo_17 rfl (rt_17_0 _ _ _ _ _) ?_
      refine J_getI hX dX0_fill_32 fl_RX0_29 (ltn ltc_1 hn) lo_1 rfl ?_
      refine J_if_ne hX 138 dX0_fill_35 (by decide) h (fun c h => ?_) (fun c h => ?_)
      · refine J_aload_n hX dX0_fill_38 rfl 0 rfl ?_
        refine J_getR hX dX0_fill_39 fl_RX0_9 (ltn ltc_17 hn) lo_17 rfl (rt_17_0 _ _ _ _ _) ?_
        refine J_getI hX dX0_fill_42 fl_RX0_33 (ltn ltc_1 hn) lo_1 rfl ?_
        refine J_if_eq hX 138 dX0_fill_45 (by decide) h (fun c h => ?_) (fun c h => ?_)
        · refine J_aload_n hX dX0_fill_138 rfl 0 rfl ?_
          refine J_getR hX dX0_fill_139 fl_RX0_9 (ltn ltc_17 hn) lo_17 rfl (rt_17_0 _ _ _ _ _) ?_
          refine J_getI hX dX0_fill_142 fl_RX0_29 (ltn ltc_1 hn) lo_1 rfl ?_
          exact J_ireturn hX dX0_fill_145 h hF rfl
        · refine J_aload_n hX dX0_fill_48 rfl 0 rfl ?_
          refine J_getR hX dX0_fill_49 fl_RX0_9 (ltn ltc_17 hn) lo_17 rfl (rt_17_0 _ _ _ _ _) ?_
          refine J_ldcS hX (k := 0) dX0_fill_52 rfl ?_
          obtain ⟨r5, m4, h0, h⟩ := bd2_some h
          refine J_callVi (As := [.ref 1000]) (st := []) hX dX0_fill_54 cw_RX0_38 (by omega) (c_X7_isWord hn p_isTx_1000 h0) (ltn ltc_1 hn) lo_1 (by decide) rfl rfl rfl (Nat.le_of_ble_eq_true rfl) ?_
          clear h0
          refine J_if_eq hX 67 dX0_fill_57 (by decide) h (fun c h => ?_) (fun c h => ?_)
          · refine J_aload_n hX dX0_fill_67 rfl 0 rfl ?_
            refine J_getR hX dX0_fill_68 fl_RX0_9 (ltn ltc_17 hn) lo_17 rfl (rt_17_0 _ _ _ _ _) ?_
            refine J_ldcS hX (k := 1) dX0_fill_71 rfl ?_
            obtain ⟨r7, m6, h0, h⟩ := bd2_some h
            refine J_callVi (As := [.ref 1001]) (st := []) hX dX0_fill_73 cw_RX0_38 (by omega) (c_X7_isWord hn p_isTx_1001 h0) (ltn ltc_1 hn) lo_1 (by decide) rfl rfl rfl (Nat.le_of_ble_eq_true rfl) ?_
            clear h0
            refine J_if_eq hX 86 dX0_fill_76 (by decide) h (fun c h => ?_) (fun c h => ?_)
            · refine J_aload_n hX dX0_fill_86 rfl 0 rfl ?_
              refine J_getR hX dX0_fill_87 fl_RX0_9 (ltn ltc_17 hn) lo_17 rfl (rt_17_0 _ _ _ _ _) ?_
              refine J_ldcS hX (k := 2) dX0_fill_90 rfl ?_
              obtain ⟨r9, m8, h0, h⟩ := bd2_some h
              refine J_callVi (As := [.ref 1002]) (st := []) hX dX0_fill_92 cw_RX0_38 (by omega) (c_X7_isWord hn p_isTx_1002 h0) (ltn ltc_1 hn) lo_1 (by decide) rfl rfl rfl (Nat.le_of_ble_eq_true rfl) ?_
              clear h0
              refine J_if_eq hX 105 dX0_fill_95 (by decide) h (fun c h => ?_) (fun c h => ?_)
              · refine J_aload_n hX dX0_fill_105 rfl 0 rfl ?_
                refine J_getR hX dX0_fill_106 fl_RX0_9 (ltn ltc_17 hn) lo_17 rfl (rt_17_0 _ _ _ _ _) ?_
                refine J_ldcS hX (k := 3) dX0_fill_109 rfl ?_
                obtain ⟨r11, m10, h0, h⟩ := bd2_some h
                refine J_callVi (As := [.ref 1003]) (st := []) hX dX0_fill_111 cw_RX0_38 (by omega) (c_X7_isWord hn p_isTx_1003 h0) (ltn ltc_1 hn) lo_1 (by decide) rfl rfl rfl (Nat.le_of_ble_eq_true rfl) ?_
                clear h0
                refine J_if_eq hX 124 dX0_fill_114 (by decide) h (fun c h => ?_) (fun c h => ?_)
                · refine J_aload_n hX dX0_fill_124 rfl 0 rfl ?_
                  refine J_getR hX dX0_fill_125 fl_RX0_9 (ltn ltc_17 hn) lo_17 rfl (rt_17_0 _ _ _ _ _) ?_
                  refine J_iconst hX (1 : Int32) dX0_fill_128 ic_1 ?_
                  obtain ⟨m12, h0, h⟩ := bd1_some h
                  refine J_callVv (As := [.int (1 : Int32)]) (st := []) hX dX0_fill_129 cw_RX0_60 (by omega) (c_X7_fail hn  h0) (ltn ltc_1 hn) lo_1 (by decide) rfl rfl rfl (Nat.le_of_ble_eq_true rfl) ?_
                  clear h0
                  refine J_iinc hX (v2 + (1 : Int32)) [(2, .int (v2 + (1 : Int32))), (0, .ref 17)] dX0_fill_132 1 rfl (congrArg (fun z => v2 + z) ic_1) (by decide) rfl ?_
                  refine J_goto hX 21 dX0_fill_135 (by decide) ?_
                  refine J_sub [(0, .ref 17), (2, .int (v2 + (1 : Int32)))] [1, 0] rfl ?_
                  exact ih (v2 + (1 : Int32)) m12 h
                · refine J_aload_n hX dX0_fill_117 rfl 0 rfl ?_
                  obtain ⟨m13, h0, h⟩ := bd1_some h
                  refine J_callVv (As := []) (st := []) hX dX0_fill_118 cw_RX0_57 (by omega) (c_X0_speedLine hn hb h0) (ltn ltc_17 hn) lo_17 (by decide) rfl rfl rfl (Nat.le_of_ble_eq_true rfl) ?_
                  clear h0
                  refine J_goto hX 132 dX0_fill_121 (by decide) ?_
                  refine J_iinc hX (v2 + (1 : Int32)) [(2, .int (v2 + (1 : Int32))), (0, .ref 17)] dX0_fill_132 1 rfl (congrArg (fun z => v2 + z) ic_1) (by decide) rfl ?_
                  refine J_goto hX 21 dX0_fill_135 (by decide) ?_
                  refine J_sub [(0, .ref 17), (2, .int (v2 + (1 : Int32)))] [1, 0] rfl ?_
                  exact ih (v2 + (1 : Int32)) m13 h
              · refine J_aload_n hX dX0_fill_98 rfl 0 rfl ?_
                obtain ⟨m14, h0, h⟩ := bd1_some h
                refine J_callVv (As := []) (st := []) hX dX0_fill_99 cw_RX0_52 (by omega) (c_X0_parityLine hn hb h0) (ltn ltc_17 hn) lo_17 (by decide) rfl rfl rfl (Nat.le_of_ble_eq_true rfl) ?_
                clear h0
                refine J_goto hX 132 dX0_fill_102 (by decide) ?_
                refine J_iinc hX (v2 + (1 : Int32)) [(2, .int (v2 + (1 : Int32))), (0, .ref 17)] dX0_fill_132 1 rfl (congrArg (fun z => v2 + z) ic_1) (by decide) rfl ?_
                refine J_goto hX 21 dX0_fill_135 (by decide) ?_
                refine J_sub [(0, .ref 17), (2, .int (v2 + (1 : Int32)))] [1, 0] rfl ?_
                exact ih (v2 + (1 : Int32)) m14 h
            · refine J_aload_n hX dX0_fill_79 rfl 0 rfl ?_
              obtain ⟨m15, h0, h⟩ := bd1_some h
              refine J_callVv (As := []) (st := []) hX dX0_fill_80 cw_RX0_47 (by omega) (c_X0_blockLine hn hb h0) (ltn ltc_17 hn) lo_17 (by decide) rfl rfl rfl (Nat.le_of_ble_eq_true rfl) ?_
              clear h0
              refine J_goto hX 132 dX0_fill_83 (by decide) ?_
              refine J_iinc hX (v2 + (1 : Int32)) [(2, .int (v2 + (1 : Int32))), (0, .ref 17)] dX0_fill_132 1 rfl (congrArg (fun z => v2 + z) ic_1) (by decide) rfl ?_
              refine J_goto hX 21 dX0_fill_135 (by decide) ?_
              refine J_sub [(0, .ref 17), (2, .int (v2 + (1 : Int32)))] [1, 0] rfl ?_
              exact ih (v2 + (1 : Int32)) m15 h
          · refine J_aload_n hX dX0_fill_60 rfl 0 rfl ?_
            obtain ⟨m16, h0, h⟩ := bd1_some h
            refine J_callVv (As := []) (st := []) hX dX0_fill_61 cw_RX0_42 (by omega) (c_X0_disksLine hn hb h0) (ltn ltc_17 hn) lo_17 (by decide) rfl rfl rfl (Nat.le_of_ble_eq_true rfl) ?_
            clear h0
            refine J_goto hX 132 dX0_fill_64 (by decide) ?_
            refine J_iinc hX (v2 + (1 : Int32)) [(2, .int (v2 + (1 : Int32))), (0, .ref 17)] dX0_fill_132 1 rfl (congrArg (fun z => v2 + z) ic_1) (by decide) rfl ?_
            refine J_goto hX 21 dX0_fill_135 (by decide) ?_
            refine J_sub [(0, .ref 17), (2, .int (v2 + (1 : Int32)))] [1, 0] rfl ?_
            exact ih (v2 + (1 : Int32)) m16 h
      · refine J_aload_n hX dX0_fill_138 rfl 0 rfl ?_
        refine J_getR hX dX0_fill_139 fl_RX0_9 (ltn ltc_17 hn) lo_17 rfl (rt_17_0 _ _ _ _ _) ?_
        refine J_getI hX dX0_fill_142 fl_RX0_29 (ltn ltc_1 hn) lo_1 rfl ?_
        exact J_ireturn hX dX0_fill_145 h hF rfl
    · refine J_aload_n hX dX0_fill_138 rfl 0 rfl ?_
      refine J_getR hX dX0_fill_139 fl_RX0_9 (ltn ltc_17 hn) lo_17 rfl (rt_17_0 _ _ _ _ _) ?_
      refine J_getI hX dX0_fill_142 fl_RX0_29 (ltn ltc_1 hn) lo_1 rfl ?_
      exact J_ireturn hX dX0_fill_145 h hF rfl
theorem t_X0_fill {X : XX} {G : GG} {ρ : Nat → Nat} {n t u w v : Nat} {x : Option Nat} {d : Nat} {b : Nat} (hX : Ok X G ρ cX0_fill 3 RX0 d) (hd0 : 72 ≤ d) (hn : 126 ≤ n) (hb : isTo b) {rE : Int32} {mE : Mm} (hF : Fin' X G ρ n (some .int) (some (.int rE)) (RT t u w v (some b)) mE) {m : Mm} (h : f_X0_fill b m = some (rE, mE)) : J X G ρ n 3 0 [(0, .ref 17), (1, .ref b)] [] (RT t u w v x) m := by
  unfold f_X0_fill at h
  refine J_aload_n hX dX0_fill_0 rfl 0 rfl ?_
  refine J_aload_n hX dX0_fill_1 rfl 1 rfl ?_
  refine J_putR (RT t u w v (some b)) hX dX0_fill_2 pl_RX0_15 (ltn ltc_17 hn) lo_17 rfl rfl RT_x ?_
  refine J_aload_n hX dX0_fill_5 rfl 0 rfl ?_
  refine J_getR hX dX0_fill_6 fl_RX0_15 (ltn ltc_17 hn) lo_17 rfl (rt_17_1 _ _ _ _ _) ?_
  obtain ⟨m2, h0, h⟩ := bd1_some h
  refine J_callVv (As := []) (st := []) hX dX0_fill_9 cw_RX0_19 (by omega) (c_X8_clear hn hb h0) (ltn (lt_isTo_0 hb) hn) (lo_isTo_0 hb) (by decide) rfl rfl rfl (Nat.le_of_ble_eq_true rfl) ?_
  clear h0
  refine J_aload_n hX dX0_fill_12 rfl 0 rfl ?_
  refine J_getR hX dX0_fill_13 fl_RX0_9 (ltn ltc_17 hn) lo_17 rfl (rt_17_0 _ _ _ _ _) ?_
  obtain ⟨m3, h0, h⟩ := bd1_some h
  refine J_callVv (As := []) (st := []) hX dX0_fill_16 cw_RX0_24 (by omega) (c_X7_rewind hn  h0) (ltn ltc_1 hn) lo_1 (by decide) rfl rfl rfl (Nat.le_of_ble_eq_true rfl) ?_
  clear h0
  refine J_iconst hX (0 : Int32) dX0_fill_19 ic_0 ?_
  refine J_istore_n hX [(2, .int (0 : Int32)), (0, .ref 17), (1, .ref b)] dX0_fill_20 rfl (by decide) rfl ?_
  refine J_sub [(0, .ref 17), (2, .int (0 : Int32))] [1, 0] rfl ?_
  exact t_X0_fill_L21 hX hd0 hn hb hF FU (0 : Int32)  m3 h
theorem c_X0_fill {G : GG} {l : Launch} {ρ : Nat → Nat} {n t u w v : Nat} {x : Option Nat} (hn : 126 ≤ n) {b : Nat} (hb : isTo b) {m : Mm} {rE : Int32} {mE : Mm} (h : f_X0_fill b m = some (rE, mE)) : CT G l yX0_fill cX0_fill 3 (some .int) 72 0 0 ρ n (RT t u w v x) [.ref 17, .ref b] m (some (.int rE)) (RT t u w v (some b)) mE := ct_of_J (by decide) rfl (Nat.le_of_ble_eq_true rfl) (fun X hX e1 e2 e3 e4 hQ hr hl => t_X0_fill hX (Nat.le_refl _) hn hb ⟨by rw [hQ, e3, e4], hr, hl⟩ h)
theorem t_X4_build_L71 {X : XX} {G : GG} {ρ : Nat → Nat} {n t u w v : Nat} {x : Option Nat} {d : Nat} {a : Nat} {p1 : Nat} (hX : Ok X G ρ cX4_build 6 RX4 d) (hd0 : 4 ≤ d) (hn : 126 ≤ n) (ha : isLa a) (hp1 : isTo p1) {rE : Int32} {mE : Mm} (hF : Fin' X G ρ n (some .boolean) (some (.int rE)) (RT t u w v x) mE) : ∀ (k : Nat) (v3 : Int32) (m : Mm), f_X4_build_L71 a p1 k v3 m = some (rE, mE) → J X G ρ n 6 71 [(0, .ref a), (3, .int v3)] [] (RT t u w v x) m := by
  intro k
  induction k with
  | zero => intro _ _ h; rw [f_X4_build_L71] at h; cases h
  | succ k ih =>
    intro v3 m h
    rw [f_X4_build_L71] at h
    refine J_iload_n hX dX4_build_71 rfl 1 rfl ?_
    refine J_aload_n hX dX4_build_72 rfl 0 rfl ?_
    refine J_getI hX dX4_build_73 fl_RX4_72 (ltn (lt_isLa_0 ha) hn) (lo_isLa_0 ha) rfl ?_
    refine J_icmp_ge hX 90 dX4_build_76 (by decide) h (fun c h => ?_) (fun c h => ?_)
    · refine J_aload_n hX dX4_build_79 rfl 0 rfl ?_
      refine J_iload_n hX dX4_build_80 rfl 1 rfl ?_
      obtain ⟨m4, h0, h⟩ := bd1_some h
      refine J_callVv (As := [.int v3]) (st := []) hX dX4_build_81 cw_RX4_75 (by omega) (c_X4_addSpare hn ha h0) (ltn (lt_isLa_0 ha) hn) (lo_isLa_0 ha) (by decide) rfl rfl rfl (Nat.le_of_ble_eq_true rfl) ?_
      clear h0
      refine J_iinc hX (v3 + (1 : Int32)) [(3, .int (v3 + (1 : Int32))), (0, .ref a)] dX4_build_84 1 rfl (congrArg (fun z => v3 + z) ic_1) (by decide) rfl ?_
      refine J_goto hX 71 dX4_build_87 (by decide) ?_
      refine J_sub [(0, .ref a), (3, .int (v3 + (1 : Int32)))] [1, 0] rfl ?_
      exact ih (v3 + (1 : Int32)) m4 h
    · refine J_iconst hX (1 : Int32) dX4_build_90 ic_1 ?_
      exact J_ireturn hX dX4_build_91 h hF narrow_b1
theorem t_X4_build_L42 {X : XX} {G : GG} {ρ : Nat → Nat} {n t u w v : Nat} {x : Option Nat} {d : Nat} {a : Nat} {p1 : Nat} (hX : Ok X G ρ cX4_build 6 RX4 d) (hd0 : 4 ≤ d) (hn : 126 ≤ n) (ha : isLa a) (hp1 : isTo p1) {rE : Int32} {mE : Mm} (hF : Fin' X G ρ n (some .boolean) (some (.int rE)) (RT t u w v x) mE) {v2 : Int32} {v3 : Int32} {v4 : Int32} {K : Mm → Option (Int32 × Mm)} (hK : ∀ (m : Mm), K m = some (rE, mE) → J X G ρ n 6 63 [(0, .ref a), (1, .ref p1), (2, .int v2), (3, .int v3)] [] (RT t u w v x) m) : ∀ (k : Nat) (v5 : Int32) (m : Mm), f_X4_build_L42 a p1 v2 v3 v4 K k v5 m = some (rE, mE) → J X G ρ n 6 42 [(0, .ref a), (1, .ref p1), (2, .int v2), (3, .int v3), (4, .int v4), (5, .int v5)] [] (RT t u w v x) m := by
  intro k
  induction k with
  | zero => intro _ _ h; rw [f_X4_build_L42] at h; cases h
  | succ k ih =>
    intro v5 m h
    rw [f_X4_build_L42] at h
    refine J_iload hX dX4_build_42 5 rfl ?_
    refine J_iload hX dX4_build_44 4 rfl ?_
    refine J_icmp_ge hX 63 dX4_build_46 (by decide) h (fun c h => ?_) (fun c h => ?_)
    · refine J_aload_n hX dX4_build_49 rfl 0 rfl ?_
      refine J_aload_n hX dX4_build_50 rfl 1 rfl ?_
      refine J_iload_n hX dX4_build_51 rfl 3 rfl ?_
      refine J_iload hX dX4_build_52 5 rfl ?_
      obtain ⟨m7, h0, h⟩ := bd1_some h
      refine J_callVv (As := [.ref p1, .int v3, .int v5]) (st := []) hX dX4_build_54 cw_RX4_68 (by omega) (c_X4_addStripe hn ha hp1 h0) (ltn (lt_isLa_0 ha) hn) (lo_isLa_0 ha) (by decide) rfl rfl rfl (Nat.le_of_ble_eq_true rfl) ?_
      clear h0
      refine J_iinc hX (v5 + (1 : Int32)) [(5, .int (v5 + (1 : Int32))), (0, .ref a), (1, .ref p1), (2, .int v2), (3, .int v3), (4, .int v4)] dX4_build_57 5 rfl (congrArg (fun z => v5 + z) ic_1) (by decide) rfl ?_
      refine J_goto hX 42 dX4_build_60 (by decide) ?_
      refine J_sub [(0, .ref a), (1, .ref p1), (2, .int v2), (3, .int v3), (4, .int v4), (5, .int (v5 + (1 : Int32)))] [1, 2, 3, 4, 5, 0] rfl ?_
      exact ih (v5 + (1 : Int32)) m7 h
    · refine J_sub [(0, .ref a), (1, .ref p1), (2, .int v2), (3, .int v3)] [0, 1, 2, 3] rfl ?_
      exact hK  m h
theorem t_X4_build_L23 {X : XX} {G : GG} {ρ : Nat → Nat} {n t u w v : Nat} {x : Option Nat} {d : Nat} {a : Nat} {p1 : Nat} (hX : Ok X G ρ cX4_build 6 RX4 d) (hd0 : 4 ≤ d) (hn : 126 ≤ n) (ha : isLa a) (hp1 : isTo p1) {rE : Int32} {mE : Mm} (hF : Fin' X G ρ n (some .boolean) (some (.int rE)) (RT t u w v x) mE) : ∀ (k : Nat) (v2 : Int32) (v3 : Int32) (m : Mm), f_X4_build_L23 a p1 k v2 v3 m = some (rE, mE) → J X G ρ n 6 23 [(0, .ref a), (1, .ref p1), (2, .int v2), (3, .int v3)] [] (RT t u w v x) m := by
  intro k
  induction k with
  | zero => intro _ _ _ h; rw [f_X4_build_L23] at h; cases h
  | succ k ih =>
    intro v2 v3 m h
    rw [f_X4_build_L23] at h
    refine J_iload_n hX dX4_build_23 rfl 3 rfl ?_
    refine J_aload_n hX dX4_build_24 rfl 1 rfl ?_
    refine J_getI hX dX4_build_25 fl_RX4_55 (ltn (lt_isTo_0 hp1) hn) (lo_isTo_0 hp1) rfl ?_
    refine J_icmp_ge hX 69 dX4_build_28 (by decide) h (fun c h => ?_) (fun c h => ?_)
    · refine J_aload_n hX dX4_build_31 rfl 1 rfl ?_
      refine J_iload_n hX dX4_build_32 rfl 3 rfl ?_
      refine J_iload_n hX dX4_build_33 rfl 2 rfl ?_
      obtain ⟨r6, m5, h0, h⟩ := bd2_some h
      refine J_callVi (As := [.int v3, .int v2]) (st := []) hX dX4_build_34 cw_RX4_65 (by omega) (c_X8_stripesOf hn hp1 h0) (ltn (lt_isTo_0 hp1) hn) (lo_isTo_0 hp1) (by decide) rfl rfl rfl (Nat.le_of_ble_eq_true rfl) ?_
      clear h0
      refine J_istore hX [(4, .int r6), (0, .ref a), (1, .ref p1), (2, .int v2), (3, .int v3)] dX4_build_37 (by decide) rfl ?_
      refine J_iconst hX (0 : Int32) dX4_build_39 ic_0 ?_
      refine J_istore hX [(5, .int (0 : Int32)), (4, .int r6), (0, .ref a), (1, .ref p1), (2, .int v2), (3, .int v3)] dX4_build_40 (by decide) rfl ?_
      refine J_sub [(0, .ref a), (1, .ref p1), (2, .int v2), (3, .int v3), (4, .int r6), (5, .int (0 : Int32))] [2, 3, 4, 5, 1, 0] rfl ?_
      refine t_X4_build_L42 hX hd0 hn ha hp1 hF (fun m8 h => ?_) FU (0 : Int32) m5 h
      refine J_iinc hX (v3 + (1 : Int32)) [(3, .int (v3 + (1 : Int32))), (0, .ref a), (1, .ref p1), (2, .int v2)] dX4_build_63 3 rfl (congrArg (fun z => v3 + z) ic_1) (by decide) rfl ?_
      refine J_goto hX 23 dX4_build_66 (by decide) ?_
      refine J_sub [(0, .ref a), (1, .ref p1), (2, .int v2), (3, .int (v3 + (1 : Int32)))] [1, 2, 3, 0] rfl ?_
      exact ih v2 (v3 + (1 : Int32)) m8 h
    · refine J_iconst hX (0 : Int32) dX4_build_69 ic_0 ?_
      refine J_istore_n hX [(3, .int (0 : Int32)), (0, .ref a), (1, .ref p1), (2, .int v2)] dX4_build_70 rfl (by decide) rfl ?_
      refine J_sub [(0, .ref a), (3, .int (0 : Int32))] [1, 0] rfl ?_
      exact t_X4_build_L71 hX hd0 hn ha hp1 hF FU (0 : Int32)  m h
theorem t_X4_build {X : XX} {G : GG} {ρ : Nat → Nat} {n t u w v : Nat} {x : Option Nat} {d : Nat} {a : Nat} {p1 : Nat} (hX : Ok X G ρ cX4_build 6 RX4 d) (hd0 : 4 ≤ d) (hn : 126 ≤ n) (ha : isLa a) (hp1 : isTo p1) {rE : Int32} {mE : Mm} (hF : Fin' X G ρ n (some .boolean) (some (.int rE)) (RT t u w v x) mE) {x2 : Int32} {m : Mm} (h : f_X4_build a p1 x2 m = some (rE, mE)) : J X G ρ n 6 0 [(0, .ref a), (1, .ref p1), (2, .int x2)] [] (RT t u w v x) m := by
  unfold f_X4_build at h
  refine J_aload_n hX dX4_build_0 rfl 0 rfl ?_
  refine J_iload_n hX dX4_build_1 rfl 2 rfl ?_
  obtain ⟨m1, h0, h⟩ := bd1_some h
  refine J_callVv (As := [.int x2]) (st := []) hX dX4_build_2 cw_RX4_51 (by omega) (c_X4_clear hn ha h0) (ltn (lt_isLa_0 ha) hn) (lo_isLa_0 ha) (by decide) rfl rfl rfl (Nat.le_of_ble_eq_true rfl) ?_
  clear h0
  refine J_aload_n hX dX4_build_5 rfl 1 rfl ?_
  refine J_aload_n hX dX4_build_6 rfl 1 rfl ?_
  refine J_getI hX dX4_build_7 fl_RX4_55 (ltn (lt_isTo_0 hp1) hn) (lo_isTo_0 hp1) rfl ?_
  refine J_iload_n hX dX4_build_10 rfl 2 rfl ?_
  obtain ⟨r3, m2, h0, h⟩ := bd2_some h
  refine J_callVi (As := [.int (gI m1 p1 2), .int x2]) (st := []) hX dX4_build_11 cw_RX4_61 (by omega) (c_X8_stripesOfAll hn hp1 h0) (ltn (lt_isTo_0 hp1) hn) (lo_isTo_0 hp1) (by decide) rfl rfl rfl (Nat.le_of_ble_eq_true rfl) ?_
  clear h0
  refine J_bipush hX (40 : Int32) dX4_build_14 (by decide) ?_
  refine J_icmp_le hX 21 dX4_build_16 (by decide) h (fun c h => ?_) (fun c h => ?_)
  · refine J_iconst hX (0 : Int32) dX4_build_19 ic_0 ?_
    exact J_ireturn hX dX4_build_20 h hF narrow_b0
  · refine J_iconst hX (0 : Int32) dX4_build_21 ic_0 ?_
    refine J_istore_n hX [(3, .int (0 : Int32)), (0, .ref a), (1, .ref p1), (2, .int x2)] dX4_build_22 rfl (by decide) rfl ?_
    refine J_sub [(0, .ref a), (1, .ref p1), (2, .int x2), (3, .int (0 : Int32))] [1, 2, 3, 0] rfl ?_
    exact t_X4_build_L23 hX hd0 hn ha hp1 hF FU x2 (0 : Int32)  m2 h
theorem c_X4_build {G : GG} {l : Launch} {ρ : Nat → Nat} {n t u w v : Nat} {x : Option Nat} (hn : 126 ≤ n) {a : Nat} {p1 : Nat} (ha : isLa a) (hp1 : isTo p1) {x2 : Int32} {m : Mm} {rE : Int32} {mE : Mm} (h : f_X4_build a p1 x2 m = some (rE, mE)) : CT G l yX4_build cX4_build 6 (some .boolean) 4 0 0 ρ n (RT t u w v x) [.ref a, .ref p1, .int x2] m (some (.int rE)) (RT t u w v x) mE := ct_of_J (by decide) rfl (Nat.le_of_ble_eq_true rfl) (fun X hX e1 e2 e3 e4 hQ hr hl => t_X4_build hX (Nat.le_refl _) hn ha hp1 ⟨by rw [hQ, e3, e4], hr, hl⟩ h)
theorem t_X6_begin_L56 {X : XX} {G : GG} {ρ : Nat → Nat} {n t u w v : Nat} {x : Option Nat} {d : Nat} {a : Nat} (hX : Ok X G ρ cX6_begin 2 RX6 d) (hd0 : 0 ≤ d) (hn : 126 ≤ n) (ha : isSt a) {mE : Mm} (hF : Fin' X G ρ n none none (RT t u w v x) mE) : ∀ (k : Nat) (v1 : Int32) (m : Mm), f_X6_begin_L56 a k v1 m = some mE → J X G ρ n 2 56 [(0, .ref a), (1, .int v1)] [] (RT t u w v x) m := by
  intro k
  induction k with
  | zero => intro _ _ h; rw [f_X6_begin_L56] at h; cases h
  | succ k ih =>
    intro v1 m h
    rw [f_X6_begin_L56] at h
    refine J_iload_n hX dX6_begin_56 rfl 1 rfl ?_
    refine J_bipush hX (13 : Int32) dX6_begin_57 (by decide) ?_
    refine J_icmp_ge hX 75 dX6_begin_59 (by decide) h (fun c h => ?_) (fun c h => ?_)
    · refine J_aload_n hX dX6_begin_62 rfl 0 rfl ?_
      refine J_getR hX dX6_begin_63 fl_RX6_18 (ltn (lt_isSt_0 ha) hn) (lo_isSt_0 ha) rfl (rt_isSt_0_4 _ _ _ _ _ ha) ?_
      refine J_iload_n hX dX6_begin_66 rfl 1 rfl ?_
      refine J_iconst hX (0 : Int32) dX6_begin_67 ic_0 ?_
      refine J_iastore hX dX6_begin_68 (ltn (lt_isSt_3 ha) hn) (lay_isSt_3 ha) h (fun m4 h => ?_)
      refine J_iinc hX (v1 + (1 : Int32)) [(1, .int (v1 + (1 : Int32))), (0, .ref a)] dX6_begin_69 1 rfl (congrArg (fun z => v1 + z) ic_1) (by decide) rfl ?_
      refine J_goto hX 56 dX6_begin_72 (by decide) ?_
      refine J_sub [(0, .ref a), (1, .int (v1 + (1 : Int32)))] [1, 0] rfl ?_
      exact ih (v1 + (1 : Int32)) m4 h
    · exact J_return hX dX6_begin_75 h hF
theorem t_X6_begin_L27 {X : XX} {G : GG} {ρ : Nat → Nat} {n t u w v : Nat} {x : Option Nat} {d : Nat} {a : Nat} (hX : Ok X G ρ cX6_begin 2 RX6 d) (hd0 : 0 ≤ d) (hn : 126 ≤ n) (ha : isSt a) {mE : Mm} (hF : Fin' X G ρ n none none (RT t u w v x) mE) : ∀ (k : Nat) (v1 : Int32) (m : Mm), f_X6_begin_L27 a k v1 m = some mE → J X G ρ n 2 27 [(0, .ref a), (1, .int v1)] [] (RT t u w v x) m := by
  intro k
  induction k with
  | zero => intro _ _ h; rw [f_X6_begin_L27] at h; cases h
  | succ k ih =>
    intro v1 m h
    rw [f_X6_begin_L27] at h
    refine J_iload_n hX dX6_begin_27 rfl 1 rfl ?_
    refine J_sipush hX (200 : Int32) dX6_begin_28 (by decide) ?_
    refine J_icmp_ge hX 54 dX6_begin_31 (by decide) h (fun c h => ?_) (fun c h => ?_)
    · refine J_aload_n hX dX6_begin_34 rfl 0 rfl ?_
      refine J_getR hX dX6_begin_35 fl_RX6_9 (ltn (lt_isSt_0 ha) hn) (lo_isSt_0 ha) rfl (rt_isSt_0_2 _ _ _ _ _ ha) ?_
      refine J_iload_n hX dX6_begin_38 rfl 1 rfl ?_
      refine J_iconst hX (0 : Int32) dX6_begin_39 ic_0 ?_
      refine J_iastore hX dX6_begin_40 (ltn (lt_isSt_1 ha) hn) (lay_isSt_1 ha) h (fun m5 h => ?_)
      refine J_aload_n hX dX6_begin_41 rfl 0 rfl ?_
      refine J_getR hX dX6_begin_42 fl_RX6_15 (ltn (lt_isSt_0 ha) hn) (lo_isSt_0 ha) rfl (rt_isSt_0_3 _ _ _ _ _ ha) ?_
      refine J_iload_n hX dX6_begin_45 rfl 1 rfl ?_
      refine J_iconst hX (0 : Int32) dX6_begin_46 ic_0 ?_
      refine J_iastore hX dX6_begin_47 (ltn (lt_isSt_2 ha) hn) (lay_isSt_2 ha) h (fun m6 h => ?_)
      refine J_iinc hX (v1 + (1 : Int32)) [(1, .int (v1 + (1 : Int32))), (0, .ref a)] dX6_begin_48 1 rfl (congrArg (fun z => v1 + z) ic_1) (by decide) rfl ?_
      refine J_goto hX 27 dX6_begin_51 (by decide) ?_
      refine J_sub [(0, .ref a), (1, .int (v1 + (1 : Int32)))] [1, 0] rfl ?_
      exact ih (v1 + (1 : Int32)) m6 h
    · refine J_iconst hX (0 : Int32) dX6_begin_54 ic_0 ?_
      refine J_istore_n hX [(1, .int (0 : Int32)), (0, .ref a)] dX6_begin_55 rfl (by decide) rfl ?_
      refine J_sub [(0, .ref a), (1, .int (0 : Int32))] [1, 0] rfl ?_
      exact t_X6_begin_L56 hX hd0 hn ha hF FU (0 : Int32)  m h
theorem t_X6_begin {X : XX} {G : GG} {ρ : Nat → Nat} {n t u w v : Nat} {x : Option Nat} {d : Nat} {a : Nat} (hX : Ok X G ρ cX6_begin 2 RX6 d) (hd0 : 0 ≤ d) (hn : 126 ≤ n) (ha : isSt a) {mE : Mm} (hF : Fin' X G ρ n none none (RT t u w v x) mE) {m : Mm} (h : f_X6_begin a m = some mE) : J X G ρ n 2 0 [(0, .ref a)] [] (RT t u w v x) m := by
  unfold f_X6_begin at h
  refine J_aload_n hX dX6_begin_0 rfl 0 rfl ?_
  refine J_iconst hX (1 : Int32) dX6_begin_1 ic_1 ?_
  refine J_aload_n hX dX6_begin_2 rfl 0 rfl ?_
  refine J_getR hX dX6_begin_3 fl_RX6_24 (ltn (lt_isSt_0 ha) hn) (lo_isSt_0 ha) rfl (rt_isSt_0_0 _ _ _ _ _ ha) ?_
  refine J_getI hX dX6_begin_6 fl_RX6_28 (ltn ltc_26 hn) lo_26 rfl ?_
  refine J_ishl hX dX6_begin_9 ?_
  refine J_iconst hX (1 : Int32) dX6_begin_10 ic_1 ?_
  refine J_isub hX dX6_begin_11 ?_
  refine J_putI hX dX6_begin_12 pl_RX6_34 (ltn (lt_isSt_0 ha) hn) (lo_isSt_0 ha) rfl rfl rfl h (fun m1 h => ?_)
  refine J_aload_n hX dX6_begin_15 rfl 0 rfl ?_
  refine J_iconst hX (0 : Int32) dX6_begin_16 ic_0 ?_
  refine J_putI hX dX6_begin_17 pl_RX6_37 (ltn (lt_isSt_0 ha) hn) (lo_isSt_0 ha) rfl rfl rfl h (fun m2 h => ?_)
  refine J_aload_n hX dX6_begin_20 rfl 0 rfl ?_
  refine J_iconst hX (0 : Int32) dX6_begin_21 ic_0 ?_
  refine J_putI hX dX6_begin_22 pl_RX6_40 (ltn (lt_isSt_0 ha) hn) (lo_isSt_0 ha) rfl rfl rfl h (fun m3 h => ?_)
  refine J_iconst hX (0 : Int32) dX6_begin_25 ic_0 ?_
  refine J_istore_n hX [(1, .int (0 : Int32)), (0, .ref a)] dX6_begin_26 rfl (by decide) rfl ?_
  refine J_sub [(0, .ref a), (1, .int (0 : Int32))] [1, 0] rfl ?_
  exact t_X6_begin_L27 hX hd0 hn ha hF FU (0 : Int32)  m3 h
theorem c_X6_begin {G : GG} {l : Launch} {ρ : Nat → Nat} {n t u w v : Nat} {x : Option Nat} (hn : 126 ≤ n) {a : Nat} (ha : isSt a) {m : Mm} {mE : Mm} (h : f_X6_begin a m = some mE) : CT G l yX6_begin cX6_begin 2 none 0 0 0 ρ n (RT t u w v x) [.ref a] m none (RT t u w v x) mE := ct_of_J (by decide) rfl (Nat.le_of_ble_eq_true rfl) (fun X hX e1 e2 e3 e4 hQ hr hl => t_X6_begin hX (Nat.le_refl _) hn ha ⟨by rw [hQ, e3, e4], hr, hl⟩ h)
theorem t_X9_fill_L14 {X : XX} {G : GG} {ρ : Nat → Nat} {n t u w v : Nat} {x : Option Nat} {d : Nat} {a : Nat} (hX : Ok X G ρ cX9_fill 5 RX9 d) (hd0 : 8 ≤ d) (hn : 126 ≤ n) (ha : isWk a) {rE : Int32} {mE : Mm} (hF : Fin' X G ρ n (some .int) (some (.int rE)) (RT t u w v x) mE) : ∀ (k : Nat) (v1 : Int32) (v2 : Int32) (v3 : Int32) (m : Mm), f_X9_fill_L14 a k v1 v2 v3 m = some (rE, mE) → J X G ρ n 5 14 [(0, .ref a), (1, .int v1), (2, .int v2), (3, .int v3)] [] (RT t u w v x) m := by
  intro k
  induction k with
  | zero => intro _ _ _ _ h; rw [f_X9_fill_L14] at h; cases h
  | succ k ih =>
    intro v1 v2 v3 m h
    rw [f_X9_fill_L14] at h
    refine J_iload_n hX dX9_fill_14 rfl 3 rfl ?_
    refine J_sipush hX (1000 : Int32) dX9_fill_15 (by decide) ?_
    refine J_icmp_ge hX 98 dX9_fill_18 (by decide) h (fun c h => ?_) (fun c h => ?_)
    · refine J_aload_n hX dX9_fill_21 rfl 0 rfl ?_
      refine J_getR hX dX9_fill_22 fl_RX9_21 (ltn (lt_isWk_0 ha) hn) (lo_isWk_0 ha) rfl (rt_isWk_0_0 _ _ _ _ _ ha) ?_
      refine J_getI hX dX9_fill_25 fl_RX9_34 (ltn ltc_1 hn) lo_1 rfl ?_
      refine J_if_ne hX 98 dX9_fill_28 (by decide) h (fun c h => ?_) (fun c h => ?_)
      · refine J_aload_n hX dX9_fill_31 rfl 0 rfl ?_
        refine J_getR hX dX9_fill_32 fl_RX9_21 (ltn (lt_isWk_0 ha) hn) (lo_isWk_0 ha) rfl (rt_isWk_0_0 _ _ _ _ _ ha) ?_
        refine J_getI hX dX9_fill_35 fl_RX9_37 (ltn ltc_1 hn) lo_1 rfl ?_
        refine J_if_eq hX 98 dX9_fill_38 (by decide) h (fun c h => ?_) (fun c h => ?_)
        · refine J_aload_n hX dX9_fill_98 rfl 0 rfl ?_
          refine J_getR hX dX9_fill_99 fl_RX9_21 (ltn (lt_isWk_0 ha) hn) (lo_isWk_0 ha) rfl (rt_isWk_0_0 _ _ _ _ _ ha) ?_
          refine J_getI hX dX9_fill_102 fl_RX9_34 (ltn ltc_1 hn) lo_1 rfl ?_
          exact J_ireturn hX dX9_fill_105 h hF rfl
        · refine J_aload_n hX dX9_fill_41 rfl 0 rfl ?_
          obtain ⟨r4, m3, h0, h⟩ := bd2_some h
          refine J_callVi (As := []) (st := []) hX dX9_fill_42 cw_RX9_40 (by omega) (c_X9_verbInHand hn ha h0) (ltn (lt_isWk_0 ha) hn) (lo_isWk_0 ha) (by decide) rfl rfl rfl (Nat.le_of_ble_eq_true rfl) ?_
          clear h0
          refine J_istore hX [(4, .int r4), (0, .ref a), (1, .int v1), (2, .int v2), (3, .int v3)] dX9_fill_45 (by decide) rfl ?_
          refine J_iload hX dX9_fill_47 0 rfl ?_
          refine J_iconst hX (-1 : Int32) dX9_fill_49 ic_m1 ?_
          refine J_icmp_ne hX 64 dX9_fill_50 (by decide) h (fun c h => ?_) (fun c h => ?_)
          · refine J_aload_n hX dX9_fill_53 rfl 1 rfl ?_
            refine J_getR hX dX9_fill_54 fl_RX9_21 (ltn (lt_isWk_0 ha) hn) (lo_isWk_0 ha) rfl (rt_isWk_0_0 _ _ _ _ _ ha) ?_
            refine J_iconst hX (1 : Int32) dX9_fill_57 ic_1 ?_
            obtain ⟨m7, h0, h⟩ := bd1_some h
            refine J_callVv (As := [.int (1 : Int32)]) (st := []) hX dX9_fill_58 cw_RX9_44 (by omega) (c_X7_fail hn  h0) (ltn ltc_1 hn) lo_1 (by decide) rfl rfl rfl (Nat.le_of_ble_eq_true rfl) ?_
            clear h0
            refine J_goto hX 92 dX9_fill_61 (by decide) ?_
            refine J_iinc hX (v3 + (1 : Int32)) [(3, .int (v3 + (1 : Int32))), (4, .int r4), (0, .ref a), (1, .int v1), (2, .int v2)] dX9_fill_92 4 rfl (congrArg (fun z => v3 + z) ic_1) (by decide) rfl ?_
            refine J_goto hX 14 dX9_fill_95 (by decide) ?_
            refine J_sub [(0, .ref a), (1, .int v1), (2, .int v2), (3, .int (v3 + (1 : Int32)))] [2, 3, 4, 0] rfl ?_
            exact ih v1 v2 (v3 + (1 : Int32)) m7 h
          · refine J_aload_n hX dX9_fill_64 rfl 1 rfl ?_
            refine J_getI hX dX9_fill_65 fl_RX9_25 (ltn (lt_isWk_0 ha) hn) (lo_isWk_0 ha) rfl ?_
            refine J_bipush hX (40 : Int32) dX9_fill_68 (by decide) ?_
            refine J_icmp_lt hX 84 dX9_fill_70 (by decide) h (fun c h => ?_) (fun c h => ?_)
            · refine J_aload_n hX dX9_fill_84 rfl 1 rfl ?_
              refine J_iload hX dX9_fill_85 0 rfl ?_
              refine J_iload_n hX dX9_fill_87 rfl 2 rfl ?_
              refine J_iload_n hX dX9_fill_88 rfl 3 rfl ?_
              obtain ⟨m5, h0, h⟩ := bd1_some h
              refine J_callVv (As := [.int r4, .int v1, .int v2]) (st := []) hX dX9_fill_89 cw_RX9_48 (by omega) (c_X9_addLine hn ha h0) (ltn (lt_isWk_0 ha) hn) (lo_isWk_0 ha) (by decide) rfl rfl rfl (Nat.le_of_ble_eq_true rfl) ?_
              clear h0
              refine J_iinc hX (v3 + (1 : Int32)) [(3, .int (v3 + (1 : Int32))), (4, .int r4), (0, .ref a), (1, .int v1), (2, .int v2)] dX9_fill_92 4 rfl (congrArg (fun z => v3 + z) ic_1) (by decide) rfl ?_
              refine J_goto hX 14 dX9_fill_95 (by decide) ?_
              refine J_sub [(0, .ref a), (1, .int v1), (2, .int v2), (3, .int (v3 + (1 : Int32)))] [2, 3, 4, 0] rfl ?_
              exact ih v1 v2 (v3 + (1 : Int32)) m5 h
            · refine J_aload_n hX dX9_fill_73 rfl 1 rfl ?_
              refine J_getR hX dX9_fill_74 fl_RX9_21 (ltn (lt_isWk_0 ha) hn) (lo_isWk_0 ha) rfl (rt_isWk_0_0 _ _ _ _ _ ha) ?_
              refine J_iconst hX (5 : Int32) dX9_fill_77 ic_5 ?_
              obtain ⟨m6, h0, h⟩ := bd1_some h
              refine J_callVv (As := [.int (5 : Int32)]) (st := []) hX dX9_fill_78 cw_RX9_44 (by omega) (c_X7_fail hn  h0) (ltn ltc_1 hn) lo_1 (by decide) rfl rfl rfl (Nat.le_of_ble_eq_true rfl) ?_
              clear h0
              refine J_goto hX 92 dX9_fill_81 (by decide) ?_
              refine J_iinc hX (v3 + (1 : Int32)) [(3, .int (v3 + (1 : Int32))), (4, .int r4), (0, .ref a), (1, .int v1), (2, .int v2)] dX9_fill_92 4 rfl (congrArg (fun z => v3 + z) ic_1) (by decide) rfl ?_
              refine J_goto hX 14 dX9_fill_95 (by decide) ?_
              refine J_sub [(0, .ref a), (1, .int v1), (2, .int v2), (3, .int (v3 + (1 : Int32)))] [2, 3, 4, 0] rfl ?_
              exact ih v1 v2 (v3 + (1 : Int32)) m6 h
      · refine J_aload_n hX dX9_fill_98 rfl 0 rfl ?_
        refine J_getR hX dX9_fill_99 fl_RX9_21 (ltn (lt_isWk_0 ha) hn) (lo_isWk_0 ha) rfl (rt_isWk_0_0 _ _ _ _ _ ha) ?_
        refine J_getI hX dX9_fill_102 fl_RX9_34 (ltn ltc_1 hn) lo_1 rfl ?_
        exact J_ireturn hX dX9_fill_105 h hF rfl
    · refine J_aload_n hX dX9_fill_98 rfl 0 rfl ?_
      refine J_getR hX dX9_fill_99 fl_RX9_21 (ltn (lt_isWk_0 ha) hn) (lo_isWk_0 ha) rfl (rt_isWk_0_0 _ _ _ _ _ ha) ?_
      refine J_getI hX dX9_fill_102 fl_RX9_34 (ltn ltc_1 hn) lo_1 rfl ?_
      exact J_ireturn hX dX9_fill_105 h hF rfl
theorem t_X9_fill {X : XX} {G : GG} {ρ : Nat → Nat} {n t u w v : Nat} {x : Option Nat} {d : Nat} {a : Nat} (hX : Ok X G ρ cX9_fill 5 RX9 d) (hd0 : 8 ≤ d) (hn : 126 ≤ n) (ha : isWk a) {rE : Int32} {mE : Mm} (hF : Fin' X G ρ n (some .int) (some (.int rE)) (RT t u w v x) mE) {x1 : Int32} {x2 : Int32} {m : Mm} (h : f_X9_fill a x1 x2 m = some (rE, mE)) : J X G ρ n 5 0 [(0, .ref a), (1, .int x1), (2, .int x2)] [] (RT t u w v x) m := by
  unfold f_X9_fill at h
  refine J_aload_n hX dX9_fill_0 rfl 0 rfl ?_
  refine J_iconst hX (0 : Int32) dX9_fill_1 ic_0 ?_
  refine J_putI hX dX9_fill_2 pl_RX9_25 (ltn (lt_isWk_0 ha) hn) (lo_isWk_0 ha) rfl rfl rfl h (fun m1 h => ?_)
  refine J_aload_n hX dX9_fill_5 rfl 0 rfl ?_
  refine J_getR hX dX9_fill_6 fl_RX9_21 (ltn (lt_isWk_0 ha) hn) (lo_isWk_0 ha) rfl (rt_isWk_0_0 _ _ _ _ _ ha) ?_
  obtain ⟨m2, h0, h⟩ := bd1_some h
  refine J_callVv (As := []) (st := []) hX dX9_fill_9 cw_RX9_29 (by omega) (c_X7_rewind hn  h0) (ltn ltc_1 hn) lo_1 (by decide) rfl rfl rfl (Nat.le_of_ble_eq_true rfl) ?_
  clear h0
  refine J_iconst hX (0 : Int32) dX9_fill_12 ic_0 ?_
  refine J_istore_n hX [(3, .int (0 : Int32)), (0, .ref a), (1, .int x1), (2, .int x2)] dX9_fill_13 rfl (by decide) rfl ?_
  refine J_sub [(0, .ref a), (1, .int x1), (2, .int x2), (3, .int (0 : Int32))] [1, 2, 3, 0] rfl ?_
  exact t_X9_fill_L14 hX hd0 hn ha hF FU x1 x2 (0 : Int32)  m2 h
theorem c_X9_fill {G : GG} {l : Launch} {ρ : Nat → Nat} {n t u w v : Nat} {x : Option Nat} (hn : 126 ≤ n) {a : Nat} (ha : isWk a) {x1 : Int32} {x2 : Int32} {m : Mm} {rE : Int32} {mE : Mm} (h : f_X9_fill a x1 x2 m = some (rE, mE)) : CT G l yX9_fill cX9_fill 5 (some .int) 8 0 0 ρ n (RT t u w v x) [.ref a, .int x1, .int x2] m (some (.int rE)) (RT t u w v x) mE := ct_of_J (by decide) rfl (Nat.le_of_ble_eq_true rfl) (fun X hX e1 e2 e3 e4 hQ hr hl => t_X9_fill hX (Nat.le_refl _) hn ha ⟨by rw [hQ, e3, e4], hr, hl⟩ h)
