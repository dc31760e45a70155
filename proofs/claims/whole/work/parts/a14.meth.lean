theorem t_X11_readsLine_J228 {X : XX} {G : GG} {ρ : Nat → Nat} {n t u w v : Nat} {x : Option Nat} {d : Nat} (hX : Ok X G ρ cX11_readsLine 4 RX11 d) (hd0 : 3 ≤ d) (hn : 126 ≤ n) {rE : Int32} {mE : Mm} (hF : Fin' X G ρ n (some .boolean) (some (.int rE)) (RT t u w v x) mE) (m : Mm) (h : f_X11_readsLine_J228 m = some (rE, mE)) : J X G ρ n 4 228 [(0, .ref 78)] [] (RT t u w v x) m := by
  unfold f_X11_readsLine_J228 at h
  refine J_aload_n hX dX11_readsLine_228 rfl 0 rfl ?_
  refine J_getR hX dX11_readsLine_229 fl_RX11_104 (ltn ltc_78 hn) lo_78 rfl (rt_78_43 _ _ _ _ _) ?_
  refine J_iconst hX (3 : Int32) dX11_readsLine_232 ic_3 ?_
  refine J_dup2 hX dX11_readsLine_233 rfl rfl ?_
  refine J_iaload0 hX dX11_readsLine_234 (ltn ltc_110 hn) lay_110 (by decide) ?_
  refine J_iconst hX (1 : Int32) dX11_readsLine_235 ic_1 ?_
  refine J_iadd hX dX11_readsLine_236 ?_
  refine J_iastore0 hX dX11_readsLine_237 (ltn ltc_110 hn) lay_110 (by decide) h (fun m18 h => ?_)
  refine J_aload_n hX dX11_readsLine_238 rfl 0 rfl ?_
  obtain ⟨r20, m19, h0, h⟩ := bd2_some h
  refine J_callVi (As := []) (st := []) hX dX11_readsLine_239 cw_RX11_250 (by omega) (c_X11_closes hn  h0) (ltn ltc_78 hn) lo_78 (by decide) rfl rfl rfl (Nat.le_of_ble_eq_true rfl) ?_
  clear h0
  obtain ⟨gB, h⟩ := gd_some h
  exact J_ireturn hX dX11_readsLine_242 h hF (isB_nar gB)
theorem t_X11_readsLine_J183 {X : XX} {G : GG} {ρ : Nat → Nat} {n t u w v : Nat} {x : Option Nat} {d : Nat} (hX : Ok X G ρ cX11_readsLine 4 RX11 d) (hd0 : 3 ≤ d) (hn : 126 ≤ n) {rE : Int32} {mE : Mm} (hF : Fin' X G ρ n (some .boolean) (some (.int rE)) (RT t u w v x) mE) (v1 : Int32) (v2 : Int32) (s0 : Int32) (m : Mm) (h : f_X11_readsLine_J183 v1 v2 s0 m = some (rE, mE)) : J X G ρ n 4 183 [(0, .ref 78), (1, .int v1), (2, .int v2)] [.int s0] (RT t u w v x) m := by
  unfold f_X11_readsLine_J183 at h
  refine J_istore_n hX [(3, .int s0), (0, .ref 78), (1, .int v1), (2, .int v2)] dX11_readsLine_183 rfl (by decide) rfl ?_
  refine J_iload_n hX dX11_readsLine_184 rfl 0 rfl ?_
  refine J_if_ne hX 190 dX11_readsLine_185 (by decide) h (fun c h => ?_) (fun c h => ?_)
  · refine J_iconst hX (0 : Int32) dX11_readsLine_188 ic_0 ?_
    exact J_ireturn hX dX11_readsLine_189 h hF narrow_b0
  · refine J_aload_n hX dX11_readsLine_190 rfl 1 rfl ?_
    refine J_getR hX dX11_readsLine_191 fl_RX11_110 (ltn ltc_78 hn) lo_78 rfl (rt_78_45 _ _ _ _ _) ?_
    refine J_iload_n hX dX11_readsLine_194 rfl 3 rfl ?_
    refine J_aload_n hX dX11_readsLine_195 rfl 1 rfl ?_
    refine J_getI hX dX11_readsLine_196 fl_RX11_243 (ltn ltc_78 hn) lo_78 rfl ?_
    refine J_iastore hX dX11_readsLine_199 (ltn ltc_112 hn) lay_112 h (fun m17 h => ?_)
    refine J_iload_n hX dX11_readsLine_200 rfl 2 rfl ?_
    refine J_iconst hX (1 : Int32) dX11_readsLine_201 ic_1 ?_
    refine J_icmp_ne hX 228 dX11_readsLine_202 (by decide) h (fun c h => ?_) (fun c h => ?_)
    · refine J_aload_n hX dX11_readsLine_205 rfl 1 rfl ?_
      refine J_iconst hX (0 : Int32) dX11_readsLine_206 ic_0 ?_
      refine J_sipush hX (255 : Int32) dX11_readsLine_207 (by decide) ?_
      obtain ⟨r22, m21, h0, h⟩ := bd2_some h
      refine J_callVi (As := [.int (0 : Int32), .int (255 : Int32)]) (st := []) hX dX11_readsLine_210 cw_RX11_246 (by omega) (c_X11_needsNumber hn  h0) (ltn ltc_78 hn) lo_78 (by decide) rfl rfl rfl (Nat.le_of_ble_eq_true rfl) ?_
      clear h0
      refine J_if_ne hX 218 dX11_readsLine_213 (by decide) h (fun c h => ?_) (fun c h => ?_)
      · refine J_iconst hX (0 : Int32) dX11_readsLine_216 ic_0 ?_
        exact J_ireturn hX dX11_readsLine_217 h hF narrow_b0
      · refine J_aload_n hX dX11_readsLine_218 rfl 1 rfl ?_
        refine J_getR hX dX11_readsLine_219 fl_RX11_113 (ltn ltc_78 hn) lo_78 rfl (rt_78_46 _ _ _ _ _) ?_
        refine J_iload_n hX dX11_readsLine_222 rfl 3 rfl ?_
        refine J_aload_n hX dX11_readsLine_223 rfl 1 rfl ?_
        refine J_getI hX dX11_readsLine_224 fl_RX11_243 (ltn ltc_78 hn) lo_78 rfl ?_
        refine J_iastore hX dX11_readsLine_227 (ltn ltc_113 hn) lay_113 h (fun m23 h => ?_)
        refine J_sub [(0, .ref 78)] [1] rfl ?_
        exact t_X11_readsLine_J228 hX hd0 hn hF   m23 h
    · refine J_sub [(0, .ref 78)] [1] rfl ?_
      exact t_X11_readsLine_J228 hX hd0 hn hF   m17 h
theorem t_X11_readsLine_J85 {X : XX} {G : GG} {ρ : Nat → Nat} {n t u w v : Nat} {x : Option Nat} {d : Nat} (hX : Ok X G ρ cX11_readsLine 4 RX11 d) (hd0 : 3 ≤ d) (hn : 126 ≤ n) {rE : Int32} {mE : Mm} (hF : Fin' X G ρ n (some .boolean) (some (.int rE)) (RT t u w v x) mE) (s0 : Int32) (m : Mm) (h : f_X11_readsLine_J85 s0 m = some (rE, mE)) : J X G ρ n 4 85 [(0, .ref 78)] [.int s0] (RT t u w v x) m := by
  unfold f_X11_readsLine_J85 at h
  refine J_istore_n hX [(1, .int s0), (0, .ref 78)] dX11_readsLine_85 rfl (by decide) rfl ?_
  refine J_iload_n hX dX11_readsLine_86 rfl 0 rfl ?_
  refine J_if_ge hX 96 dX11_readsLine_87 (by decide) h (fun c h => ?_) (fun c h => ?_)
  · refine J_aload_n hX dX11_readsLine_90 rfl 1 rfl ?_
    refine J_iconst hX (1 : Int32) dX11_readsLine_91 ic_1 ?_
    obtain ⟨r31, m30, h0, h⟩ := bd2_some h
    refine J_callVi (As := [.int (1 : Int32)]) (st := []) hX dX11_readsLine_92 cw_RX11_216 (by omega) (c_X11_fails hn  h0) (ltn ltc_78 hn) lo_78 (by decide) rfl rfl rfl (Nat.le_of_ble_eq_true rfl) ?_
    clear h0
    obtain ⟨gB, h⟩ := gd_some h
    exact J_ireturn hX dX11_readsLine_95 h hF (isB_nar gB)
  · refine J_aload_n hX dX11_readsLine_96 rfl 1 rfl ?_
    refine J_getR hX dX11_readsLine_97 fl_RX11_104 (ltn ltc_78 hn) lo_78 rfl (rt_78_43 _ _ _ _ _) ?_
    refine J_iconst hX (3 : Int32) dX11_readsLine_100 ic_3 ?_
    refine J_iaload0 hX dX11_readsLine_101 (ltn ltc_110 hn) lay_110 (by decide) ?_
    refine J_bipush hX (40 : Int32) dX11_readsLine_102 (by decide) ?_
    refine J_icmp_ne hX 113 dX11_readsLine_104 (by decide) h (fun c h => ?_) (fun c h => ?_)
    · refine J_aload_n hX dX11_readsLine_107 rfl 1 rfl ?_
      refine J_iconst hX (5 : Int32) dX11_readsLine_108 ic_5 ?_
      obtain ⟨r29, m28, h0, h⟩ := bd2_some h
      refine J_callVi (As := [.int (5 : Int32)]) (st := []) hX dX11_readsLine_109 cw_RX11_216 (by omega) (c_X11_fails hn  h0) (ltn ltc_78 hn) lo_78 (by decide) rfl rfl rfl (Nat.le_of_ble_eq_true rfl) ?_
      clear h0
      obtain ⟨gB, h⟩ := gd_some h
      exact J_ireturn hX dX11_readsLine_112 h hF (isB_nar gB)
    · refine J_aload_n hX dX11_readsLine_113 rfl 1 rfl ?_
      obtain ⟨m13, h0, h⟩ := bd1_some h
      refine J_callVv (As := []) (st := []) hX dX11_readsLine_114 cw_RX11_223 (by omega) (c_X11_nextToken hn  h0) (ltn ltc_78 hn) lo_78 (by decide) rfl rfl rfl (Nat.le_of_ble_eq_true rfl) ?_
      clear h0
      refine J_bipush hX (120 : Int32) dX11_readsLine_117 (by decide) ?_
      refine J_aload_n hX dX11_readsLine_119 rfl 1 rfl ?_
      refine J_getR hX dX11_readsLine_120 fl_RX11_104 (ltn ltc_78 hn) lo_78 rfl (rt_78_43 _ _ _ _ _) ?_
      refine J_iconst hX (3 : Int32) dX11_readsLine_123 ic_3 ?_
      refine J_iaload0 hX dX11_readsLine_124 (ltn ltc_110 hn) lay_110 (by decide) ?_
      refine J_iadd hX dX11_readsLine_125 ?_
      refine J_istore_n hX [(2, .int ((120 : Int32) + (gI m13 110 (ix (3 : Int32))))), (1, .int s0), (0, .ref 78)] dX11_readsLine_126 rfl (by decide) rfl ?_
      refine J_aload_n hX dX11_readsLine_127 rfl 2 rfl ?_
      refine J_getR hX dX11_readsLine_128 fl_RX11_107 (ltn ltc_78 hn) lo_78 rfl (rt_78_44 _ _ _ _ _) ?_
      refine J_iload_n hX dX11_readsLine_131 rfl 0 rfl ?_
      refine J_iload_n hX dX11_readsLine_132 rfl 1 rfl ?_
      refine J_iastore hX dX11_readsLine_133 (ltn ltc_111 hn) lay_111 h (fun m14 h => ?_)
      refine J_iload_n hX dX11_readsLine_134 rfl 1 rfl ?_
      refine J_iconst hX (2 : Int32) dX11_readsLine_135 ic_2 ?_
      refine J_icmp_ge hX 155 dX11_readsLine_136 (by decide) h (fun c h => ?_) (fun c h => ?_)
      · refine J_aload_n hX dX11_readsLine_139 rfl 2 rfl ?_
        refine J_iconst hX (0 : Int32) dX11_readsLine_140 ic_0 ?_
        refine J_aload_n hX dX11_readsLine_141 rfl 2 rfl ?_
        refine J_getR hX dX11_readsLine_142 fl_RX11_98 (ltn ltc_78 hn) lo_78 rfl (rt_78_41 _ _ _ _ _) ?_
        refine J_iconst hX (0 : Int32) dX11_readsLine_145 ic_0 ?_
        refine J_iaload0 hX dX11_readsLine_146 (ltn ltc_108 hn) lay_108 (by decide) ?_
        refine J_iconst hX (1 : Int32) dX11_readsLine_147 ic_1 ?_
        refine J_isub hX dX11_readsLine_148 ?_
        obtain ⟨r27, m26, h0, h⟩ := bd2_some h
        refine J_callVi (As := [.int (0 : Int32), .int ((gI m14 108 (ix (0 : Int32))) - (1 : Int32))]) (st := []) hX dX11_readsLine_149 cw_RX11_246 (by omega) (c_X11_needsNumber hn  h0) (ltn ltc_78 hn) lo_78 (by decide) rfl rfl rfl (Nat.le_of_ble_eq_true rfl) ?_
        clear h0
        refine J_goto hX 183 dX11_readsLine_152 (by decide) ?_
        refine J_sub [(0, .ref 78), (1, .int s0), (2, .int ((120 : Int32) + (gI m13 110 (ix (3 : Int32)))))] [2, 1, 0] rfl ?_
        exact t_X11_readsLine_J183 hX hd0 hn hF s0 ((120 : Int32) + (gI m13 110 (ix (3 : Int32)))) r27 m26 h
      · refine J_iload_n hX dX11_readsLine_155 rfl 1 rfl ?_
        refine J_iconst hX (4 : Int32) dX11_readsLine_156 ic_4 ?_
        refine J_icmp_ge hX 176 dX11_readsLine_157 (by decide) h (fun c h => ?_) (fun c h => ?_)
        · refine J_aload_n hX dX11_readsLine_160 rfl 2 rfl ?_
          refine J_iconst hX (0 : Int32) dX11_readsLine_161 ic_0 ?_
          refine J_aload_n hX dX11_readsLine_162 rfl 2 rfl ?_
          refine J_getR hX dX11_readsLine_163 fl_RX11_13 (ltn ltc_78 hn) lo_78 rfl (rt_78_10 _ _ _ _ _) ?_
          refine J_iconst hX (0 : Int32) dX11_readsLine_166 ic_0 ?_
          refine J_iaload0 hX dX11_readsLine_167 (ltn ltc_80 hn) lay_80 (by decide) ?_
          refine J_iconst hX (1 : Int32) dX11_readsLine_168 ic_1 ?_
          refine J_isub hX dX11_readsLine_169 ?_
          obtain ⟨r25, m24, h0, h⟩ := bd2_some h
          refine J_callVi (As := [.int (0 : Int32), .int ((gI m14 80 (ix (0 : Int32))) - (1 : Int32))]) (st := []) hX dX11_readsLine_170 cw_RX11_246 (by omega) (c_X11_needsNumber hn  h0) (ltn ltc_78 hn) lo_78 (by decide) rfl rfl rfl (Nat.le_of_ble_eq_true rfl) ?_
          clear h0
          refine J_goto hX 183 dX11_readsLine_173 (by decide) ?_
          refine J_sub [(0, .ref 78), (1, .int s0), (2, .int ((120 : Int32) + (gI m13 110 (ix (3 : Int32)))))] [2, 1, 0] rfl ?_
          exact t_X11_readsLine_J183 hX hd0 hn hF s0 ((120 : Int32) + (gI m13 110 (ix (3 : Int32)))) r25 m24 h
        · refine J_aload_n hX dX11_readsLine_176 rfl 2 rfl ?_
          refine J_iconst hX (1 : Int32) dX11_readsLine_177 ic_1 ?_
          refine J_bipush hX (40 : Int32) dX11_readsLine_178 (by decide) ?_
          obtain ⟨r16, m15, h0, h⟩ := bd2_some h
          refine J_callVi (As := [.int (1 : Int32), .int (40 : Int32)]) (st := []) hX dX11_readsLine_180 cw_RX11_246 (by omega) (c_X11_needsNumber hn  h0) (ltn ltc_78 hn) lo_78 (by decide) rfl rfl rfl (Nat.le_of_ble_eq_true rfl) ?_
          clear h0
          refine J_sub [(0, .ref 78), (1, .int s0), (2, .int ((120 : Int32) + (gI m13 110 (ix (3 : Int32)))))] [2, 1, 0] rfl ?_
          exact t_X11_readsLine_J183 hX hd0 hn hF s0 ((120 : Int32) + (gI m13 110 (ix (3 : Int32)))) r16 m15 h
theorem t_X11_readsLine {X : XX} {G : GG} {ρ : Nat → Nat} {n t u w v : Nat} {x : Option Nat} {d : Nat} (hX : Ok X G ρ cX11_readsLine 4 RX11 d) (hd0 : 3 ≤ d) (hn : 126 ≤ n) {rE : Int32} {mE : Mm} (hF : Fin' X G ρ n (some .boolean) (some (.int rE)) (RT t u w v x) mE) {m : Mm} (h : f_X11_readsLine m = some (rE, mE)) : J X G ρ n 4 0 [(0, .ref 78)] [] (RT t u w v x) m := by
  unfold f_X11_readsLine at h
  refine J_aload_n hX dX11_readsLine_0 rfl 0 rfl ?_
  refine J_ldc2 hX (357970 : Int64) dX11_readsLine_1 k_RX11_327 ?_
  obtain ⟨r2, m1, h0, h⟩ := bd2_some h
  refine J_callVi (As := [.long (357970 : Int64)]) (st := []) hX dX11_readsLine_4 cw_RX11_208 (by omega) (c_X11_isWord hn  h0) (ltn ltc_78 hn) lo_78 (by decide) rfl rfl rfl (Nat.le_of_ble_eq_true rfl) ?_
  clear h0
  refine J_if_eq hX 14 dX11_readsLine_7 (by decide) h (fun c h => ?_) (fun c h => ?_)
  · refine J_aload_n hX dX11_readsLine_14 rfl 0 rfl ?_
    refine J_ldc2 hX (12584543 : Int64) dX11_readsLine_15 k_RX11_329 ?_
    obtain ⟨r4, m3, h0, h⟩ := bd2_some h
    refine J_callVi (As := [.long (12584543 : Int64)]) (st := []) hX dX11_readsLine_18 cw_RX11_208 (by omega) (c_X11_isWord hn  h0) (ltn ltc_78 hn) lo_78 (by decide) rfl rfl rfl (Nat.le_of_ble_eq_true rfl) ?_
    clear h0
    refine J_if_eq hX 28 dX11_readsLine_21 (by decide) h (fun c h => ?_) (fun c h => ?_)
    · refine J_aload_n hX dX11_readsLine_28 rfl 0 rfl ?_
      refine J_ldc2 hX (247649 : Int64) dX11_readsLine_29 k_RX11_331 ?_
      obtain ⟨r6, m5, h0, h⟩ := bd2_some h
      refine J_callVi (As := [.long (247649 : Int64)]) (st := []) hX dX11_readsLine_32 cw_RX11_208 (by omega) (c_X11_isWord hn  h0) (ltn ltc_78 hn) lo_78 (by decide) rfl rfl rfl (Nat.le_of_ble_eq_true rfl) ?_
      clear h0
      refine J_if_eq hX 42 dX11_readsLine_35 (by decide) h (fun c h => ?_) (fun c h => ?_)
      · refine J_aload_n hX dX11_readsLine_42 rfl 0 rfl ?_
        refine J_ldc2 hX (7054053404 : Int64) dX11_readsLine_43 k_RX11_333 ?_
        obtain ⟨r8, m7, h0, h⟩ := bd2_some h
        refine J_callVi (As := [.long (7054053404 : Int64)]) (st := []) hX dX11_readsLine_46 cw_RX11_208 (by omega) (c_X11_isWord hn  h0) (ltn ltc_78 hn) lo_78 (by decide) rfl rfl rfl (Nat.le_of_ble_eq_true rfl) ?_
        clear h0
        refine J_if_eq hX 56 dX11_readsLine_49 (by decide) h (fun c h => ?_) (fun c h => ?_)
        · refine J_aload_n hX dX11_readsLine_56 rfl 0 rfl ?_
          refine J_ldc2 hX (7046796451 : Int64) dX11_readsLine_57 k_RX11_335 ?_
          obtain ⟨r10, m9, h0, h⟩ := bd2_some h
          refine J_callVi (As := [.long (7046796451 : Int64)]) (st := []) hX dX11_readsLine_60 cw_RX11_208 (by omega) (c_X11_isWord hn  h0) (ltn ltc_78 hn) lo_78 (by decide) rfl rfl rfl (Nat.le_of_ble_eq_true rfl) ?_
          clear h0
          refine J_if_eq hX 70 dX11_readsLine_63 (by decide) h (fun c h => ?_) (fun c h => ?_)
          · refine J_aload_n hX dX11_readsLine_70 rfl 0 rfl ?_
            refine J_ldc2 hX (168755 : Int64) dX11_readsLine_71 k_RX11_337 ?_
            obtain ⟨r12, m11, h0, h⟩ := bd2_some h
            refine J_callVi (As := [.long (168755 : Int64)]) (st := []) hX dX11_readsLine_74 cw_RX11_208 (by omega) (c_X11_isWord hn  h0) (ltn ltc_78 hn) lo_78 (by decide) rfl rfl rfl (Nat.le_of_ble_eq_true rfl) ?_
            clear h0
            refine J_if_eq hX 84 dX11_readsLine_77 (by decide) h (fun c h => ?_) (fun c h => ?_)
            · refine J_iconst hX (-1 : Int32) dX11_readsLine_84 ic_m1 ?_
              exact t_X11_readsLine_J85 hX hd0 hn hF  (-1 : Int32) m11 h
            · refine J_iconst hX (5 : Int32) dX11_readsLine_80 ic_5 ?_
              refine J_goto hX 85 dX11_readsLine_81 (by decide) ?_
              exact t_X11_readsLine_J85 hX hd0 hn hF  (5 : Int32) m11 h
          · refine J_iconst hX (4 : Int32) dX11_readsLine_66 ic_4 ?_
            refine J_goto hX 85 dX11_readsLine_67 (by decide) ?_
            exact t_X11_readsLine_J85 hX hd0 hn hF  (4 : Int32) m9 h
        · refine J_iconst hX (3 : Int32) dX11_readsLine_52 ic_3 ?_
          refine J_goto hX 85 dX11_readsLine_53 (by decide) ?_
          exact t_X11_readsLine_J85 hX hd0 hn hF  (3 : Int32) m7 h
      · refine J_iconst hX (2 : Int32) dX11_readsLine_38 ic_2 ?_
        refine J_goto hX 85 dX11_readsLine_39 (by decide) ?_
        exact t_X11_readsLine_J85 hX hd0 hn hF  (2 : Int32) m5 h
    · refine J_iconst hX (1 : Int32) dX11_readsLine_24 ic_1 ?_
      refine J_goto hX 85 dX11_readsLine_25 (by decide) ?_
      exact t_X11_readsLine_J85 hX hd0 hn hF  (1 : Int32) m3 h
  · refine J_iconst hX (0 : Int32) dX11_readsLine_10 ic_0 ?_
    refine J_goto hX 85 dX11_readsLine_11 (by decide) ?_
    exact t_X11_readsLine_J85 hX hd0 hn hF  (0 : Int32) m1 h
theorem c_X11_readsLine {G : GG} {l : Launch} {ρ : Nat → Nat} {n t u w v : Nat} {x : Option Nat} (hn : 126 ≤ n) {m : Mm} {rE : Int32} {mE : Mm} (h : f_X11_readsLine m = some (rE, mE)) : CT G l yX11_readsLine cX11_readsLine 4 (some .boolean) 3 0 0 ρ n (RT t u w v x) [.ref 78] m (some (.int rE)) (RT t u w v x) mE := ct_of_J (by decide) rfl (Nat.le_of_ble_eq_true rfl) (fun X hX e1 e2 e3 e4 hQ hr hl => t_X11_readsLine hX (Nat.le_refl _) hn ⟨by rw [hQ, e3, e4], hr, hl⟩ h)
theorem t_X11_laysLines_L14 {X : XX} {G : GG} {ρ : Nat → Nat} {n t u w v : Nat} {x : Option Nat} {d : Nat} (hX : Ok X G ρ cX11_laysLines 4 RX11 d) (hd0 : 0 ≤ d) (hn : 126 ≤ n) {mE : Mm} (hF : Fin' X G ρ n none none (RT t u w v x) mE) : ∀ (k : Nat) (v1 : Int32) (v2 : Int32) (v3 : Int32) (m : Mm), f_X11_laysLines_L14 k v1 v2 v3 m = some mE → J X G ρ n 4 14 [(0, .ref 78), (1, .int v1), (2, .int v2), (3, .int v3)] [] (RT t u w v x) m := by
  intro k
  induction k with
  | zero => intro _ _ _ _ h; rw [f_X11_laysLines_L14] at h; cases h
  | succ k ih =>
    intro v1 v2 v3 m h
    rw [f_X11_laysLines_L14] at h
    refine J_iload_n hX dX11_laysLines_14 rfl 3 rfl ?_
    refine J_bipush hX (40 : Int32) dX11_laysLines_15 (by decide) ?_
    refine J_icmp_ge hX 92 dX11_laysLines_17 (by decide) h (fun c h => ?_) (fun c h => ?_)
    · refine J_aload_n hX dX11_laysLines_20 rfl 0 rfl ?_
      refine J_getR hX dX11_laysLines_21 fl_RX11_107 (ltn ltc_78 hn) lo_78 rfl (rt_78_44 _ _ _ _ _) ?_
      refine J_bipush hX (40 : Int32) dX11_laysLines_24 (by decide) ?_
      refine J_iload_n hX dX11_laysLines_26 rfl 2 rfl ?_
      refine J_imul hX dX11_laysLines_27 ?_
      refine J_iload_n hX dX11_laysLines_28 rfl 3 rfl ?_
      refine J_iadd hX dX11_laysLines_29 ?_
      refine J_aload_n hX dX11_laysLines_30 rfl 0 rfl ?_
      refine J_getR hX dX11_laysLines_31 fl_RX11_107 (ltn ltc_78 hn) lo_78 rfl (rt_78_44 _ _ _ _ _) ?_
      refine J_bipush hX (40 : Int32) dX11_laysLines_34 (by decide) ?_
      refine J_iload_n hX dX11_laysLines_36 rfl 1 rfl ?_
      refine J_imul hX dX11_laysLines_37 ?_
      refine J_iload_n hX dX11_laysLines_38 rfl 3 rfl ?_
      refine J_iadd hX dX11_laysLines_39 ?_
      refine J_iaload hX dX11_laysLines_40 (ltn ltc_111 hn) lay_111 h (fun h => ?_)
      refine J_iastore hX dX11_laysLines_41 (ltn ltc_111 hn) lay_111 h (fun m2 h => ?_)
      refine J_aload_n hX dX11_laysLines_42 rfl 0 rfl ?_
      refine J_getR hX dX11_laysLines_43 fl_RX11_110 (ltn ltc_78 hn) lo_78 rfl (rt_78_45 _ _ _ _ _) ?_
      refine J_bipush hX (40 : Int32) dX11_laysLines_46 (by decide) ?_
      refine J_iload_n hX dX11_laysLines_48 rfl 2 rfl ?_
      refine J_imul hX dX11_laysLines_49 ?_
      refine J_iload_n hX dX11_laysLines_50 rfl 3 rfl ?_
      refine J_iadd hX dX11_laysLines_51 ?_
      refine J_aload_n hX dX11_laysLines_52 rfl 0 rfl ?_
      refine J_getR hX dX11_laysLines_53 fl_RX11_110 (ltn ltc_78 hn) lo_78 rfl (rt_78_45 _ _ _ _ _) ?_
      refine J_bipush hX (40 : Int32) dX11_laysLines_56 (by decide) ?_
      refine J_iload_n hX dX11_laysLines_58 rfl 1 rfl ?_
      refine J_imul hX dX11_laysLines_59 ?_
      refine J_iload_n hX dX11_laysLines_60 rfl 3 rfl ?_
      refine J_iadd hX dX11_laysLines_61 ?_
      refine J_iaload hX dX11_laysLines_62 (ltn ltc_112 hn) lay_112 h (fun h => ?_)
      refine J_iastore hX dX11_laysLines_63 (ltn ltc_112 hn) lay_112 h (fun m3 h => ?_)
      refine J_aload_n hX dX11_laysLines_64 rfl 0 rfl ?_
      refine J_getR hX dX11_laysLines_65 fl_RX11_113 (ltn ltc_78 hn) lo_78 rfl (rt_78_46 _ _ _ _ _) ?_
      refine J_bipush hX (40 : Int32) dX11_laysLines_68 (by decide) ?_
      refine J_iload_n hX dX11_laysLines_70 rfl 2 rfl ?_
      refine J_imul hX dX11_laysLines_71 ?_
      refine J_iload_n hX dX11_laysLines_72 rfl 3 rfl ?_
      refine J_iadd hX dX11_laysLines_73 ?_
      refine J_aload_n hX dX11_laysLines_74 rfl 0 rfl ?_
      refine J_getR hX dX11_laysLines_75 fl_RX11_113 (ltn ltc_78 hn) lo_78 rfl (rt_78_46 _ _ _ _ _) ?_
      refine J_bipush hX (40 : Int32) dX11_laysLines_78 (by decide) ?_
      refine J_iload_n hX dX11_laysLines_80 rfl 1 rfl ?_
      refine J_imul hX dX11_laysLines_81 ?_
      refine J_iload_n hX dX11_laysLines_82 rfl 3 rfl ?_
      refine J_iadd hX dX11_laysLines_83 ?_
      refine J_iaload hX dX11_laysLines_84 (ltn ltc_113 hn) lay_113 h (fun h => ?_)
      refine J_iastore hX dX11_laysLines_85 (ltn ltc_113 hn) lay_113 h (fun m4 h => ?_)
      refine J_iinc hX (v3 + (1 : Int32)) [(3, .int (v3 + (1 : Int32))), (0, .ref 78), (1, .int v1), (2, .int v2)] dX11_laysLines_86 3 rfl (congrArg (fun z => v3 + z) ic_1) (by decide) rfl ?_
      refine J_goto hX 14 dX11_laysLines_89 (by decide) ?_
      refine J_sub [(0, .ref 78), (1, .int v1), (2, .int v2), (3, .int (v3 + (1 : Int32)))] [1, 2, 3, 0] rfl ?_
      exact ih v1 v2 (v3 + (1 : Int32)) m4 h
    · exact J_return hX dX11_laysLines_92 h hF
theorem t_X11_laysLines {X : XX} {G : GG} {ρ : Nat → Nat} {n t u w v : Nat} {x : Option Nat} {d : Nat} (hX : Ok X G ρ cX11_laysLines 4 RX11 d) (hd0 : 0 ≤ d) (hn : 126 ≤ n) {mE : Mm} (hF : Fin' X G ρ n none none (RT t u w v x) mE) {x1 : Int32} {x2 : Int32} {m : Mm} (h : f_X11_laysLines x1 x2 m = some mE) : J X G ρ n 4 0 [(0, .ref 78), (1, .int x1), (2, .int x2)] [] (RT t u w v x) m := by
  unfold f_X11_laysLines at h
  refine J_aload_n hX dX11_laysLines_0 rfl 0 rfl ?_
  refine J_getR hX dX11_laysLines_1 fl_RX11_104 (ltn ltc_78 hn) lo_78 rfl (rt_78_43 _ _ _ _ _) ?_
  refine J_iload_n hX dX11_laysLines_4 rfl 2 rfl ?_
  refine J_aload_n hX dX11_laysLines_5 rfl 0 rfl ?_
  refine J_getR hX dX11_laysLines_6 fl_RX11_104 (ltn ltc_78 hn) lo_78 rfl (rt_78_43 _ _ _ _ _) ?_
  refine J_iload_n hX dX11_laysLines_9 rfl 1 rfl ?_
  refine J_iaload hX dX11_laysLines_10 (ltn ltc_110 hn) lay_110 h (fun h => ?_)
  refine J_iastore hX dX11_laysLines_11 (ltn ltc_110 hn) lay_110 h (fun m1 h => ?_)
  refine J_iconst hX (0 : Int32) dX11_laysLines_12 ic_0 ?_
  refine J_istore_n hX [(3, .int (0 : Int32)), (0, .ref 78), (1, .int x1), (2, .int x2)] dX11_laysLines_13 rfl (by decide) rfl ?_
  refine J_sub [(0, .ref 78), (1, .int x1), (2, .int x2), (3, .int (0 : Int32))] [1, 2, 3, 0] rfl ?_
  exact t_X11_laysLines_L14 hX hd0 hn hF FU x1 x2 (0 : Int32)  m1 h
theorem c_X11_laysLines {G : GG} {l : Launch} {ρ : Nat → Nat} {n t u w v : Nat} {x : Option Nat} (hn : 126 ≤ n) {x1 : Int32} {x2 : Int32} {m : Mm} {mE : Mm} (h : f_X11_laysLines x1 x2 m = some mE) : CT G l yX11_laysLines cX11_laysLines 4 none 0 0 0 ρ n (RT t u w v x) [.ref 78, .int x1, .int x2] m none (RT t u w v x) mE := ct_of_J (by decide) rfl (Nat.le_of_ble_eq_true rfl) (fun X hX e1 e2 e3 e4 hQ hr hl => t_X11_laysLines hX (Nat.le_refl _) hn ⟨by rw [hQ, e3, e4], hr, hl⟩ h)
theorem t_X11_lostIn_L4 {X : XX} {G : GG} {ρ : Nat → Nat} {n t u w v : Nat} {x : Option Nat} {d : Nat} (hX : Ok X G ρ cX11_lostIn 4 RX11 d) (hd0 : 0 ≤ d) (hn : 126 ≤ n) {rE : Int32} {mE : Mm} (hF : Fin' X G ρ n (some .int) (some (.int rE)) (RT t u w v x) mE) : ∀ (k : Nat) (v1 : Int32) (v2 : Int32) (v3 : Int32) (m : Mm), f_X11_lostIn_L4 k v1 v2 v3 m = some (rE, mE) → J X G ρ n 4 4 [(0, .ref 78), (1, .int v1), (2, .int v2), (3, .int v3)] [] (RT t u w v x) m := by
  intro k
  induction k with
  | zero => intro _ _ _ _ h; rw [f_X11_lostIn_L4] at h; cases h
  | succ k ih =>
    intro v1 v2 v3 m h
    rw [f_X11_lostIn_L4] at h
    refine J_iload_n hX dX11_lostIn_4 rfl 3 rfl ?_
    refine J_aload_n hX dX11_lostIn_5 rfl 0 rfl ?_
    refine J_getR hX dX11_lostIn_6 fl_RX11_74 (ltn ltc_78 hn) lo_78 rfl (rt_78_33 _ _ _ _ _) ?_
    refine J_iload_n hX dX11_lostIn_9 rfl 1 rfl ?_
    refine J_iaload hX dX11_lostIn_10 (ltn ltc_100 hn) lay_100 h (fun h => ?_)
    refine J_icmp_ge hX 45 dX11_lostIn_11 (by decide) h (fun c h => ?_) (fun c h => ?_)
    · refine J_iload_n hX dX11_lostIn_14 rfl 2 rfl ?_
      refine J_aload_n hX dX11_lostIn_15 rfl 0 rfl ?_
      refine J_getR hX dX11_lostIn_16 fl_RX11_125 (ltn ltc_78 hn) lo_78 rfl (rt_78_50 _ _ _ _ _) ?_
      refine J_bipush hX (14 : Int32) dX11_lostIn_19 (by decide) ?_
      refine J_iconst hX (5 : Int32) dX11_lostIn_21 ic_5 ?_
      refine J_iload_n hX dX11_lostIn_22 rfl 1 rfl ?_
      refine J_imul hX dX11_lostIn_23 ?_
      refine J_iadd hX dX11_lostIn_24 ?_
      refine J_iload_n hX dX11_lostIn_25 rfl 3 rfl ?_
      refine J_iadd hX dX11_lostIn_26 ?_
      refine J_iaload hX dX11_lostIn_27 (ltn ltc_117 hn) lay_117 h (fun h => ?_)
      refine J_iconst hX (2 : Int32) dX11_lostIn_28 ic_2 ?_
      refine J_icmp_ne hX 36 dX11_lostIn_29 (by decide) h (fun c h => ?_) (fun c h => ?_)
      · refine J_iconst hX (1 : Int32) dX11_lostIn_32 ic_1 ?_
        refine J_goto hX 37 dX11_lostIn_33 (by decide) ?_
        refine J_iadd hX dX11_lostIn_37 ?_
        refine J_istore_n hX [(2, .int (v2 + (1 : Int32))), (0, .ref 78), (1, .int v1), (3, .int v3)] dX11_lostIn_38 rfl (by decide) rfl ?_
        refine J_iinc hX (v3 + (1 : Int32)) [(3, .int (v3 + (1 : Int32))), (2, .int (v2 + (1 : Int32))), (0, .ref 78), (1, .int v1)] dX11_lostIn_39 3 rfl (congrArg (fun z => v3 + z) ic_1) (by decide) rfl ?_
        refine J_goto hX 4 dX11_lostIn_42 (by decide) ?_
        refine J_sub [(0, .ref 78), (1, .int v1), (2, .int (v2 + (1 : Int32))), (3, .int (v3 + (1 : Int32)))] [2, 3, 1, 0] rfl ?_
        exact ih v1 (v2 + (1 : Int32)) (v3 + (1 : Int32)) m h
      · refine J_iconst hX (0 : Int32) dX11_lostIn_36 ic_0 ?_
        refine J_iadd hX dX11_lostIn_37 ?_
        refine J_istore_n hX [(2, .int (v2 + (0 : Int32))), (0, .ref 78), (1, .int v1), (3, .int v3)] dX11_lostIn_38 rfl (by decide) rfl ?_
        refine J_iinc hX (v3 + (1 : Int32)) [(3, .int (v3 + (1 : Int32))), (2, .int (v2 + (0 : Int32))), (0, .ref 78), (1, .int v1)] dX11_lostIn_39 3 rfl (congrArg (fun z => v3 + z) ic_1) (by decide) rfl ?_
        refine J_goto hX 4 dX11_lostIn_42 (by decide) ?_
        refine J_sub [(0, .ref 78), (1, .int v1), (2, .int (v2 + (0 : Int32))), (3, .int (v3 + (1 : Int32)))] [2, 3, 1, 0] rfl ?_
        exact ih v1 (v2 + (0 : Int32)) (v3 + (1 : Int32)) m h
    · refine J_iload_n hX dX11_lostIn_45 rfl 2 rfl ?_
      exact J_ireturn hX dX11_lostIn_46 h hF rfl
theorem t_X11_lostIn {X : XX} {G : GG} {ρ : Nat → Nat} {n t u w v : Nat} {x : Option Nat} {d : Nat} (hX : Ok X G ρ cX11_lostIn 4 RX11 d) (hd0 : 0 ≤ d) (hn : 126 ≤ n) {rE : Int32} {mE : Mm} (hF : Fin' X G ρ n (some .int) (some (.int rE)) (RT t u w v x) mE) {x1 : Int32} {m : Mm} (h : f_X11_lostIn x1 m = some (rE, mE)) : J X G ρ n 4 0 [(0, .ref 78), (1, .int x1)] [] (RT t u w v x) m := by
  unfold f_X11_lostIn at h
  refine J_iconst hX (0 : Int32) dX11_lostIn_0 ic_0 ?_
  refine J_istore_n hX [(2, .int (0 : Int32)), (0, .ref 78), (1, .int x1)] dX11_lostIn_1 rfl (by decide) rfl ?_
  refine J_iconst hX (0 : Int32) dX11_lostIn_2 ic_0 ?_
  refine J_istore_n hX [(3, .int (0 : Int32)), (2, .int (0 : Int32)), (0, .ref 78), (1, .int x1)] dX11_lostIn_3 rfl (by decide) rfl ?_
  refine J_sub [(0, .ref 78), (1, .int x1), (2, .int (0 : Int32)), (3, .int (0 : Int32))] [2, 3, 1, 0] rfl ?_
  exact t_X11_lostIn_L4 hX hd0 hn hF FU x1 (0 : Int32) (0 : Int32)  m h
theorem c_X11_lostIn {G : GG} {l : Launch} {ρ : Nat → Nat} {n t u w v : Nat} {x : Option Nat} (hn : 126 ≤ n) {x1 : Int32} {m : Mm} {rE : Int32} {mE : Mm} (h : f_X11_lostIn x1 m = some (rE, mE)) : CT G l yX11_lostIn cX11_lostIn 4 (some .int) 0 0 0 ρ n (RT t u w v x) [.ref 78, .int x1] m (some (.int rE)) (RT t u w v x) mE := ct_of_J (by decide) rfl (Nat.le_of_ble_eq_true rfl) (fun X hX e1 e2 e3 e4 hQ hr hl => t_X11_lostIn hX (Nat.le_refl _) hn ⟨by rw [hQ, e3, e4], hr, hl⟩ h)
theorem t_X11_lostUnit_L2 {X : XX} {G : GG} {ρ : Nat → Nat} {n t u w v : Nat} {x : Option Nat} {d : Nat} (hX : Ok X G ρ cX11_lostUnit 3 RX11 d) (hd0 : 0 ≤ d) (hn : 126 ≤ n) {rE : Int32} {mE : Mm} (hF : Fin' X G ρ n (some .int) (some (.int rE)) (RT t u w v x) mE) : ∀ (k : Nat) (v1 : Int32) (v2 : Int32) (m : Mm), f_X11_lostUnit_L2 k v1 v2 m = some (rE, mE) → J X G ρ n 3 2 [(0, .ref 78), (1, .int v1), (2, .int v2)] [] (RT t u w v x) m := by
  intro k
  induction k with
  | zero => intro _ _ _ h; rw [f_X11_lostUnit_L2] at h; cases h
  | succ k ih =>
    intro v1 v2 m h
    rw [f_X11_lostUnit_L2] at h
    refine J_aload_n hX dX11_lostUnit_2 rfl 0 rfl ?_
    refine J_getR hX dX11_lostUnit_3 fl_RX11_125 (ltn ltc_78 hn) lo_78 rfl (rt_78_50 _ _ _ _ _) ?_
    refine J_bipush hX (14 : Int32) dX11_lostUnit_6 (by decide) ?_
    refine J_iconst hX (5 : Int32) dX11_lostUnit_8 ic_5 ?_
    refine J_iload_n hX dX11_lostUnit_9 rfl 1 rfl ?_
    refine J_imul hX dX11_lostUnit_10 ?_
    refine J_iadd hX dX11_lostUnit_11 ?_
    refine J_iload_n hX dX11_lostUnit_12 rfl 2 rfl ?_
    refine J_iadd hX dX11_lostUnit_13 ?_
    refine J_iaload hX dX11_lostUnit_14 (ltn ltc_117 hn) lay_117 h (fun h => ?_)
    refine J_iconst hX (2 : Int32) dX11_lostUnit_15 ic_2 ?_
    refine J_icmp_eq hX 25 dX11_lostUnit_16 (by decide) h (fun c h => ?_) (fun c h => ?_)
    · refine J_iload_n hX dX11_lostUnit_25 rfl 2 rfl ?_
      exact J_ireturn hX dX11_lostUnit_26 h hF rfl
    · refine J_iinc hX (v2 + (1 : Int32)) [(2, .int (v2 + (1 : Int32))), (0, .ref 78), (1, .int v1)] dX11_lostUnit_19 2 rfl (congrArg (fun z => v2 + z) ic_1) (by decide) rfl ?_
      refine J_goto hX 2 dX11_lostUnit_22 (by decide) ?_
      refine J_sub [(0, .ref 78), (1, .int v1), (2, .int (v2 + (1 : Int32)))] [1, 2, 0] rfl ?_
      exact ih v1 (v2 + (1 : Int32)) m h
theorem t_X11_lostUnit {X : XX} {G : GG} {ρ : Nat → Nat} {n t u w v : Nat} {x : Option Nat} {d : Nat} (hX : Ok X G ρ cX11_lostUnit 3 RX11 d) (hd0 : 0 ≤ d) (hn : 126 ≤ n) {rE : Int32} {mE : Mm} (hF : Fin' X G ρ n (some .int) (some (.int rE)) (RT t u w v x) mE) {x1 : Int32} {m : Mm} (h : f_X11_lostUnit x1 m = some (rE, mE)) : J X G ρ n 3 0 [(0, .ref 78), (1, .int x1)] [] (RT t u w v x) m := by
  unfold f_X11_lostUnit at h
  refine J_iconst hX (0 : Int32) dX11_lostUnit_0 ic_0 ?_
  refine J_istore_n hX [(2, .int (0 : Int32)), (0, .ref 78), (1, .int x1)] dX11_lostUnit_1 rfl (by decide) rfl ?_
  refine J_sub [(0, .ref 78), (1, .int x1), (2, .int (0 : Int32))] [1, 2, 0] rfl ?_
  exact t_X11_lostUnit_L2 hX hd0 hn hF FU x1 (0 : Int32)  m h
theorem c_X11_lostUnit {G : GG} {l : Launch} {ρ : Nat → Nat} {n t u w v : Nat} {x : Option Nat} (hn : 126 ≤ n) {x1 : Int32} {m : Mm} {rE : Int32} {mE : Mm} (h : f_X11_lostUnit x1 m = some (rE, mE)) : CT G l yX11_lostUnit cX11_lostUnit 3 (some .int) 0 0 0 ρ n (RT t u w v x) [.ref 78, .int x1] m (some (.int rE)) (RT t u w v x) mE := ct_of_J (by decide) rfl (Nat.le_of_ble_eq_true rfl) (fun X hX e1 e2 e3 e4 hQ hr hl => t_X11_lostUnit hX (Nat.le_refl _) hn ⟨by rw [hQ, e3, e4], hr, hl⟩ h)
theorem t_X11_isUp {X : XX} {G : GG} {ρ : Nat → Nat} {n t u w v : Nat} {x : Option Nat} {d : Nat} (hX : Ok X G ρ cX11_isUp 2 RX11 d) (hd0 : 1 ≤ d) (hn : 126 ≤ n) {rE : Int32} {mE : Mm} (hF : Fin' X G ρ n (some .boolean) (some (.int rE)) (RT t u w v x) mE) {x1 : Int32} {m : Mm} (h : f_X11_isUp x1 m = some (rE, mE)) : J X G ρ n 2 0 [(0, .ref 78), (1, .int x1)] [] (RT t u w v x) m := by
  unfold f_X11_isUp at h
  refine J_aload_n hX dX11_isUp_0 rfl 0 rfl ?_
  refine J_getR hX dX11_isUp_1 fl_RX11_125 (ltn ltc_78 hn) lo_78 rfl (rt_78_50 _ _ _ _ _) ?_
  refine J_iconst hX (0 : Int32) dX11_isUp_4 ic_0 ?_
  refine J_iaload0 hX dX11_isUp_5 (ltn ltc_117 hn) lay_117 (by decide) ?_
  refine J_iload_n hX dX11_isUp_6 rfl 1 rfl ?_
  obtain ⟨r2, m1, h0, h⟩ := bd2_some h
  refine J_callSi (As := [.int (gI m 117 (ix (0 : Int32))), .int x1]) (st := []) hX dX11_isUp_7 cw_RX11_273 (by omega) (c_X11_isIn hn  h0) rfl rfl (Nat.le_of_ble_eq_true rfl) ?_
  clear h0
  obtain ⟨gB, h⟩ := gd_some h
  exact J_ireturn hX dX11_isUp_10 h hF (isB_nar gB)
theorem c_X11_isUp {G : GG} {l : Launch} {ρ : Nat → Nat} {n t u w v : Nat} {x : Option Nat} (hn : 126 ≤ n) {x1 : Int32} {m : Mm} {rE : Int32} {mE : Mm} (h : f_X11_isUp x1 m = some (rE, mE)) : CT G l yX11_isUp cX11_isUp 2 (some .boolean) 1 0 0 ρ n (RT t u w v x) [.ref 78, .int x1] m (some (.int rE)) (RT t u w v x) mE := ct_of_J (by decide) rfl (Nat.le_of_ble_eq_true rfl) (fun X hX e1 e2 e3 e4 hQ hr hl => t_X11_isUp hX (Nat.le_refl _) hn ⟨by rw [hQ, e3, e4], hr, hl⟩ h)
theorem t_X11_awayIn_L2 {X : XX} {G : GG} {ρ : Nat → Nat} {n t u w v : Nat} {x : Option Nat} {d : Nat} (hX : Ok X G ρ cX11_awayIn 3 RX11 d) (hd0 : 0 ≤ d) (hn : 126 ≤ n) {rE : Int32} {mE : Mm} (hF : Fin' X G ρ n (some .int) (some (.int rE)) (RT t u w v x) mE) : ∀ (k : Nat) (v1 : Int32) (v2 : Int32) (m : Mm), f_X11_awayIn_L2 k v1 v2 m = some (rE, mE) → J X G ρ n 3 2 [(0, .ref 78), (1, .int v1), (2, .int v2)] [] (RT t u w v x) m := by
  intro k
  induction k with
  | zero => intro _ _ _ h; rw [f_X11_awayIn_L2] at h; cases h
  | succ k ih =>
    intro v1 v2 m h
    rw [f_X11_awayIn_L2] at h
    refine J_iload_n hX dX11_awayIn_2 rfl 2 rfl ?_
    refine J_aload_n hX dX11_awayIn_3 rfl 0 rfl ?_
    refine J_getR hX dX11_awayIn_4 fl_RX11_74 (ltn ltc_78 hn) lo_78 rfl (rt_78_33 _ _ _ _ _) ?_
    refine J_iload_n hX dX11_awayIn_7 rfl 1 rfl ?_
    refine J_iaload hX dX11_awayIn_8 (ltn ltc_100 hn) lay_100 h (fun h => ?_)
    refine J_icmp_ge hX 37 dX11_awayIn_9 (by decide) h (fun c h => ?_) (fun c h => ?_)
    · refine J_aload_n hX dX11_awayIn_12 rfl 0 rfl ?_
      refine J_getR hX dX11_awayIn_13 fl_RX11_125 (ltn ltc_78 hn) lo_78 rfl (rt_78_50 _ _ _ _ _) ?_
      refine J_bipush hX (14 : Int32) dX11_awayIn_16 (by decide) ?_
      refine J_iconst hX (5 : Int32) dX11_awayIn_18 ic_5 ?_
      refine J_iload_n hX dX11_awayIn_19 rfl 1 rfl ?_
      refine J_imul hX dX11_awayIn_20 ?_
      refine J_iadd hX dX11_awayIn_21 ?_
      refine J_iload_n hX dX11_awayIn_22 rfl 2 rfl ?_
      refine J_iadd hX dX11_awayIn_23 ?_
      refine J_iaload hX dX11_awayIn_24 (ltn ltc_117 hn) lay_117 h (fun h => ?_)
      refine J_iconst hX (1 : Int32) dX11_awayIn_25 ic_1 ?_
      refine J_icmp_ne hX 31 dX11_awayIn_26 (by decide) h (fun c h => ?_) (fun c h => ?_)
      · refine J_iload_n hX dX11_awayIn_29 rfl 2 rfl ?_
        exact J_ireturn hX dX11_awayIn_30 h hF rfl
      · refine J_iinc hX (v2 + (1 : Int32)) [(2, .int (v2 + (1 : Int32))), (0, .ref 78), (1, .int v1)] dX11_awayIn_31 2 rfl (congrArg (fun z => v2 + z) ic_1) (by decide) rfl ?_
        refine J_goto hX 2 dX11_awayIn_34 (by decide) ?_
        refine J_sub [(0, .ref 78), (1, .int v1), (2, .int (v2 + (1 : Int32)))] [1, 2, 0] rfl ?_
        exact ih v1 (v2 + (1 : Int32)) m h
    · refine J_iconst hX (-1 : Int32) dX11_awayIn_37 ic_m1 ?_
      exact J_ireturn hX dX11_awayIn_38 h hF rfl
theorem t_X11_awayIn {X : XX} {G : GG} {ρ : Nat → Nat} {n t u w v : Nat} {x : Option Nat} {d : Nat} (hX : Ok X G ρ cX11_awayIn 3 RX11 d) (hd0 : 0 ≤ d) (hn : 126 ≤ n) {rE : Int32} {mE : Mm} (hF : Fin' X G ρ n (some .int) (some (.int rE)) (RT t u w v x) mE) {x1 : Int32} {m : Mm} (h : f_X11_awayIn x1 m = some (rE, mE)) : J X G ρ n 3 0 [(0, .ref 78), (1, .int x1)] [] (RT t u w v x) m := by
  unfold f_X11_awayIn at h
  refine J_iconst hX (0 : Int32) dX11_awayIn_0 ic_0 ?_
  refine J_istore_n hX [(2, .int (0 : Int32)), (0, .ref 78), (1, .int x1)] dX11_awayIn_1 rfl (by decide) rfl ?_
  refine J_sub [(0, .ref 78), (1, .int x1), (2, .int (0 : Int32))] [1, 2, 0] rfl ?_
  exact t_X11_awayIn_L2 hX hd0 hn hF FU x1 (0 : Int32)  m h
theorem c_X11_awayIn {G : GG} {l : Launch} {ρ : Nat → Nat} {n t u w v : Nat} {x : Option Nat} (hn : 126 ≤ n) {x1 : Int32} {m : Mm} {rE : Int32} {mE : Mm} (h : f_X11_awayIn x1 m = some (rE, mE)) : CT G l yX11_awayIn cX11_awayIn 3 (some .int) 0 0 0 ρ n (RT t u w v x) [.ref 78, .int x1] m (some (.int rE)) (RT t u w v x) mE := ct_of_J (by decide) rfl (Nat.le_of_ble_eq_true rfl) (fun X hX e1 e2 e3 e4 hQ hr hl => t_X11_awayIn hX (Nat.le_refl _) hn ⟨by rw [hQ, e3, e4], hr, hl⟩ h)
theorem t_X11_diskNow {X : XX} {G : GG} {ρ : Nat → Nat} {n t u w v : Nat} {x : Option Nat} {d : Nat} (hX : Ok X G ρ cX11_diskNow 3 RX11 d) (hd0 : 0 ≤ d) (hn : 126 ≤ n) {rE : Int32} {mE : Mm} (hF : Fin' X G ρ n (some .int) (some (.int rE)) (RT t u w v x) mE) {x1 : Int32} {m : Mm} (h : f_X11_diskNow x1 m = some (rE, mE)) : J X G ρ n 3 0 [(0, .ref 78), (1, .int x1)] [] (RT t u w v x) m := by
  unfold f_X11_diskNow at h
  refine J_aload_n hX dX11_diskNow_0 rfl 0 rfl ?_
  refine J_getR hX dX11_diskNow_1 fl_RX11_125 (ltn ltc_78 hn) lo_78 rfl (rt_78_50 _ _ _ _ _) ?_
  refine J_bipush hX (14 : Int32) dX11_diskNow_4 (by decide) ?_
  refine J_iload_n hX dX11_diskNow_6 rfl 1 rfl ?_
  refine J_iadd hX dX11_diskNow_7 ?_
  refine J_iaload hX dX11_diskNow_8 (ltn ltc_117 hn) lay_117 h (fun h => ?_)
  refine J_istore_n hX [(2, .int (gI m 117 (ix ((14 : Int32) + x1)))), (0, .ref 78), (1, .int x1)] dX11_diskNow_9 rfl (by decide) rfl ?_
  refine J_iload_n hX dX11_diskNow_10 rfl 0 rfl ?_
  refine J_iconst hX (2 : Int32) dX11_diskNow_11 ic_2 ?_
  refine J_icmp_ne hX 19 dX11_diskNow_12 (by decide) h (fun c h => ?_) (fun c h => ?_)
  · refine J_iconst hX (-1 : Int32) dX11_diskNow_15 ic_m1 ?_
    refine J_goto hX 41 dX11_diskNow_16 (by decide) ?_
    exact J_ireturn hX dX11_diskNow_41 h hF rfl
  · refine J_iload_n hX dX11_diskNow_19 rfl 0 rfl ?_
    refine J_iconst hX (1 : Int32) dX11_diskNow_20 ic_1 ?_
    refine J_icmp_ne hX 35 dX11_diskNow_21 (by decide) h (fun c h => ?_) (fun c h => ?_)
    · refine J_aload_n hX dX11_diskNow_24 rfl 1 rfl ?_
      refine J_getR hX dX11_diskNow_25 fl_RX11_83 (ltn ltc_78 hn) lo_78 rfl (rt_78_36 _ _ _ _ _) ?_
      refine J_iload_n hX dX11_diskNow_28 rfl 2 rfl ?_
      refine J_iconst hX (5 : Int32) dX11_diskNow_29 ic_5 ?_
      refine J_idiv0 hX dX11_diskNow_30 (by decide) ?_
      refine J_iaload hX dX11_diskNow_31 (ltn ltc_103 hn) lay_103 h (fun h => ?_)
      refine J_goto hX 41 dX11_diskNow_32 (by decide) ?_
      exact J_ireturn hX dX11_diskNow_41 h hF rfl
    · refine J_aload_n hX dX11_diskNow_35 rfl 1 rfl ?_
      refine J_getR hX dX11_diskNow_36 fl_RX11_89 (ltn ltc_78 hn) lo_78 rfl (rt_78_38 _ _ _ _ _) ?_
      refine J_iload_n hX dX11_diskNow_39 rfl 2 rfl ?_
      refine J_iaload hX dX11_diskNow_40 (ltn ltc_105 hn) lay_105 h (fun h => ?_)
      exact J_ireturn hX dX11_diskNow_41 h hF rfl
theorem c_X11_diskNow {G : GG} {l : Launch} {ρ : Nat → Nat} {n t u w v : Nat} {x : Option Nat} (hn : 126 ≤ n) {x1 : Int32} {m : Mm} {rE : Int32} {mE : Mm} (h : f_X11_diskNow x1 m = some (rE, mE)) : CT G l yX11_diskNow cX11_diskNow 3 (some .int) 0 0 0 ρ n (RT t u w v x) [.ref 78, .int x1] m (some (.int rE)) (RT t u w v x) mE := ct_of_J (by decide) rfl (Nat.le_of_ble_eq_true rfl) (fun X hX e1 e2 e3 e4 hQ hr hl => t_X11_diskNow hX (Nat.le_refl _) hn ⟨by rw [hQ, e3, e4], hr, hl⟩ h)
theorem t_X11_loads0 {X : XX} {G : GG} {ρ : Nat → Nat} {n t u w v : Nat} {x : Option Nat} {d : Nat} (hX : Ok X G ρ cX11_loads0 4 RX11 d) (hd0 : 1 ≤ d) (hn : 126 ≤ n) {mE : Mm} (hF : Fin' X G ρ n none none (RT t u w v x) mE) {x1 : Int32} {x2 : Int32} {m : Mm} (h : f_X11_loads0 x1 x2 m = some mE) : J X G ρ n 4 0 [(0, .ref 78), (1, .int x1), (2, .int x2)] [] (RT t u w v x) m := by
  unfold f_X11_loads0 at h
  refine J_aload_n hX dX11_loads0_0 rfl 0 rfl ?_
  refine J_iload_n hX dX11_loads0_1 rfl 1 rfl ?_
  obtain ⟨r2, m1, h0, h⟩ := bd2_some h
  refine J_callVi (As := [.int x1]) (st := []) hX dX11_loads0_2 cw_RX11_358 (by omega) (c_X11_diskNow hn  h0) (ltn ltc_78 hn) lo_78 (by decide) rfl rfl rfl (Nat.le_of_ble_eq_true rfl) ?_
  clear h0
  refine J_istore_n hX [(3, .int r2), (0, .ref 78), (1, .int x1), (2, .int x2)] dX11_loads0_5 rfl (by decide) rfl ?_
  refine J_iload_n hX dX11_loads0_6 rfl 0 rfl ?_
  refine J_if_lt hX 22 dX11_loads0_7 (by decide) h (fun c h => ?_) (fun c h => ?_)
  · exact J_return hX dX11_loads0_22 h hF
  · refine J_aload_n hX dX11_loads0_10 rfl 1 rfl ?_
    refine J_getR hX dX11_loads0_11 fl_RX11_125 (ltn ltc_78 hn) lo_78 rfl (rt_78_50 _ _ _ _ _) ?_
    refine J_iconst hX (1 : Int32) dX11_loads0_14 ic_1 ?_
    refine J_iload_n hX dX11_loads0_15 rfl 0 rfl ?_
    refine J_iadd hX dX11_loads0_16 ?_
    refine J_dup2 hX dX11_loads0_17 rfl rfl ?_
    refine J_iaload hX dX11_loads0_18 (ltn ltc_117 hn) lay_117 h (fun h => ?_)
    refine J_iload_n hX dX11_loads0_19 rfl 3 rfl ?_
    refine J_iadd hX dX11_loads0_20 ?_
    refine J_iastore hX dX11_loads0_21 (ltn ltc_117 hn) lay_117 h (fun m3 h => ?_)
    exact J_return hX dX11_loads0_22 h hF
theorem c_X11_loads0 {G : GG} {l : Launch} {ρ : Nat → Nat} {n t u w v : Nat} {x : Option Nat} (hn : 126 ≤ n) {x1 : Int32} {x2 : Int32} {m : Mm} {mE : Mm} (h : f_X11_loads0 x1 x2 m = some mE) : CT G l yX11_loads0 cX11_loads0 4 none 1 0 0 ρ n (RT t u w v x) [.ref 78, .int x1, .int x2] m none (RT t u w v x) mE := ct_of_J (by decide) rfl (Nat.le_of_ble_eq_true rfl) (fun X hX e1 e2 e3 e4 hQ hr hl => t_X11_loads0 hX (Nat.le_refl _) hn ⟨by rw [hQ, e3, e4], hr, hl⟩ h)
theorem t_X11_isDisk {X : XX} {G : GG} {ρ : Nat → Nat} {n t u w v : Nat} {x : Option Nat} {d : Nat} (hX : Ok X G ρ cX11_isDisk 2 RX11 d) (hd0 : 0 ≤ d) (hn : 126 ≤ n) {rE : Int32} {mE : Mm} (hF : Fin' X G ρ n (some .boolean) (some (.int rE)) (RT t u w v x) mE) {x1 : Int32} {m : Mm} (h : f_X11_isDisk x1 m = some (rE, mE)) : J X G ρ n 2 0 [(0, .ref 78), (1, .int x1)] [] (RT t u w v x) m := by
  unfold f_X11_isDisk at h
  refine J_iload_n hX dX11_isDisk_0 rfl 1 rfl ?_
  refine J_if_lt hX 18 dX11_isDisk_1 (by decide) h (fun c h => ?_) (fun c h => ?_)
  · refine J_iconst hX (0 : Int32) dX11_isDisk_18 ic_0 ?_
    exact J_ireturn hX dX11_isDisk_19 h hF narrow_b0
  · refine J_iload_n hX dX11_isDisk_4 rfl 1 rfl ?_
    refine J_aload_n hX dX11_isDisk_5 rfl 0 rfl ?_
    refine J_getR hX dX11_isDisk_6 fl_RX11_13 (ltn ltc_78 hn) lo_78 rfl (rt_78_10 _ _ _ _ _) ?_
    refine J_iconst hX (0 : Int32) dX11_isDisk_9 ic_0 ?_
    refine J_iaload0 hX dX11_isDisk_10 (ltn ltc_80 hn) lay_80 (by decide) ?_
    refine J_icmp_ge hX 18 dX11_isDisk_11 (by decide) h (fun c h => ?_) (fun c h => ?_)
    · refine J_iconst hX (1 : Int32) dX11_isDisk_14 ic_1 ?_
      refine J_goto hX 19 dX11_isDisk_15 (by decide) ?_
      exact J_ireturn hX dX11_isDisk_19 h hF narrow_b1
    · refine J_iconst hX (0 : Int32) dX11_isDisk_18 ic_0 ?_
      exact J_ireturn hX dX11_isDisk_19 h hF narrow_b0
theorem c_X11_isDisk {G : GG} {l : Launch} {ρ : Nat → Nat} {n t u w v : Nat} {x : Option Nat} (hn : 126 ≤ n) {x1 : Int32} {m : Mm} {rE : Int32} {mE : Mm} (h : f_X11_isDisk x1 m = some (rE, mE)) : CT G l yX11_isDisk cX11_isDisk 2 (some .boolean) 0 0 0 ρ n (RT t u w v x) [.ref 78, .int x1] m (some (.int rE)) (RT t u w v x) mE := ct_of_J (by decide) rfl (Nat.le_of_ble_eq_true rfl) (fun X hX e1 e2 e3 e4 hQ hr hl => t_X11_isDisk hX (Nat.le_refl _) hn ⟨by rw [hQ, e3, e4], hr, hl⟩ h)
theorem t_X11_paritiesOn_L4 {X : XX} {G : GG} {ρ : Nat → Nat} {n t u w v : Nat} {x : Option Nat} {d : Nat} (hX : Ok X G ρ cX11_paritiesOn 4 RX11 d) (hd0 : 0 ≤ d) (hn : 126 ≤ n) {rE : Int32} {mE : Mm} (hF : Fin' X G ρ n (some .int) (some (.int rE)) (RT t u w v x) mE) : ∀ (k : Nat) (v1 : Int32) (v2 : Int32) (v3 : Int32) (m : Mm), f_X11_paritiesOn_L4 k v1 v2 v3 m = some (rE, mE) → J X G ρ n 4 4 [(0, .ref 78), (1, .int v1), (2, .int v2), (3, .int v3)] [] (RT t u w v x) m := by
  intro k
  induction k with
  | zero => intro _ _ _ _ h; rw [f_X11_paritiesOn_L4] at h; cases h
  | succ k ih =>
    intro v1 v2 v3 m h
    rw [f_X11_paritiesOn_L4] at h
    refine J_iload_n hX dX11_paritiesOn_4 rfl 3 rfl ?_
    refine J_aload_n hX dX11_paritiesOn_5 rfl 0 rfl ?_
    refine J_getR hX dX11_paritiesOn_6 fl_RX11_71 (ltn ltc_78 hn) lo_78 rfl (rt_78_32 _ _ _ _ _) ?_
    refine J_iconst hX (0 : Int32) dX11_paritiesOn_9 ic_0 ?_
    refine J_iaload0 hX dX11_paritiesOn_10 (ltn ltc_99 hn) lay_99 (by decide) ?_
    refine J_icmp_ge hX 47 dX11_paritiesOn_11 (by decide) h (fun c h => ?_) (fun c h => ?_)
    · refine J_iload_n hX dX11_paritiesOn_14 rfl 2 rfl ?_
      refine J_aload_n hX dX11_paritiesOn_15 rfl 0 rfl ?_
      refine J_getR hX dX11_paritiesOn_16 fl_RX11_89 (ltn ltc_78 hn) lo_78 rfl (rt_78_38 _ _ _ _ _) ?_
      refine J_iconst hX (5 : Int32) dX11_paritiesOn_19 ic_5 ?_
      refine J_iload_n hX dX11_paritiesOn_20 rfl 3 rfl ?_
      refine J_imul hX dX11_paritiesOn_21 ?_
      refine J_aload_n hX dX11_paritiesOn_22 rfl 0 rfl ?_
      refine J_getR hX dX11_paritiesOn_23 fl_RX11_80 (ltn ltc_78 hn) lo_78 rfl (rt_78_35 _ _ _ _ _) ?_
      refine J_iload_n hX dX11_paritiesOn_26 rfl 3 rfl ?_
      refine J_iaload hX dX11_paritiesOn_27 (ltn ltc_102 hn) lay_102 h (fun h => ?_)
      refine J_iadd hX dX11_paritiesOn_28 ?_
      refine J_iaload hX dX11_paritiesOn_29 (ltn ltc_105 hn) lay_105 h (fun h => ?_)
      refine J_iload_n hX dX11_paritiesOn_30 rfl 1 rfl ?_
      refine J_icmp_ne hX 38 dX11_paritiesOn_31 (by decide) h (fun c h => ?_) (fun c h => ?_)
      · refine J_iconst hX (1 : Int32) dX11_paritiesOn_34 ic_1 ?_
        refine J_goto hX 39 dX11_paritiesOn_35 (by decide) ?_
        refine J_iadd hX dX11_paritiesOn_39 ?_
        refine J_istore_n hX [(2, .int (v2 + (1 : Int32))), (0, .ref 78), (1, .int v1), (3, .int v3)] dX11_paritiesOn_40 rfl (by decide) rfl ?_
        refine J_iinc hX (v3 + (1 : Int32)) [(3, .int (v3 + (1 : Int32))), (2, .int (v2 + (1 : Int32))), (0, .ref 78), (1, .int v1)] dX11_paritiesOn_41 3 rfl (congrArg (fun z => v3 + z) ic_1) (by decide) rfl ?_
        refine J_goto hX 4 dX11_paritiesOn_44 (by decide) ?_
        refine J_sub [(0, .ref 78), (1, .int v1), (2, .int (v2 + (1 : Int32))), (3, .int (v3 + (1 : Int32)))] [2, 3, 1, 0] rfl ?_
        exact ih v1 (v2 + (1 : Int32)) (v3 + (1 : Int32)) m h
      · refine J_iconst hX (0 : Int32) dX11_paritiesOn_38 ic_0 ?_
        refine J_iadd hX dX11_paritiesOn_39 ?_
        refine J_istore_n hX [(2, .int (v2 + (0 : Int32))), (0, .ref 78), (1, .int v1), (3, .int v3)] dX11_paritiesOn_40 rfl (by decide) rfl ?_
        refine J_iinc hX (v3 + (1 : Int32)) [(3, .int (v3 + (1 : Int32))), (2, .int (v2 + (0 : Int32))), (0, .ref 78), (1, .int v1)] dX11_paritiesOn_41 3 rfl (congrArg (fun z => v3 + z) ic_1) (by decide) rfl ?_
        refine J_goto hX 4 dX11_paritiesOn_44 (by decide) ?_
        refine J_sub [(0, .ref 78), (1, .int v1), (2, .int (v2 + (0 : Int32))), (3, .int (v3 + (1 : Int32)))] [2, 3, 1, 0] rfl ?_
        exact ih v1 (v2 + (0 : Int32)) (v3 + (1 : Int32)) m h
    · refine J_iload_n hX dX11_paritiesOn_47 rfl 2 rfl ?_
      exact J_ireturn hX dX11_paritiesOn_48 h hF rfl
theorem t_X11_paritiesOn {X : XX} {G : GG} {ρ : Nat → Nat} {n t u w v : Nat} {x : Option Nat} {d : Nat} (hX : Ok X G ρ cX11_paritiesOn 4 RX11 d) (hd0 : 0 ≤ d) (hn : 126 ≤ n) {rE : Int32} {mE : Mm} (hF : Fin' X G ρ n (some .int) (some (.int rE)) (RT t u w v x) mE) {x1 : Int32} {m : Mm} (h : f_X11_paritiesOn x1 m = some (rE, mE)) : J X G ρ n 4 0 [(0, .ref 78), (1, .int x1)] [] (RT t u w v x) m := by
  unfold f_X11_paritiesOn at h
  refine J_iconst hX (0 : Int32) dX11_paritiesOn_0 ic_0 ?_
  refine J_istore_n hX [(2, .int (0 : Int32)), (0, .ref 78), (1, .int x1)] dX11_paritiesOn_1 rfl (by decide) rfl ?_
  refine J_iconst hX (0 : Int32) dX11_paritiesOn_2 ic_0 ?_
  refine J_istore_n hX [(3, .int (0 : Int32)), (2, .int (0 : Int32)), (0, .ref 78), (1, .int x1)] dX11_paritiesOn_3 rfl (by decide) rfl ?_
  refine J_sub [(0, .ref 78), (1, .int x1), (2, .int (0 : Int32)), (3, .int (0 : Int32))] [2, 3, 1, 0] rfl ?_
  exact t_X11_paritiesOn_L4 hX hd0 hn hF FU x1 (0 : Int32) (0 : Int32)  m h
theorem c_X11_paritiesOn {G : GG} {l : Launch} {ρ : Nat → Nat} {n t u w v : Nat} {x : Option Nat} (hn : 126 ≤ n) {x1 : Int32} {m : Mm} {rE : Int32} {mE : Mm} (h : f_X11_paritiesOn x1 m = some (rE, mE)) : CT G l yX11_paritiesOn cX11_paritiesOn 4 (some .int) 0 0 0 ρ n (RT t u w v x) [.ref 78, .int x1] m (some (.int rE)) (RT t u w v x) mE := ct_of_J (by decide) rfl (Nat.le_of_ble_eq_true rfl) (fun X hX e1 e2 e3 e4 hQ hr hl => t_X11_paritiesOn hX (Nat.le_refl _) hn ⟨by rw [hQ, e3, e4], hr, hl⟩ h)
theorem t_X11_ofDisk {X : XX} {G : GG} {ρ : Nat → Nat} {n t u w v : Nat} {x : Option Nat} {d : Nat} (hX : Ok X G ρ cX11_ofDisk 3 RX11 d) (hd0 : 2 ≤ d) (hn : 126 ≤ n) {rE : Int32} {mE : Mm} (hF : Fin' X G ρ n (some .int) (some (.int rE)) (RT t u w v x) mE) {x1 : Int32} {x2 : Int32} {m : Mm} (h : f_X11_ofDisk x1 x2 m = some (rE, mE)) : J X G ρ n 3 0 [(0, .ref 78), (1, .int x1), (2, .int x2)] [] (RT t u w v x) m := by
  unfold f_X11_ofDisk at h
  refine J_iload_n hX dX11_ofDisk_0 rfl 2 rfl ?_
  refine J_iconst hX (1 : Int32) dX11_ofDisk_1 ic_1 ?_
  refine J_icmp_ne hX 20 dX11_ofDisk_2 (by decide) h (fun c h => ?_) (fun c h => ?_)
  · refine J_aload_n hX dX11_ofDisk_5 rfl 0 rfl ?_
    refine J_iconst hX (0 : Int32) dX11_ofDisk_6 ic_0 ?_
    refine J_iload_n hX dX11_ofDisk_7 rfl 1 rfl ?_
    refine J_aload_n hX dX11_ofDisk_8 rfl 0 rfl ?_
    refine J_getR hX dX11_ofDisk_9 fl_RX11_71 (ltn ltc_78 hn) lo_78 rfl (rt_78_32 _ _ _ _ _) ?_
    refine J_iconst hX (0 : Int32) dX11_ofDisk_12 ic_0 ?_
    refine J_iaload0 hX dX11_ofDisk_13 (ltn ltc_99 hn) lay_99 (by decide) ?_
    obtain ⟨r6, m5, h0, h⟩ := bd2_some h
    refine J_callVi (As := [.int (0 : Int32), .int x1, .int (gI m 99 (ix (0 : Int32)))]) (st := []) hX dX11_ofDisk_14 cw_RX11_316 (by omega) (c_X11_unitsOn hn  h0) (ltn ltc_78 hn) lo_78 (by decide) rfl rfl rfl (Nat.le_of_ble_eq_true rfl) ?_
    clear h0
    refine J_goto hX 45 dX11_ofDisk_17 (by decide) ?_
    exact J_ireturn hX dX11_ofDisk_45 h hF rfl
  · refine J_iload_n hX dX11_ofDisk_20 rfl 2 rfl ?_
    refine J_iconst hX (2 : Int32) dX11_ofDisk_21 ic_2 ?_
    refine J_icmp_ne hX 33 dX11_ofDisk_22 (by decide) h (fun c h => ?_) (fun c h => ?_)
    · refine J_aload_n hX dX11_ofDisk_25 rfl 0 rfl ?_
      refine J_iload_n hX dX11_ofDisk_26 rfl 1 rfl ?_
      obtain ⟨r4, m3, h0, h⟩ := bd2_some h
      refine J_callVi (As := [.int x1]) (st := []) hX dX11_ofDisk_27 cw_RX11_388 (by omega) (c_X11_paritiesOn hn  h0) (ltn ltc_78 hn) lo_78 (by decide) rfl rfl rfl (Nat.le_of_ble_eq_true rfl) ?_
      clear h0
      refine J_goto hX 45 dX11_ofDisk_30 (by decide) ?_
      exact J_ireturn hX dX11_ofDisk_45 h hF rfl
    · refine J_aload_n hX dX11_ofDisk_33 rfl 0 rfl ?_
      refine J_iconst hX (0 : Int32) dX11_ofDisk_34 ic_0 ?_
      refine J_iload_n hX dX11_ofDisk_35 rfl 1 rfl ?_
      refine J_aload_n hX dX11_ofDisk_36 rfl 0 rfl ?_
      refine J_getR hX dX11_ofDisk_37 fl_RX11_71 (ltn ltc_78 hn) lo_78 rfl (rt_78_32 _ _ _ _ _) ?_
      refine J_iconst hX (0 : Int32) dX11_ofDisk_40 ic_0 ?_
      refine J_iaload0 hX dX11_ofDisk_41 (ltn ltc_99 hn) lay_99 (by decide) ?_
      obtain ⟨r2, m1, h0, h⟩ := bd2_some h
      refine J_callVi (As := [.int (0 : Int32), .int x1, .int (gI m 99 (ix (0 : Int32)))]) (st := []) hX dX11_ofDisk_42 cw_RX11_312 (by omega) (c_X11_sparesOn hn  h0) (ltn ltc_78 hn) lo_78 (by decide) rfl rfl rfl (Nat.le_of_ble_eq_true rfl) ?_
      clear h0
      exact J_ireturn hX dX11_ofDisk_45 h hF rfl
theorem c_X11_ofDisk {G : GG} {l : Launch} {ρ : Nat → Nat} {n t u w v : Nat} {x : Option Nat} (hn : 126 ≤ n) {x1 : Int32} {x2 : Int32} {m : Mm} {rE : Int32} {mE : Mm} (h : f_X11_ofDisk x1 x2 m = some (rE, mE)) : CT G l yX11_ofDisk cX11_ofDisk 3 (some .int) 2 0 0 ρ n (RT t u w v x) [.ref 78, .int x1, .int x2] m (some (.int rE)) (RT t u w v x) mE := ct_of_J (by decide) rfl (Nat.le_of_ble_eq_true rfl) (fun X hX e1 e2 e3 e4 hQ hr hl => t_X11_ofDisk hX (Nat.le_refl _) hn ⟨by rw [hQ, e3, e4], hr, hl⟩ h)
theorem t_X11_thereOn_L17 {X : XX} {G : GG} {ρ : Nat → Nat} {n t u w v : Nat} {x : Option Nat} {d : Nat} (hX : Ok X G ρ cX11_thereOn 5 RX11 d) (hd0 : 1 ≤ d) (hn : 126 ≤ n) {rE : Int32} {mE : Mm} (hF : Fin' X G ρ n (some .int) (some (.int rE)) (RT t u w v x) mE) {v1 : Int32} {v3 : Int32} {K : Int32 → Mm → Option (Int32 × Mm)} (hK : ∀ (w2 : Int32) (m : Mm), K w2 m = some (rE, mE) → J X G ρ n 5 56 [(0, .ref 78), (1, .int v1), (2, .int w2), (3, .int v3)] [] (RT t u w v x) m) : ∀ (k : Nat) (v2 : Int32) (v4 : Int32) (m : Mm), f_X11_thereOn_L17 v1 v3 K k v2 v4 m = some (rE, mE) → J X G ρ n 5 17 [(0, .ref 78), (1, .int v1), (2, .int v2), (3, .int v3), (4, .int v4)] [] (RT t u w v x) m := by
  intro k
  induction k with
  | zero => intro _ _ _ h; rw [f_X11_thereOn_L17] at h; cases h
  | succ k ih =>
    intro v2 v4 m h
    rw [f_X11_thereOn_L17] at h
    refine J_iload hX dX11_thereOn_17 4 rfl ?_
    refine J_aload_n hX dX11_thereOn_19 rfl 0 rfl ?_
    refine J_getR hX dX11_thereOn_20 fl_RX11_74 (ltn ltc_78 hn) lo_78 rfl (rt_78_33 _ _ _ _ _) ?_
    refine J_iload_n hX dX11_thereOn_23 rfl 3 rfl ?_
    refine J_iaload hX dX11_thereOn_24 (ltn ltc_100 hn) lay_100 h (fun h => ?_)
    refine J_icmp_ge hX 56 dX11_thereOn_25 (by decide) h (fun c h => ?_) (fun c h => ?_)
    · refine J_iload_n hX dX11_thereOn_28 rfl 2 rfl ?_
      refine J_aload_n hX dX11_thereOn_29 rfl 0 rfl ?_
      refine J_iconst hX (5 : Int32) dX11_thereOn_30 ic_5 ?_
      refine J_iload_n hX dX11_thereOn_31 rfl 3 rfl ?_
      refine J_imul hX dX11_thereOn_32 ?_
      refine J_iload hX dX11_thereOn_33 4 rfl ?_
      refine J_iadd hX dX11_thereOn_35 ?_
      obtain ⟨r2, m1, h0, h⟩ := bd2_some h
      refine J_callVi (As := [.int (((5 : Int32) * v3) + v4)]) (st := [.int v2]) hX dX11_thereOn_36 cw_RX11_358 (by omega) (c_X11_diskNow hn  h0) (ltn ltc_78 hn) lo_78 (by decide) rfl rfl rfl (Nat.le_of_ble_eq_true rfl) ?_
      clear h0
      refine J_iload_n hX dX11_thereOn_39 rfl 1 rfl ?_
      refine J_icmp_ne hX 47 dX11_thereOn_40 (by decide) h (fun c h => ?_) (fun c h => ?_)
      · refine J_iconst hX (1 : Int32) dX11_thereOn_43 ic_1 ?_
        refine J_goto hX 48 dX11_thereOn_44 (by decide) ?_
        refine J_iadd hX dX11_thereOn_48 ?_
        refine J_istore_n hX [(2, .int (v2 + (1 : Int32))), (0, .ref 78), (1, .int v1), (3, .int v3), (4, .int v4)] dX11_thereOn_49 rfl (by decide) rfl ?_
        refine J_iinc hX (v4 + (1 : Int32)) [(4, .int (v4 + (1 : Int32))), (2, .int (v2 + (1 : Int32))), (0, .ref 78), (1, .int v1), (3, .int v3)] dX11_thereOn_50 4 rfl (congrArg (fun z => v4 + z) ic_1) (by decide) rfl ?_
        refine J_goto hX 17 dX11_thereOn_53 (by decide) ?_
        refine J_sub [(0, .ref 78), (1, .int v1), (2, .int (v2 + (1 : Int32))), (3, .int v3), (4, .int (v4 + (1 : Int32)))] [2, 3, 1, 4, 0] rfl ?_
        exact ih (v2 + (1 : Int32)) (v4 + (1 : Int32)) m1 h
      · refine J_iconst hX (0 : Int32) dX11_thereOn_47 ic_0 ?_
        refine J_iadd hX dX11_thereOn_48 ?_
        refine J_istore_n hX [(2, .int (v2 + (0 : Int32))), (0, .ref 78), (1, .int v1), (3, .int v3), (4, .int v4)] dX11_thereOn_49 rfl (by decide) rfl ?_
        refine J_iinc hX (v4 + (1 : Int32)) [(4, .int (v4 + (1 : Int32))), (2, .int (v2 + (0 : Int32))), (0, .ref 78), (1, .int v1), (3, .int v3)] dX11_thereOn_50 4 rfl (congrArg (fun z => v4 + z) ic_1) (by decide) rfl ?_
        refine J_goto hX 17 dX11_thereOn_53 (by decide) ?_
        refine J_sub [(0, .ref 78), (1, .int v1), (2, .int (v2 + (0 : Int32))), (3, .int v3), (4, .int (v4 + (1 : Int32)))] [2, 3, 1, 4, 0] rfl ?_
        exact ih (v2 + (0 : Int32)) (v4 + (1 : Int32)) m1 h
    · refine J_sub [(0, .ref 78), (1, .int v1), (2, .int v2), (3, .int v3)] [0, 1, 2, 3] rfl ?_
      exact hK v2 m h
theorem t_X11_thereOn_L4 {X : XX} {G : GG} {ρ : Nat → Nat} {n t u w v : Nat} {x : Option Nat} {d : Nat} (hX : Ok X G ρ cX11_thereOn 5 RX11 d) (hd0 : 1 ≤ d) (hn : 126 ≤ n) {rE : Int32} {mE : Mm} (hF : Fin' X G ρ n (some .int) (some (.int rE)) (RT t u w v x) mE) : ∀ (k : Nat) (v1 : Int32) (v2 : Int32) (v3 : Int32) (m : Mm), f_X11_thereOn_L4 k v1 v2 v3 m = some (rE, mE) → J X G ρ n 5 4 [(0, .ref 78), (1, .int v1), (2, .int v2), (3, .int v3)] [] (RT t u w v x) m := by
  intro k
  induction k with
  | zero => intro _ _ _ _ h; rw [f_X11_thereOn_L4] at h; cases h
  | succ k ih =>
    intro v1 v2 v3 m h
    rw [f_X11_thereOn_L4] at h
    refine J_iload_n hX dX11_thereOn_4 rfl 3 rfl ?_
    refine J_aload_n hX dX11_thereOn_5 rfl 0 rfl ?_
    refine J_getR hX dX11_thereOn_6 fl_RX11_71 (ltn ltc_78 hn) lo_78 rfl (rt_78_32 _ _ _ _ _) ?_
    refine J_iconst hX (0 : Int32) dX11_thereOn_9 ic_0 ?_
    refine J_iaload0 hX dX11_thereOn_10 (ltn ltc_99 hn) lay_99 (by decide) ?_
    refine J_icmp_ge hX 62 dX11_thereOn_11 (by decide) h (fun c h => ?_) (fun c h => ?_)
    · refine J_iconst hX (0 : Int32) dX11_thereOn_14 ic_0 ?_
      refine J_istore hX [(4, .int (0 : Int32)), (0, .ref 78), (1, .int v1), (2, .int v2), (3, .int v3)] dX11_thereOn_15 (by decide) rfl ?_
      refine J_sub [(0, .ref 78), (1, .int v1), (2, .int v2), (3, .int v3), (4, .int (0 : Int32))] [1, 2, 3, 4, 0] rfl ?_
      refine t_X11_thereOn_L17 hX hd0 hn hF (fun w3 m4 h => ?_) FU v2 (0 : Int32) m h
      refine J_iinc hX (v3 + (1 : Int32)) [(3, .int (v3 + (1 : Int32))), (0, .ref 78), (1, .int v1), (2, .int w3)] dX11_thereOn_56 3 rfl (congrArg (fun z => v3 + z) ic_1) (by decide) rfl ?_
      refine J_goto hX 4 dX11_thereOn_59 (by decide) ?_
      refine J_sub [(0, .ref 78), (1, .int v1), (2, .int w3), (3, .int (v3 + (1 : Int32)))] [1, 2, 3, 0] rfl ?_
      exact ih v1 w3 (v3 + (1 : Int32)) m4 h
    · refine J_iload_n hX dX11_thereOn_62 rfl 2 rfl ?_
      exact J_ireturn hX dX11_thereOn_63 h hF rfl
theorem t_X11_thereOn {X : XX} {G : GG} {ρ : Nat → Nat} {n t u w v : Nat} {x : Option Nat} {d : Nat} (hX : Ok X G ρ cX11_thereOn 5 RX11 d) (hd0 : 1 ≤ d) (hn : 126 ≤ n) {rE : Int32} {mE : Mm} (hF : Fin' X G ρ n (some .int) (some (.int rE)) (RT t u w v x) mE) {x1 : Int32} {m : Mm} (h : f_X11_thereOn x1 m = some (rE, mE)) : J X G ρ n 5 0 [(0, .ref 78), (1, .int x1)] [] (RT t u w v x) m := by
  unfold f_X11_thereOn at h
  refine J_iconst hX (0 : Int32) dX11_thereOn_0 ic_0 ?_
  refine J_istore_n hX [(2, .int (0 : Int32)), (0, .ref 78), (1, .int x1)] dX11_thereOn_1 rfl (by decide) rfl ?_
  refine J_iconst hX (0 : Int32) dX11_thereOn_2 ic_0 ?_
  refine J_istore_n hX [(3, .int (0 : Int32)), (2, .int (0 : Int32)), (0, .ref 78), (1, .int x1)] dX11_thereOn_3 rfl (by decide) rfl ?_
  refine J_sub [(0, .ref 78), (1, .int x1), (2, .int (0 : Int32)), (3, .int (0 : Int32))] [2, 3, 1, 0] rfl ?_
  exact t_X11_thereOn_L4 hX hd0 hn hF FU x1 (0 : Int32) (0 : Int32)  m h
theorem c_X11_thereOn {G : GG} {l : Launch} {ρ : Nat → Nat} {n t u w v : Nat} {x : Option Nat} (hn : 126 ≤ n) {x1 : Int32} {m : Mm} {rE : Int32} {mE : Mm} (h : f_X11_thereOn x1 m = some (rE, mE)) : CT G l yX11_thereOn cX11_thereOn 5 (some .int) 1 0 0 ρ n (RT t u w v x) [.ref 78, .int x1] m (some (.int rE)) (RT t u w v x) mE := ct_of_J (by decide) rfl (Nat.le_of_ble_eq_true rfl) (fun X hX e1 e2 e3 e4 hQ hr hl => t_X11_thereOn hX (Nat.le_refl _) hn ⟨by rw [hQ, e3, e4], hr, hl⟩ h)
theorem t_X11_isDatum {X : XX} {G : GG} {ρ : Nat → Nat} {n t u w v : Nat} {x : Option Nat} {d : Nat} (hX : Ok X G ρ cX11_isDatum 2 RX11 d) (hd0 : 0 ≤ d) (hn : 126 ≤ n) {rE : Int32} {mE : Mm} (hF : Fin' X G ρ n (some .boolean) (some (.int rE)) (RT t u w v x) mE) {x1 : Int32} {m : Mm} (h : f_X11_isDatum x1 m = some (rE, mE)) : J X G ρ n 2 0 [(0, .ref 78), (1, .int x1)] [] (RT t u w v x) m := by
  unfold f_X11_isDatum at h
  refine J_iload_n hX dX11_isDatum_0 rfl 1 rfl ?_
  refine J_if_lt hX 18 dX11_isDatum_1 (by decide) h (fun c h => ?_) (fun c h => ?_)
  · refine J_iconst hX (0 : Int32) dX11_isDatum_18 ic_0 ?_
    exact J_ireturn hX dX11_isDatum_19 h hF narrow_b0
  · refine J_iload_n hX dX11_isDatum_4 rfl 1 rfl ?_
    refine J_aload_n hX dX11_isDatum_5 rfl 0 rfl ?_
    refine J_getR hX dX11_isDatum_6 fl_RX11_98 (ltn ltc_78 hn) lo_78 rfl (rt_78_41 _ _ _ _ _) ?_
    refine J_iconst hX (0 : Int32) dX11_isDatum_9 ic_0 ?_
    refine J_iaload0 hX dX11_isDatum_10 (ltn ltc_108 hn) lay_108 (by decide) ?_
    refine J_icmp_ge hX 18 dX11_isDatum_11 (by decide) h (fun c h => ?_) (fun c h => ?_)
    · refine J_iconst hX (1 : Int32) dX11_isDatum_14 ic_1 ?_
      refine J_goto hX 19 dX11_isDatum_15 (by decide) ?_
      exact J_ireturn hX dX11_isDatum_19 h hF narrow_b1
    · refine J_iconst hX (0 : Int32) dX11_isDatum_18 ic_0 ?_
      exact J_ireturn hX dX11_isDatum_19 h hF narrow_b0
theorem c_X11_isDatum {G : GG} {l : Launch} {ρ : Nat → Nat} {n t u w v : Nat} {x : Option Nat} (hn : 126 ≤ n) {x1 : Int32} {m : Mm} {rE : Int32} {mE : Mm} (h : f_X11_isDatum x1 m = some (rE, mE)) : CT G l yX11_isDatum cX11_isDatum 2 (some .boolean) 0 0 0 ρ n (RT t u w v x) [.ref 78, .int x1] m (some (.int rE)) (RT t u w v x) mE := ct_of_J (by decide) rfl (Nat.le_of_ble_eq_true rfl) (fun X hX e1 e2 e3 e4 hQ hr hl => t_X11_isDatum hX (Nat.le_refl _) hn ⟨by rw [hQ, e3, e4], hr, hl⟩ h)
theorem t_X11_isDead {X : XX} {G : GG} {ρ : Nat → Nat} {n t u w v : Nat} {x : Option Nat} {d : Nat} (hX : Ok X G ρ cX11_isDead 2 RX11 d) (hd0 : 1 ≤ d) (hn : 126 ≤ n) {rE : Int32} {mE : Mm} (hF : Fin' X G ρ n (some .boolean) (some (.int rE)) (RT t u w v x) mE) {x1 : Int32} {m : Mm} (h : f_X11_isDead x1 m = some (rE, mE)) : J X G ρ n 2 0 [(0, .ref 78), (1, .int x1)] [] (RT t u w v x) m := by
  unfold f_X11_isDead at h
  refine J_aload_n hX dX11_isDead_0 rfl 0 rfl ?_
  refine J_iload_n hX dX11_isDead_1 rfl 1 rfl ?_
  obtain ⟨r2, m1, h0, h⟩ := bd2_some h
  refine J_callVi (As := [.int x1]) (st := []) hX dX11_isDead_2 cw_RX11_355 (by omega) (c_X11_lostIn hn  h0) (ltn ltc_78 hn) lo_78 (by decide) rfl rfl rfl (Nat.le_of_ble_eq_true rfl) ?_
  clear h0
  refine J_iconst hX (1 : Int32) dX11_isDead_5 ic_1 ?_
  refine J_icmp_le hX 13 dX11_isDead_6 (by decide) h (fun c h => ?_) (fun c h => ?_)
  · refine J_iconst hX (1 : Int32) dX11_isDead_9 ic_1 ?_
    refine J_goto hX 14 dX11_isDead_10 (by decide) ?_
    exact J_ireturn hX dX11_isDead_14 h hF narrow_b1
  · refine J_iconst hX (0 : Int32) dX11_isDead_13 ic_0 ?_
    exact J_ireturn hX dX11_isDead_14 h hF narrow_b0
theorem c_X11_isDead {G : GG} {l : Launch} {ρ : Nat → Nat} {n t u w v : Nat} {x : Option Nat} (hn : 126 ≤ n) {x1 : Int32} {m : Mm} {rE : Int32} {mE : Mm} (h : f_X11_isDead x1 m = some (rE, mE)) : CT G l yX11_isDead cX11_isDead 2 (some .boolean) 1 0 0 ρ n (RT t u w v x) [.ref 78, .int x1] m (some (.int rE)) (RT t u w v x) mE := ct_of_J (by decide) rfl (Nat.le_of_ble_eq_true rfl) (fun X hX e1 e2 e3 e4 hQ hr hl => t_X11_isDead hX (Nat.le_refl _) hn ⟨by rw [hQ, e3, e4], hr, hl⟩ h)
theorem t_X11_canRead {X : XX} {G : GG} {ρ : Nat → Nat} {n t u w v : Nat} {x : Option Nat} {d : Nat} (hX : Ok X G ρ cX11_canRead 2 RX11 d) (hd0 : 2 ≤ d) (hn : 126 ≤ n) {rE : Int32} {mE : Mm} (hF : Fin' X G ρ n (some .boolean) (some (.int rE)) (RT t u w v x) mE) {x1 : Int32} {m : Mm} (h : f_X11_canRead x1 m = some (rE, mE)) : J X G ρ n 2 0 [(0, .ref 78), (1, .int x1)] [] (RT t u w v x) m := by
  unfold f_X11_canRead at h
  refine J_aload_n hX dX11_canRead_0 rfl 0 rfl ?_
  refine J_getR hX dX11_canRead_1 fl_RX11_125 (ltn ltc_78 hn) lo_78 rfl (rt_78_50 _ _ _ _ _) ?_
  refine J_bipush hX (14 : Int32) dX11_canRead_4 (by decide) ?_
  refine J_aload_n hX dX11_canRead_6 rfl 0 rfl ?_
  refine J_getR hX dX11_canRead_7 fl_RX11_95 (ltn ltc_78 hn) lo_78 rfl (rt_78_40 _ _ _ _ _) ?_
  refine J_iload_n hX dX11_canRead_10 rfl 1 rfl ?_
  refine J_iaload hX dX11_canRead_11 (ltn ltc_107 hn) lay_107 h (fun h => ?_)
  refine J_iadd hX dX11_canRead_12 ?_
  refine J_iaload hX dX11_canRead_13 (ltn ltc_117 hn) lay_117 h (fun h => ?_)
  refine J_iconst hX (2 : Int32) dX11_canRead_14 ic_2 ?_
  refine J_icmp_ne hX 33 dX11_canRead_15 (by decide) h (fun c h => ?_) (fun c h => ?_)
  · refine J_aload_n hX dX11_canRead_18 rfl 0 rfl ?_
    refine J_aload_n hX dX11_canRead_19 rfl 0 rfl ?_
    refine J_getR hX dX11_canRead_20 fl_RX11_95 (ltn ltc_78 hn) lo_78 rfl (rt_78_40 _ _ _ _ _) ?_
    refine J_iload_n hX dX11_canRead_23 rfl 1 rfl ?_
    refine J_iaload hX dX11_canRead_24 (ltn ltc_107 hn) lay_107 h (fun h => ?_)
    refine J_iconst hX (5 : Int32) dX11_canRead_25 ic_5 ?_
    refine J_idiv0 hX dX11_canRead_26 (by decide) ?_
    obtain ⟨r2, m1, h0, h⟩ := bd2_some h
    refine J_callVi (As := [.int ((gI m 107 (ix x1)) / (5 : Int32))]) (st := []) hX dX11_canRead_27 cw_RX11_361 (by omega) (c_X11_isDead hn  h0) (ltn ltc_78 hn) lo_78 (by decide) rfl rfl rfl (Nat.le_of_ble_eq_true rfl) ?_
    clear h0
    refine J_if_ne hX 37 dX11_canRead_30 (by decide) h (fun c h => ?_) (fun c h => ?_)
    · refine J_iconst hX (1 : Int32) dX11_canRead_33 ic_1 ?_
      refine J_goto hX 38 dX11_canRead_34 (by decide) ?_
      exact J_ireturn hX dX11_canRead_38 h hF narrow_b1
    · refine J_iconst hX (0 : Int32) dX11_canRead_37 ic_0 ?_
      exact J_ireturn hX dX11_canRead_38 h hF narrow_b0
  · refine J_iconst hX (1 : Int32) dX11_canRead_33 ic_1 ?_
    refine J_goto hX 38 dX11_canRead_34 (by decide) ?_
    exact J_ireturn hX dX11_canRead_38 h hF narrow_b1
theorem c_X11_canRead {G : GG} {l : Launch} {ρ : Nat → Nat} {n t u w v : Nat} {x : Option Nat} (hn : 126 ≤ n) {x1 : Int32} {m : Mm} {rE : Int32} {mE : Mm} (h : f_X11_canRead x1 m = some (rE, mE)) : CT G l yX11_canRead cX11_canRead 2 (some .boolean) 2 0 0 ρ n (RT t u w v x) [.ref 78, .int x1] m (some (.int rE)) (RT t u w v x) mE := ct_of_J (by decide) rfl (Nat.le_of_ble_eq_true rfl) (fun X hX e1 e2 e3 e4 hQ hr hl => t_X11_canRead hX (Nat.le_refl _) hn ⟨by rw [hQ, e3, e4], hr, hl⟩ h)
theorem t_X11_readsDatum_L36 {X : XX} {G : GG} {ρ : Nat → Nat} {n t u w v : Nat} {x : Option Nat} {d : Nat} (hX : Ok X G ρ cX11_readsDatum 5 RX11 d) (hd0 : 2 ≤ d) (hn : 126 ≤ n) {rE : Int32} {mE : Mm} (hF : Fin' X G ρ n (some .int) (some (.int rE)) (RT t u w v x) mE) : ∀ (k : Nat) (v1 : Int32) (v3 : Int32) (v4 : Int32) (m : Mm), f_X11_readsDatum_L36 k v1 v3 v4 m = some (rE, mE) → J X G ρ n 5 36 [(0, .ref 78), (1, .int v1), (3, .int v3), (4, .int v4)] [] (RT t u w v x) m := by
  intro k
  induction k with
  | zero => intro _ _ _ _ h; rw [f_X11_readsDatum_L36] at h; cases h
  | succ k ih =>
    intro v1 v3 v4 m h
    rw [f_X11_readsDatum_L36] at h
    refine J_iload hX dX11_readsDatum_36 3 rfl ?_
    refine J_aload_n hX dX11_readsDatum_38 rfl 0 rfl ?_
    refine J_getR hX dX11_readsDatum_39 fl_RX11_74 (ltn ltc_78 hn) lo_78 rfl (rt_78_33 _ _ _ _ _) ?_
    refine J_iload_n hX dX11_readsDatum_42 rfl 2 rfl ?_
    refine J_iaload hX dX11_readsDatum_43 (ltn ltc_100 hn) lay_100 h (fun h => ?_)
    refine J_icmp_ge hX 64 dX11_readsDatum_44 (by decide) h (fun c h => ?_) (fun c h => ?_)
    · refine J_aload_n hX dX11_readsDatum_47 rfl 0 rfl ?_
      refine J_iconst hX (5 : Int32) dX11_readsDatum_48 ic_5 ?_
      refine J_iload_n hX dX11_readsDatum_49 rfl 2 rfl ?_
      refine J_imul hX dX11_readsDatum_50 ?_
      refine J_iload hX dX11_readsDatum_51 3 rfl ?_
      refine J_iadd hX dX11_readsDatum_53 ?_
      refine J_iconst hX (1 : Int32) dX11_readsDatum_54 ic_1 ?_
      obtain ⟨m1, h0, h⟩ := bd1_some h
      refine J_callVv (As := [.int (((5 : Int32) * v3) + v4), .int (1 : Int32)]) (st := []) hX dX11_readsDatum_55 cw_RX11_364 (by omega) (c_X11_loads0 hn  h0) (ltn ltc_78 hn) lo_78 (by decide) rfl rfl rfl (Nat.le_of_ble_eq_true rfl) ?_
      clear h0
      refine J_iinc hX (v4 + (1 : Int32)) [(4, .int (v4 + (1 : Int32))), (0, .ref 78), (1, .int v1), (3, .int v3)] dX11_readsDatum_58 3 rfl (congrArg (fun z => v4 + z) ic_1) (by decide) rfl ?_
      refine J_goto hX 36 dX11_readsDatum_61 (by decide) ?_
      refine J_sub [(0, .ref 78), (1, .int v1), (3, .int v3), (4, .int (v4 + (1 : Int32)))] [1, 2, 3, 0] rfl ?_
      exact ih v1 v3 (v4 + (1 : Int32)) m1 h
    · refine J_aload_n hX dX11_readsDatum_64 rfl 0 rfl ?_
      refine J_getR hX dX11_readsDatum_65 fl_RX11_125 (ltn ltc_78 hn) lo_78 rfl (rt_78_50 _ _ _ _ _) ?_
      refine J_sipush hX (214 : Int32) dX11_readsDatum_68 (by decide) ?_
      refine J_iload_n hX dX11_readsDatum_71 rfl 1 rfl ?_
      refine J_iadd hX dX11_readsDatum_72 ?_
      refine J_iaload hX dX11_readsDatum_73 (ltn ltc_117 hn) lay_117 h (fun h => ?_)
      exact J_ireturn hX dX11_readsDatum_74 h hF rfl
theorem t_X11_readsDatum {X : XX} {G : GG} {ρ : Nat → Nat} {n t u w v : Nat} {x : Option Nat} {d : Nat} (hX : Ok X G ρ cX11_readsDatum 5 RX11 d) (hd0 : 2 ≤ d) (hn : 126 ≤ n) {rE : Int32} {mE : Mm} (hF : Fin' X G ρ n (some .int) (some (.int rE)) (RT t u w v x) mE) {x1 : Int32} {m : Mm} (h : f_X11_readsDatum x1 m = some (rE, mE)) : J X G ρ n 5 0 [(0, .ref 78), (1, .int x1)] [] (RT t u w v x) m := by
  unfold f_X11_readsDatum at h
  refine J_aload_n hX dX11_readsDatum_0 rfl 0 rfl ?_
  refine J_getR hX dX11_readsDatum_1 fl_RX11_95 (ltn ltc_78 hn) lo_78 rfl (rt_78_40 _ _ _ _ _) ?_
  refine J_iload_n hX dX11_readsDatum_4 rfl 1 rfl ?_
  refine J_iaload hX dX11_readsDatum_5 (ltn ltc_107 hn) lay_107 h (fun h => ?_)
  refine J_istore_n hX [(2, .int (gI m 107 (ix x1))), (0, .ref 78), (1, .int x1)] dX11_readsDatum_6 rfl (by decide) rfl ?_
  refine J_iload_n hX dX11_readsDatum_7 rfl 0 rfl ?_
  refine J_iconst hX (5 : Int32) dX11_readsDatum_8 ic_5 ?_
  refine J_idiv0 hX dX11_readsDatum_9 (by decide) ?_
  refine J_istore_n hX [(3, .int ((gI m 107 (ix x1)) / (5 : Int32))), (2, .int (gI m 107 (ix x1))), (0, .ref 78), (1, .int x1)] dX11_readsDatum_10 rfl (by decide) rfl ?_
  refine J_aload_n hX dX11_readsDatum_11 rfl 2 rfl ?_
  refine J_getR hX dX11_readsDatum_12 fl_RX11_125 (ltn ltc_78 hn) lo_78 rfl (rt_78_50 _ _ _ _ _) ?_
  refine J_bipush hX (14 : Int32) dX11_readsDatum_15 (by decide) ?_
  refine J_iload_n hX dX11_readsDatum_17 rfl 1 rfl ?_
  refine J_iadd hX dX11_readsDatum_18 ?_
  refine J_iaload hX dX11_readsDatum_19 (ltn ltc_117 hn) lay_117 h (fun h => ?_)
  refine J_iconst hX (2 : Int32) dX11_readsDatum_20 ic_2 ?_
  refine J_icmp_eq hX 33 dX11_readsDatum_21 (by decide) h (fun c h => ?_) (fun c h => ?_)
  · refine J_iconst hX (0 : Int32) dX11_readsDatum_33 ic_0 ?_
    refine J_istore hX [(4, .int (0 : Int32)), (3, .int ((gI m 107 (ix x1)) / (5 : Int32))), (2, .int (gI m 107 (ix x1))), (0, .ref 78), (1, .int x1)] dX11_readsDatum_34 (by decide) rfl ?_
    refine J_sub [(0, .ref 78), (1, .int x1), (3, .int ((gI m 107 (ix x1)) / (5 : Int32))), (4, .int (0 : Int32))] [3, 4, 1, 0] rfl ?_
    exact t_X11_readsDatum_L36 hX hd0 hn hF FU x1 ((gI m 107 (ix x1)) / (5 : Int32)) (0 : Int32)  m h
  · refine J_aload_n hX dX11_readsDatum_24 rfl 2 rfl ?_
    refine J_iload_n hX dX11_readsDatum_25 rfl 1 rfl ?_
    refine J_iconst hX (1 : Int32) dX11_readsDatum_26 ic_1 ?_
    obtain ⟨m2, h0, h⟩ := bd1_some h
    refine J_callVv (As := [.int (gI m 107 (ix x1)), .int (1 : Int32)]) (st := []) hX dX11_readsDatum_27 cw_RX11_364 (by omega) (c_X11_loads0 hn  h0) (ltn ltc_78 hn) lo_78 (by decide) rfl rfl rfl (Nat.le_of_ble_eq_true rfl) ?_
    clear h0
    refine J_goto hX 64 dX11_readsDatum_30 (by decide) ?_
    refine J_aload_n hX dX11_readsDatum_64 rfl 2 rfl ?_
    refine J_getR hX dX11_readsDatum_65 fl_RX11_125 (ltn ltc_78 hn) lo_78 rfl (rt_78_50 _ _ _ _ _) ?_
    refine J_sipush hX (214 : Int32) dX11_readsDatum_68 (by decide) ?_
    refine J_iload_n hX dX11_readsDatum_71 rfl 3 rfl ?_
    refine J_iadd hX dX11_readsDatum_72 ?_
    refine J_iaload hX dX11_readsDatum_73 (ltn ltc_117 hn) lay_117 h (fun h => ?_)
    exact J_ireturn hX dX11_readsDatum_74 h hF rfl
theorem c_X11_readsDatum {G : GG} {l : Launch} {ρ : Nat → Nat} {n t u w v : Nat} {x : Option Nat} (hn : 126 ≤ n) {x1 : Int32} {m : Mm} {rE : Int32} {mE : Mm} (h : f_X11_readsDatum x1 m = some (rE, mE)) : CT G l yX11_readsDatum cX11_readsDatum 5 (some .int) 2 0 0 ρ n (RT t u w v x) [.ref 78, .int x1] m (some (.int rE)) (RT t u w v x) mE := ct_of_J (by decide) rfl (Nat.le_of_ble_eq_true rfl) (fun X hX e1 e2 e3 e4 hQ hr hl => t_X11_readsDatum hX (Nat.le_refl _) hn ⟨by rw [hQ, e3, e4], hr, hl⟩ h)
theorem t_X11_canWrite {X : XX} {G : GG} {ρ : Nat → Nat} {n t u w v : Nat} {x : Option Nat} {d : Nat} (hX : Ok X G ρ cX11_canWrite 2 RX11 d) (hd0 : 2 ≤ d) (hn : 126 ≤ n) {rE : Int32} {mE : Mm} (hF : Fin' X G ρ n (some .boolean) (some (.int rE)) (RT t u w v x) mE) {x1 : Int32} {m : Mm} (h : f_X11_canWrite x1 m = some (rE, mE)) : J X G ρ n 2 0 [(0, .ref 78), (1, .int x1)] [] (RT t u w v x) m := by
  unfold f_X11_canWrite at h
  refine J_aload_n hX dX11_canWrite_0 rfl 0 rfl ?_
  refine J_aload_n hX dX11_canWrite_1 rfl 0 rfl ?_
  refine J_getR hX dX11_canWrite_2 fl_RX11_95 (ltn ltc_78 hn) lo_78 rfl (rt_78_40 _ _ _ _ _) ?_
  refine J_iload_n hX dX11_canWrite_5 rfl 1 rfl ?_
  refine J_iaload hX dX11_canWrite_6 (ltn ltc_107 hn) lay_107 h (fun h => ?_)
  refine J_iconst hX (5 : Int32) dX11_canWrite_7 ic_5 ?_
  refine J_idiv0 hX dX11_canWrite_8 (by decide) ?_
  obtain ⟨r2, m1, h0, h⟩ := bd2_some h
  refine J_callVi (As := [.int ((gI m 107 (ix x1)) / (5 : Int32))]) (st := []) hX dX11_canWrite_9 cw_RX11_361 (by omega) (c_X11_isDead hn  h0) (ltn ltc_78 hn) lo_78 (by decide) rfl rfl rfl (Nat.le_of_ble_eq_true rfl) ?_
  clear h0
  refine J_if_ne hX 19 dX11_canWrite_12 (by decide) h (fun c h => ?_) (fun c h => ?_)
  · refine J_iconst hX (1 : Int32) dX11_canWrite_15 ic_1 ?_
    refine J_goto hX 20 dX11_canWrite_16 (by decide) ?_
    exact J_ireturn hX dX11_canWrite_20 h hF narrow_b1
  · refine J_iconst hX (0 : Int32) dX11_canWrite_19 ic_0 ?_
    exact J_ireturn hX dX11_canWrite_20 h hF narrow_b0
theorem c_X11_canWrite {G : GG} {l : Launch} {ρ : Nat → Nat} {n t u w v : Nat} {x : Option Nat} (hn : 126 ≤ n) {x1 : Int32} {m : Mm} {rE : Int32} {mE : Mm} (h : f_X11_canWrite x1 m = some (rE, mE)) : CT G l yX11_canWrite cX11_canWrite 2 (some .boolean) 2 0 0 ρ n (RT t u w v x) [.ref 78, .int x1] m (some (.int rE)) (RT t u w v x) mE := ct_of_J (by decide) rfl (Nat.le_of_ble_eq_true rfl) (fun X hX e1 e2 e3 e4 hQ hr hl => t_X11_canWrite hX (Nat.le_refl _) hn ⟨by rw [hQ, e3, e4], hr, hl⟩ h)
theorem t_X11_priceOf {X : XX} {G : GG} {ρ : Nat → Nat} {n t u w v : Nat} {x : Option Nat} {d : Nat} (hX : Ok X G ρ cX11_priceOf 3 RX11 d) (hd0 : 0 ≤ d) (hn : 126 ≤ n) {rE : Int32} {mE : Mm} (hF : Fin' X G ρ n (some .int) (some (.int rE)) (RT t u w v x) mE) {x1 : Int32} {m : Mm} (h : f_X11_priceOf x1 m = some (rE, mE)) : J X G ρ n 3 0 [(0, .ref 78), (1, .int x1)] [] (RT t u w v x) m := by
  unfold f_X11_priceOf at h
  refine J_aload_n hX dX11_priceOf_0 rfl 0 rfl ?_
  refine J_getR hX dX11_priceOf_1 fl_RX11_95 (ltn ltc_78 hn) lo_78 rfl (rt_78_40 _ _ _ _ _) ?_
  refine J_iload_n hX dX11_priceOf_4 rfl 1 rfl ?_
  refine J_iaload hX dX11_priceOf_5 (ltn ltc_107 hn) lay_107 h (fun h => ?_)
  refine J_iconst hX (5 : Int32) dX11_priceOf_6 ic_5 ?_
  refine J_idiv0 hX dX11_priceOf_7 (by decide) ?_
  refine J_istore_n hX [(2, .int ((gI m 107 (ix x1)) / (5 : Int32))), (0, .ref 78), (1, .int x1)] dX11_priceOf_8 rfl (by decide) rfl ?_
  refine J_aload_n hX dX11_priceOf_9 rfl 1 rfl ?_
  refine J_getR hX dX11_priceOf_10 fl_RX11_125 (ltn ltc_78 hn) lo_78 rfl (rt_78_50 _ _ _ _ _) ?_
  refine J_bipush hX (14 : Int32) dX11_priceOf_13 (by decide) ?_
  refine J_iconst hX (5 : Int32) dX11_priceOf_15 ic_5 ?_
  refine J_iload_n hX dX11_priceOf_16 rfl 0 rfl ?_
  refine J_imul hX dX11_priceOf_17 ?_
  refine J_iadd hX dX11_priceOf_18 ?_
  refine J_aload_n hX dX11_priceOf_19 rfl 1 rfl ?_
  refine J_getR hX dX11_priceOf_20 fl_RX11_80 (ltn ltc_78 hn) lo_78 rfl (rt_78_35 _ _ _ _ _) ?_
  refine J_iload_n hX dX11_priceOf_23 rfl 0 rfl ?_
  refine J_iaload hX dX11_priceOf_24 (ltn ltc_102 hn) lay_102 h (fun h => ?_)
  refine J_iadd hX dX11_priceOf_25 ?_
  refine J_iaload hX dX11_priceOf_26 (ltn ltc_117 hn) lay_117 h (fun h => ?_)
  refine J_iconst hX (2 : Int32) dX11_priceOf_27 ic_2 ?_
  refine J_icmp_ne hX 33 dX11_priceOf_28 (by decide) h (fun c h => ?_) (fun c h => ?_)
  · refine J_iconst hX (1 : Int32) dX11_priceOf_31 ic_1 ?_
    exact J_ireturn hX dX11_priceOf_32 h hF rfl
  · refine J_aload_n hX dX11_priceOf_33 rfl 1 rfl ?_
    refine J_getR hX dX11_priceOf_34 fl_RX11_125 (ltn ltc_78 hn) lo_78 rfl (rt_78_50 _ _ _ _ _) ?_
    refine J_bipush hX (14 : Int32) dX11_priceOf_37 (by decide) ?_
    refine J_aload_n hX dX11_priceOf_39 rfl 1 rfl ?_
    refine J_getR hX dX11_priceOf_40 fl_RX11_95 (ltn ltc_78 hn) lo_78 rfl (rt_78_40 _ _ _ _ _) ?_
    refine J_iload_n hX dX11_priceOf_43 rfl 2 rfl ?_
    refine J_iaload hX dX11_priceOf_44 (ltn ltc_107 hn) lay_107 h (fun h => ?_)
    refine J_iadd hX dX11_priceOf_45 ?_
    refine J_iaload hX dX11_priceOf_46 (ltn ltc_117 hn) lay_117 h (fun h => ?_)
    refine J_iconst hX (2 : Int32) dX11_priceOf_47 ic_2 ?_
    refine J_icmp_ne hX 62 dX11_priceOf_48 (by decide) h (fun c h => ?_) (fun c h => ?_)
    · refine J_aload_n hX dX11_priceOf_51 rfl 1 rfl ?_
      refine J_getR hX dX11_priceOf_52 fl_RX11_74 (ltn ltc_78 hn) lo_78 rfl (rt_78_33 _ _ _ _ _) ?_
      refine J_iload_n hX dX11_priceOf_55 rfl 0 rfl ?_
      refine J_iaload hX dX11_priceOf_56 (ltn ltc_100 hn) lay_100 h (fun h => ?_)
      refine J_iconst hX (1 : Int32) dX11_priceOf_57 ic_1 ?_
      refine J_isub hX dX11_priceOf_58 ?_
      refine J_goto hX 63 dX11_priceOf_59 (by decide) ?_
      exact J_ireturn hX dX11_priceOf_63 h hF rfl
    · refine J_iconst hX (4 : Int32) dX11_priceOf_62 ic_4 ?_
      exact J_ireturn hX dX11_priceOf_63 h hF rfl
theorem c_X11_priceOf {G : GG} {l : Launch} {ρ : Nat → Nat} {n t u w v : Nat} {x : Option Nat} (hn : 126 ≤ n) {x1 : Int32} {m : Mm} {rE : Int32} {mE : Mm} (h : f_X11_priceOf x1 m = some (rE, mE)) : CT G l yX11_priceOf cX11_priceOf 3 (some .int) 0 0 0 ρ n (RT t u w v x) [.ref 78, .int x1] m (some (.int rE)) (RT t u w v x) mE := ct_of_J (by decide) rfl (Nat.le_of_ble_eq_true rfl) (fun X hX e1 e2 e3 e4 hQ hr hl => t_X11_priceOf hX (Nat.le_refl _) hn ⟨by rw [hQ, e3, e4], hr, hl⟩ h)
theorem t_X11_writesDatum_J124 {X : XX} {G : GG} {ρ : Nat → Nat} {n t u w v : Nat} {x : Option Nat} {d : Nat} (hX : Ok X G ρ cX11_writesDatum 7 RX11 d) (hd0 : 2 ≤ d) (hn : 126 ≤ n) {rE : Int32} {mE : Mm} (hF : Fin' X G ρ n (some .int) (some (.int rE)) (RT t u w v x) mE) (v1 : Int32) (v2 : Int32) (v5 : Int32) (m : Mm) (h : f_X11_writesDatum_J124 v1 v2 v5 m = some (rE, mE)) : J X G ρ n 7 124 [(0, .ref 78), (1, .int v1), (2, .int v2), (5, .int v5)] [] (RT t u w v x) m := by
  unfold f_X11_writesDatum_J124 at h
  refine J_aload_n hX dX11_writesDatum_124 rfl 0 rfl ?_
  refine J_getR hX dX11_writesDatum_125 fl_RX11_125 (ltn ltc_78 hn) lo_78 rfl (rt_78_50 _ _ _ _ _) ?_
  refine J_sipush hX (214 : Int32) dX11_writesDatum_128 (by decide) ?_
  refine J_iload_n hX dX11_writesDatum_131 rfl 1 rfl ?_
  refine J_iadd hX dX11_writesDatum_132 ?_
  refine J_iload_n hX dX11_writesDatum_133 rfl 2 rfl ?_
  refine J_iastore hX dX11_writesDatum_134 (ltn ltc_117 hn) lay_117 h (fun m5 h => ?_)
  refine J_iload hX dX11_writesDatum_135 3 rfl ?_
  exact J_ireturn hX dX11_writesDatum_137 h hF rfl
theorem t_X11_writesDatum_L35 {X : XX} {G : GG} {ρ : Nat → Nat} {n t u w v : Nat} {x : Option Nat} {d : Nat} (hX : Ok X G ρ cX11_writesDatum 7 RX11 d) (hd0 : 2 ≤ d) (hn : 126 ≤ n) {rE : Int32} {mE : Mm} (hF : Fin' X G ρ n (some .int) (some (.int rE)) (RT t u w v x) mE) : ∀ (k : Nat) (v1 : Int32) (v2 : Int32) (v4 : Int32) (v5 : Int32) (v6 : Int32) (m : Mm), f_X11_writesDatum_L35 k v1 v2 v4 v5 v6 m = some (rE, mE) → J X G ρ n 7 35 [(0, .ref 78), (1, .int v1), (2, .int v2), (4, .int v4), (5, .int v5), (6, .int v6)] [] (RT t u w v x) m := by
  intro k
  induction k with
  | zero => intro _ _ _ _ _ _ h; rw [f_X11_writesDatum_L35] at h; cases h
  | succ k ih =>
    intro v1 v2 v4 v5 v6 m h
    rw [f_X11_writesDatum_L35] at h
    refine J_iload hX dX11_writesDatum_35 5 rfl ?_
    refine J_aload_n hX dX11_writesDatum_37 rfl 0 rfl ?_
    refine J_getR hX dX11_writesDatum_38 fl_RX11_74 (ltn ltc_78 hn) lo_78 rfl (rt_78_33 _ _ _ _ _) ?_
    refine J_iload hX dX11_writesDatum_41 3 rfl ?_
    refine J_iaload hX dX11_writesDatum_43 (ltn ltc_100 hn) lay_100 h (fun h => ?_)
    refine J_icmp_ge hX 65 dX11_writesDatum_44 (by decide) h (fun c h => ?_) (fun c h => ?_)
    · refine J_aload_n hX dX11_writesDatum_47 rfl 0 rfl ?_
      refine J_iconst hX (5 : Int32) dX11_writesDatum_48 ic_5 ?_
      refine J_iload hX dX11_writesDatum_49 3 rfl ?_
      refine J_imul hX dX11_writesDatum_51 ?_
      refine J_iload hX dX11_writesDatum_52 5 rfl ?_
      refine J_iadd hX dX11_writesDatum_54 ?_
      refine J_iconst hX (1 : Int32) dX11_writesDatum_55 ic_1 ?_
      obtain ⟨m7, h0, h⟩ := bd1_some h
      refine J_callVv (As := [.int (((5 : Int32) * v4) + v6), .int (1 : Int32)]) (st := []) hX dX11_writesDatum_56 cw_RX11_364 (by omega) (c_X11_loads0 hn  h0) (ltn ltc_78 hn) lo_78 (by decide) rfl rfl rfl (Nat.le_of_ble_eq_true rfl) ?_
      clear h0
      refine J_iinc hX (v6 + (1 : Int32)) [(6, .int (v6 + (1 : Int32))), (0, .ref 78), (1, .int v1), (2, .int v2), (4, .int v4), (5, .int v5)] dX11_writesDatum_59 5 rfl (congrArg (fun z => v6 + z) ic_1) (by decide) rfl ?_
      refine J_goto hX 35 dX11_writesDatum_62 (by decide) ?_
      refine J_sub [(0, .ref 78), (1, .int v1), (2, .int v2), (4, .int v4), (5, .int v5), (6, .int (v6 + (1 : Int32)))] [1, 2, 3, 4, 5, 0] rfl ?_
      exact ih v1 v2 v4 v5 (v6 + (1 : Int32)) m7 h
    · refine J_goto hX 124 dX11_writesDatum_65 (by decide) ?_
      refine J_sub [(0, .ref 78), (1, .int v1), (2, .int v2), (5, .int v5)] [0, 1, 2, 4] rfl ?_
      exact t_X11_writesDatum_J124 hX hd0 hn hF v1 v2 v5  m h
theorem t_X11_writesDatum {X : XX} {G : GG} {ρ : Nat → Nat} {n t u w v : Nat} {x : Option Nat} {d : Nat} (hX : Ok X G ρ cX11_writesDatum 7 RX11 d) (hd0 : 2 ≤ d) (hn : 126 ≤ n) {rE : Int32} {mE : Mm} (hF : Fin' X G ρ n (some .int) (some (.int rE)) (RT t u w v x) mE) {x1 : Int32} {x2 : Int32} {m : Mm} (h : f_X11_writesDatum x1 x2 m = some (rE, mE)) : J X G ρ n 7 0 [(0, .ref 78), (1, .int x1), (2, .int x2)] [] (RT t u w v x) m := by
  unfold f_X11_writesDatum at h
  refine J_aload_n hX dX11_writesDatum_0 rfl 0 rfl ?_
  refine J_getR hX dX11_writesDatum_1 fl_RX11_95 (ltn ltc_78 hn) lo_78 rfl (rt_78_40 _ _ _ _ _) ?_
  refine J_iload_n hX dX11_writesDatum_4 rfl 1 rfl ?_
  refine J_iaload hX dX11_writesDatum_5 (ltn ltc_107 hn) lay_107 h (fun h => ?_)
  refine J_istore_n hX [(3, .int (gI m 107 (ix x1))), (0, .ref 78), (1, .int x1), (2, .int x2)] dX11_writesDatum_6 rfl (by decide) rfl ?_
  refine J_iload_n hX dX11_writesDatum_7 rfl 0 rfl ?_
  refine J_iconst hX (5 : Int32) dX11_writesDatum_8 ic_5 ?_
  refine J_idiv0 hX dX11_writesDatum_9 (by decide) ?_
  refine J_istore hX [(4, .int ((gI m 107 (ix x1)) / (5 : Int32))), (3, .int (gI m 107 (ix x1))), (0, .ref 78), (1, .int x1), (2, .int x2)] dX11_writesDatum_10 (by decide) rfl ?_
  refine J_aload_n hX dX11_writesDatum_12 rfl 2 rfl ?_
  refine J_iload_n hX dX11_writesDatum_13 rfl 3 rfl ?_
  obtain ⟨r2, m1, h0, h⟩ := bd2_some h
  refine J_callVi (As := [.int x1]) (st := []) hX dX11_writesDatum_14 cw_RX11_367 (by omega) (c_X11_priceOf hn  h0) (ltn ltc_78 hn) lo_78 (by decide) rfl rfl rfl (Nat.le_of_ble_eq_true rfl) ?_
  clear h0
  refine J_istore hX [(5, .int r2), (4, .int ((gI m 107 (ix x1)) / (5 : Int32))), (3, .int (gI m 107 (ix x1))), (0, .ref 78), (1, .int x1), (2, .int x2)] dX11_writesDatum_17 (by decide) rfl ?_
  refine J_aload_n hX dX11_writesDatum_19 rfl 3 rfl ?_
  refine J_getR hX dX11_writesDatum_20 fl_RX11_125 (ltn ltc_78 hn) lo_78 rfl (rt_78_50 _ _ _ _ _) ?_
  refine J_bipush hX (14 : Int32) dX11_writesDatum_23 (by decide) ?_
  refine J_iload_n hX dX11_writesDatum_25 rfl 2 rfl ?_
  refine J_iadd hX dX11_writesDatum_26 ?_
  refine J_iaload hX dX11_writesDatum_27 (ltn ltc_117 hn) lay_117 h (fun h => ?_)
  refine J_iconst hX (2 : Int32) dX11_writesDatum_28 ic_2 ?_
  refine J_icmp_ne hX 68 dX11_writesDatum_29 (by decide) h (fun c h => ?_) (fun c h => ?_)
  · refine J_iconst hX (0 : Int32) dX11_writesDatum_32 ic_0 ?_
    refine J_istore hX [(6, .int (0 : Int32)), (5, .int r2), (4, .int ((gI m 107 (ix x1)) / (5 : Int32))), (3, .int (gI m 107 (ix x1))), (0, .ref 78), (1, .int x1), (2, .int x2)] dX11_writesDatum_33 (by decide) rfl ?_
    refine J_sub [(0, .ref 78), (1, .int x1), (2, .int x2), (4, .int ((gI m 107 (ix x1)) / (5 : Int32))), (5, .int r2), (6, .int (0 : Int32))] [4, 5, 6, 2, 1, 0] rfl ?_
    exact t_X11_writesDatum_L35 hX hd0 hn hF FU x1 x2 ((gI m 107 (ix x1)) / (5 : Int32)) r2 (0 : Int32)  m1 h
  · refine J_aload_n hX dX11_writesDatum_68 rfl 3 rfl ?_
    refine J_getR hX dX11_writesDatum_69 fl_RX11_125 (ltn ltc_78 hn) lo_78 rfl (rt_78_50 _ _ _ _ _) ?_
    refine J_bipush hX (14 : Int32) dX11_writesDatum_72 (by decide) ?_
    refine J_iconst hX (5 : Int32) dX11_writesDatum_74 ic_5 ?_
    refine J_iload hX dX11_writesDatum_75 1 rfl ?_
    refine J_imul hX dX11_writesDatum_77 ?_
    refine J_iadd hX dX11_writesDatum_78 ?_
    refine J_aload_n hX dX11_writesDatum_79 rfl 3 rfl ?_
    refine J_getR hX dX11_writesDatum_80 fl_RX11_80 (ltn ltc_78 hn) lo_78 rfl (rt_78_35 _ _ _ _ _) ?_
    refine J_iload hX dX11_writesDatum_83 1 rfl ?_
    refine J_iaload hX dX11_writesDatum_85 (ltn ltc_102 hn) lay_102 h (fun h => ?_)
    refine J_iadd hX dX11_writesDatum_86 ?_
    refine J_iaload hX dX11_writesDatum_87 (ltn ltc_117 hn) lay_117 h (fun h => ?_)
    refine J_iconst hX (2 : Int32) dX11_writesDatum_88 ic_2 ?_
    refine J_icmp_ne hX 101 dX11_writesDatum_89 (by decide) h (fun c h => ?_) (fun c h => ?_)
    · refine J_aload_n hX dX11_writesDatum_92 rfl 3 rfl ?_
      refine J_iload_n hX dX11_writesDatum_93 rfl 2 rfl ?_
      refine J_iconst hX (1 : Int32) dX11_writesDatum_94 ic_1 ?_
      obtain ⟨m6, h0, h⟩ := bd1_some h
      refine J_callVv (As := [.int (gI m 107 (ix x1)), .int (1 : Int32)]) (st := []) hX dX11_writesDatum_95 cw_RX11_364 (by omega) (c_X11_loads0 hn  h0) (ltn ltc_78 hn) lo_78 (by decide) rfl rfl rfl (Nat.le_of_ble_eq_true rfl) ?_
      clear h0
      refine J_goto hX 124 dX11_writesDatum_98 (by decide) ?_
      refine J_sub [(0, .ref 78), (1, .int x1), (2, .int x2), (5, .int r2)] [3, 4, 5, 0] rfl ?_
      exact t_X11_writesDatum_J124 hX hd0 hn hF x1 x2 r2  m6 h
    · refine J_aload_n hX dX11_writesDatum_101 rfl 3 rfl ?_
      refine J_iload_n hX dX11_writesDatum_102 rfl 2 rfl ?_
      refine J_iconst hX (2 : Int32) dX11_writesDatum_103 ic_2 ?_
      obtain ⟨m3, h0, h⟩ := bd1_some h
      refine J_callVv (As := [.int (gI m 107 (ix x1)), .int (2 : Int32)]) (st := []) hX dX11_writesDatum_104 cw_RX11_364 (by omega) (c_X11_loads0 hn  h0) (ltn ltc_78 hn) lo_78 (by decide) rfl rfl rfl (Nat.le_of_ble_eq_true rfl) ?_
      clear h0
      refine J_aload_n hX dX11_writesDatum_107 rfl 3 rfl ?_
      refine J_iconst hX (5 : Int32) dX11_writesDatum_108 ic_5 ?_
      refine J_iload hX dX11_writesDatum_109 1 rfl ?_
      refine J_imul hX dX11_writesDatum_111 ?_
      refine J_aload_n hX dX11_writesDatum_112 rfl 3 rfl ?_
      refine J_getR hX dX11_writesDatum_113 fl_RX11_80 (ltn ltc_78 hn) lo_78 rfl (rt_78_35 _ _ _ _ _) ?_
      refine J_iload hX dX11_writesDatum_116 1 rfl ?_
      refine J_iaload hX dX11_writesDatum_118 (ltn ltc_102 hn) lay_102 h (fun h => ?_)
      refine J_iadd hX dX11_writesDatum_119 ?_
      refine J_iconst hX (2 : Int32) dX11_writesDatum_120 ic_2 ?_
      obtain ⟨m4, h0, h⟩ := bd1_some h
      refine J_callVv (As := [.int (((5 : Int32) * ((gI m 107 (ix x1)) / (5 : Int32))) + (gI m3 102 (ix ((gI m 107 (ix x1)) / (5 : Int32))))), .int (2 : Int32)]) (st := []) hX dX11_writesDatum_121 cw_RX11_364 (by omega) (c_X11_loads0 hn  h0) (ltn ltc_78 hn) lo_78 (by decide) rfl rfl rfl (Nat.le_of_ble_eq_true rfl) ?_
      clear h0
      refine J_sub [(0, .ref 78), (1, .int x1), (2, .int x2), (5, .int r2)] [3, 4, 5, 0] rfl ?_
      exact t_X11_writesDatum_J124 hX hd0 hn hF x1 x2 r2  m4 h
theorem c_X11_writesDatum {G : GG} {l : Launch} {ρ : Nat → Nat} {n t u w v : Nat} {x : Option Nat} (hn : 126 ≤ n) {x1 : Int32} {x2 : Int32} {m : Mm} {rE : Int32} {mE : Mm} (h : f_X11_writesDatum x1 x2 m = some (rE, mE)) : CT G l yX11_writesDatum cX11_writesDatum 7 (some .int) 2 0 0 ρ n (RT t u w v x) [.ref 78, .int x1, .int x2] m (some (.int rE)) (RT t u w v x) mE := ct_of_J (by decide) rfl (Nat.le_of_ble_eq_true rfl) (fun X hX e1 e2 e3 e4 hQ hr hl => t_X11_writesDatum hX (Nat.le_refl _) hn ⟨by rw [hQ, e3, e4], hr, hl⟩ h)
theorem t_X11_losesDisk_L17 {X : XX} {G : GG} {ρ : Nat → Nat} {n t u w v : Nat} {x : Option Nat} {d : Nat} (hX : Ok X G ρ cX11_losesDisk 5 RX11 d) (hd0 : 1 ≤ d) (hn : 126 ≤ n) {rE : Int32} {mE : Mm} (hF : Fin' X G ρ n (some .int) (some (.int rE)) (RT t u w v x) mE) {v1 : Int32} {v3 : Int32} {K : Int32 → Mm → Option (Int32 × Mm)} (hK : ∀ (w2 : Int32) (m : Mm), K w2 m = some (rE, mE) → J X G ρ n 5 69 [(0, .ref 78), (1, .int v1), (2, .int w2), (3, .int v3)] [] (RT t u w v x) m) : ∀ (k : Nat) (v2 : Int32) (v4 : Int32) (m : Mm), f_X11_losesDisk_L17 v1 v3 K k v2 v4 m = some (rE, mE) → J X G ρ n 5 17 [(0, .ref 78), (1, .int v1), (2, .int v2), (3, .int v3), (4, .int v4)] [] (RT t u w v x) m := by
  intro k
  induction k with
  | zero => intro _ _ _ h; rw [f_X11_losesDisk_L17] at h; cases h
  | succ k ih =>
    intro v2 v4 m h
    rw [f_X11_losesDisk_L17] at h
    refine J_iload hX dX11_losesDisk_17 4 rfl ?_
    refine J_aload_n hX dX11_losesDisk_19 rfl 0 rfl ?_
    refine J_getR hX dX11_losesDisk_20 fl_RX11_74 (ltn ltc_78 hn) lo_78 rfl (rt_78_33 _ _ _ _ _) ?_
    refine J_iload_n hX dX11_losesDisk_23 rfl 3 rfl ?_
    refine J_iaload hX dX11_losesDisk_24 (ltn ltc_100 hn) lay_100 h (fun h => ?_)
    refine J_icmp_ge hX 69 dX11_losesDisk_25 (by decide) h (fun c h => ?_) (fun c h => ?_)
    · refine J_aload_n hX dX11_losesDisk_28 rfl 0 rfl ?_
      refine J_iconst hX (5 : Int32) dX11_losesDisk_29 ic_5 ?_
      refine J_iload_n hX dX11_losesDisk_30 rfl 3 rfl ?_
      refine J_imul hX dX11_losesDisk_31 ?_
      refine J_iload hX dX11_losesDisk_32 4 rfl ?_
      refine J_iadd hX dX11_losesDisk_34 ?_
      obtain ⟨r3, m2, h0, h⟩ := bd2_some h
      refine J_callVi (As := [.int (((5 : Int32) * v3) + v4)]) (st := []) hX dX11_losesDisk_35 cw_RX11_358 (by omega) (c_X11_diskNow hn  h0) (ltn ltc_78 hn) lo_78 (by decide) rfl rfl rfl (Nat.le_of_ble_eq_true rfl) ?_
      clear h0
      refine J_iload_n hX dX11_losesDisk_38 rfl 1 rfl ?_
      refine J_icmp_eq hX 45 dX11_losesDisk_39 (by decide) h (fun c h => ?_) (fun c h => ?_)
      · refine J_aload_n hX dX11_losesDisk_45 rfl 0 rfl ?_
        refine J_getR hX dX11_losesDisk_46 fl_RX11_125 (ltn ltc_78 hn) lo_78 rfl (rt_78_50 _ _ _ _ _) ?_
        refine J_bipush hX (14 : Int32) dX11_losesDisk_49 (by decide) ?_
        refine J_iconst hX (5 : Int32) dX11_losesDisk_51 ic_5 ?_
        refine J_iload_n hX dX11_losesDisk_52 rfl 3 rfl ?_
        refine J_imul hX dX11_losesDisk_53 ?_
        refine J_iadd hX dX11_losesDisk_54 ?_
        refine J_iload hX dX11_losesDisk_55 4 rfl ?_
        refine J_iadd hX dX11_losesDisk_57 ?_
        refine J_iconst hX (2 : Int32) dX11_losesDisk_58 ic_2 ?_
        refine J_iastore hX dX11_losesDisk_59 (ltn ltc_117 hn) lay_117 h (fun m4 h => ?_)
        refine J_iinc hX (v2 + (1 : Int32)) [(2, .int (v2 + (1 : Int32))), (0, .ref 78), (1, .int v1), (3, .int v3), (4, .int v4)] dX11_losesDisk_60 2 rfl (congrArg (fun z => v2 + z) ic_1) (by decide) rfl ?_
        refine J_iinc hX (v4 + (1 : Int32)) [(4, .int (v4 + (1 : Int32))), (2, .int (v2 + (1 : Int32))), (0, .ref 78), (1, .int v1), (3, .int v3)] dX11_losesDisk_63 4 rfl (congrArg (fun z => v4 + z) ic_1) (by decide) rfl ?_
        refine J_goto hX 17 dX11_losesDisk_66 (by decide) ?_
        refine J_sub [(0, .ref 78), (1, .int v1), (2, .int (v2 + (1 : Int32))), (3, .int v3), (4, .int (v4 + (1 : Int32)))] [2, 3, 1, 4, 0] rfl ?_
        exact ih (v2 + (1 : Int32)) (v4 + (1 : Int32)) m4 h
      · refine J_goto hX 63 dX11_losesDisk_42 (by decide) ?_
        refine J_iinc hX (v4 + (1 : Int32)) [(4, .int (v4 + (1 : Int32))), (0, .ref 78), (1, .int v1), (2, .int v2), (3, .int v3)] dX11_losesDisk_63 4 rfl (congrArg (fun z => v4 + z) ic_1) (by decide) rfl ?_
        refine J_goto hX 17 dX11_losesDisk_66 (by decide) ?_
        refine J_sub [(0, .ref 78), (1, .int v1), (2, .int v2), (3, .int v3), (4, .int (v4 + (1 : Int32)))] [1, 2, 3, 4, 0] rfl ?_
        exact ih v2 (v4 + (1 : Int32)) m2 h
    · refine J_sub [(0, .ref 78), (1, .int v1), (2, .int v2), (3, .int v3)] [0, 1, 2, 3] rfl ?_
      exact hK v2 m h
theorem t_X11_losesDisk_L4 {X : XX} {G : GG} {ρ : Nat → Nat} {n t u w v : Nat} {x : Option Nat} {d : Nat} (hX : Ok X G ρ cX11_losesDisk 5 RX11 d) (hd0 : 1 ≤ d) (hn : 126 ≤ n) {rE : Int32} {mE : Mm} (hF : Fin' X G ρ n (some .int) (some (.int rE)) (RT t u w v x) mE) : ∀ (k : Nat) (v1 : Int32) (v2 : Int32) (v3 : Int32) (m : Mm), f_X11_losesDisk_L4 k v1 v2 v3 m = some (rE, mE) → J X G ρ n 5 4 [(0, .ref 78), (1, .int v1), (2, .int v2), (3, .int v3)] [] (RT t u w v x) m := by
  intro k
  induction k with
  | zero => intro _ _ _ _ h; rw [f_X11_losesDisk_L4] at h; cases h
  | succ k ih =>
    intro v1 v2 v3 m h
    rw [f_X11_losesDisk_L4] at h
    refine J_iload_n hX dX11_losesDisk_4 rfl 3 rfl ?_
    refine J_aload_n hX dX11_losesDisk_5 rfl 0 rfl ?_
    refine J_getR hX dX11_losesDisk_6 fl_RX11_71 (ltn ltc_78 hn) lo_78 rfl (rt_78_32 _ _ _ _ _) ?_
    refine J_iconst hX (0 : Int32) dX11_losesDisk_9 ic_0 ?_
    refine J_iaload0 hX dX11_losesDisk_10 (ltn ltc_99 hn) lay_99 (by decide) ?_
    refine J_icmp_ge hX 75 dX11_losesDisk_11 (by decide) h (fun c h => ?_) (fun c h => ?_)
    · refine J_iconst hX (0 : Int32) dX11_losesDisk_14 ic_0 ?_
      refine J_istore hX [(4, .int (0 : Int32)), (0, .ref 78), (1, .int v1), (2, .int v2), (3, .int v3)] dX11_losesDisk_15 (by decide) rfl ?_
      refine J_sub [(0, .ref 78), (1, .int v1), (2, .int v2), (3, .int v3), (4, .int (0 : Int32))] [1, 2, 3, 4, 0] rfl ?_
      refine t_X11_losesDisk_L17 hX hd0 hn hF (fun w5 m6 h => ?_) FU v2 (0 : Int32) m h
      refine J_iinc hX (v3 + (1 : Int32)) [(3, .int (v3 + (1 : Int32))), (0, .ref 78), (1, .int v1), (2, .int w5)] dX11_losesDisk_69 3 rfl (congrArg (fun z => v3 + z) ic_1) (by decide) rfl ?_
      refine J_goto hX 4 dX11_losesDisk_72 (by decide) ?_
      refine J_sub [(0, .ref 78), (1, .int v1), (2, .int w5), (3, .int (v3 + (1 : Int32)))] [1, 2, 3, 0] rfl ?_
      exact ih v1 w5 (v3 + (1 : Int32)) m6 h
    · refine J_aload_n hX dX11_losesDisk_75 rfl 0 rfl ?_
      refine J_getR hX dX11_losesDisk_76 fl_RX11_125 (ltn ltc_78 hn) lo_78 rfl (rt_78_50 _ _ _ _ _) ?_
      refine J_iconst hX (0 : Int32) dX11_losesDisk_79 ic_0 ?_
      refine J_dup2 hX dX11_losesDisk_80 rfl rfl ?_
      refine J_iaload0 hX dX11_losesDisk_81 (ltn ltc_117 hn) lay_117 (by decide) ?_
      refine J_iconst hX (1 : Int32) dX11_losesDisk_82 ic_1 ?_
      refine J_iload_n hX dX11_losesDisk_83 rfl 1 rfl ?_
      refine J_ishl hX dX11_losesDisk_84 ?_
      refine J_iconst hX (-1 : Int32) dX11_losesDisk_85 ic_m1 ?_
      refine J_ixor hX dX11_losesDisk_86 ?_
      refine J_iand hX dX11_losesDisk_87 ?_
      refine J_iastore0 hX dX11_losesDisk_88 (ltn ltc_117 hn) lay_117 (by decide) h (fun m1 h => ?_)
      refine J_iload_n hX dX11_losesDisk_89 rfl 2 rfl ?_
      exact J_ireturn hX dX11_losesDisk_90 h hF rfl
theorem t_X11_losesDisk {X : XX} {G : GG} {ρ : Nat → Nat} {n t u w v : Nat} {x : Option Nat} {d : Nat} (hX : Ok X G ρ cX11_losesDisk 5 RX11 d) (hd0 : 1 ≤ d) (hn : 126 ≤ n) {rE : Int32} {mE : Mm} (hF : Fin' X G ρ n (some .int) (some (.int rE)) (RT t u w v x) mE) {x1 : Int32} {m : Mm} (h : f_X11_losesDisk x1 m = some (rE, mE)) : J X G ρ n 5 0 [(0, .ref 78), (1, .int x1)] [] (RT t u w v x) m := by
  unfold f_X11_losesDisk at h
  refine J_iconst hX (0 : Int32) dX11_losesDisk_0 ic_0 ?_
  refine J_istore_n hX [(2, .int (0 : Int32)), (0, .ref 78), (1, .int x1)] dX11_losesDisk_1 rfl (by decide) rfl ?_
  refine J_iconst hX (0 : Int32) dX11_losesDisk_2 ic_0 ?_
  refine J_istore_n hX [(3, .int (0 : Int32)), (2, .int (0 : Int32)), (0, .ref 78), (1, .int x1)] dX11_losesDisk_3 rfl (by decide) rfl ?_
  refine J_sub [(0, .ref 78), (1, .int x1), (2, .int (0 : Int32)), (3, .int (0 : Int32))] [2, 3, 1, 0] rfl ?_
  exact t_X11_losesDisk_L4 hX hd0 hn hF FU x1 (0 : Int32) (0 : Int32)  m h
theorem c_X11_losesDisk {G : GG} {l : Launch} {ρ : Nat → Nat} {n t u w v : Nat} {x : Option Nat} (hn : 126 ≤ n) {x1 : Int32} {m : Mm} {rE : Int32} {mE : Mm} (h : f_X11_losesDisk x1 m = some (rE, mE)) : CT G l yX11_losesDisk cX11_losesDisk 5 (some .int) 1 0 0 ρ n (RT t u w v x) [.ref 78, .int x1] m (some (.int rE)) (RT t u w v x) mE := ct_of_J (by decide) rfl (Nat.le_of_ble_eq_true rfl) (fun X hX e1 e2 e3 e4 hQ hr hl => t_X11_losesDisk hX (Nat.le_refl _) hn ⟨by rw [hQ, e3, e4], hr, hl⟩ h)
theorem t_X11_rebuilds_L96 {X : XX} {G : GG} {ρ : Nat → Nat} {n t u w v : Nat} {x : Option Nat} {d : Nat} (hX : Ok X G ρ cX11_rebuilds 7 RX11 d) (hd0 : 2 ≤ d) (hn : 126 ≤ n) {rE : Int32} {mE : Mm} (hF : Fin' X G ρ n (some .int) (some (.int rE)) (RT t u w v x) mE) {v1 : Int32} {v2 : Int32} {v3 : Int32} {v4 : Int32} {v5 : Int32} {K : Mm → Option (Int32 × Mm)} (hK : ∀ (m : Mm), K m = some (rE, mE) → J X G ρ n 7 124 [(0, .ref 78), (1, .int v1), (2, .int v2), (3, .int v3), (4, .int v4), (5, .int v5)] [] (RT t u w v x) m) : ∀ (k : Nat) (v6 : Int32) (m : Mm), f_X11_rebuilds_L96 v1 v2 v3 v4 v5 K k v6 m = some (rE, mE) → J X G ρ n 7 96 [(0, .ref 78), (1, .int v1), (2, .int v2), (3, .int v3), (4, .int v4), (5, .int v5), (6, .int v6)] [] (RT t u w v x) m := by
  intro k
  induction k with
  | zero => intro _ _ h; rw [f_X11_rebuilds_L96] at h; cases h
  | succ k ih =>
    intro v6 m h
    rw [f_X11_rebuilds_L96] at h
    refine J_iload hX dX11_rebuilds_96 6 rfl ?_
    refine J_aload_n hX dX11_rebuilds_98 rfl 0 rfl ?_
    refine J_getR hX dX11_rebuilds_99 fl_RX11_74 (ltn ltc_78 hn) lo_78 rfl (rt_78_33 _ _ _ _ _) ?_
    refine J_iload_n hX dX11_rebuilds_102 rfl 3 rfl ?_
    refine J_iaload hX dX11_rebuilds_103 (ltn ltc_100 hn) lay_100 h (fun h => ?_)
    refine J_icmp_ge hX 124 dX11_rebuilds_104 (by decide) h (fun c h => ?_) (fun c h => ?_)
    · refine J_aload_n hX dX11_rebuilds_107 rfl 0 rfl ?_
      refine J_iconst hX (5 : Int32) dX11_rebuilds_108 ic_5 ?_
      refine J_iload_n hX dX11_rebuilds_109 rfl 3 rfl ?_
      refine J_imul hX dX11_rebuilds_110 ?_
      refine J_iload hX dX11_rebuilds_111 6 rfl ?_
      refine J_iadd hX dX11_rebuilds_113 ?_
      refine J_iconst hX (1 : Int32) dX11_rebuilds_114 ic_1 ?_
      obtain ⟨m7, h0, h⟩ := bd1_some h
      refine J_callVv (As := [.int (((5 : Int32) * v3) + v6), .int (1 : Int32)]) (st := []) hX dX11_rebuilds_115 cw_RX11_364 (by omega) (c_X11_loads0 hn  h0) (ltn ltc_78 hn) lo_78 (by decide) rfl rfl rfl (Nat.le_of_ble_eq_true rfl) ?_
      clear h0
      refine J_iinc hX (v6 + (1 : Int32)) [(6, .int (v6 + (1 : Int32))), (0, .ref 78), (1, .int v1), (2, .int v2), (3, .int v3), (4, .int v4), (5, .int v5)] dX11_rebuilds_118 6 rfl (congrArg (fun z => v6 + z) ic_1) (by decide) rfl ?_
      refine J_goto hX 96 dX11_rebuilds_121 (by decide) ?_
      refine J_sub [(0, .ref 78), (1, .int v1), (2, .int v2), (3, .int v3), (4, .int v4), (5, .int v5), (6, .int (v6 + (1 : Int32)))] [1, 2, 3, 4, 5, 6, 0] rfl ?_
      exact ih (v6 + (1 : Int32)) m7 h
    · refine J_sub [(0, .ref 78), (1, .int v1), (2, .int v2), (3, .int v3), (4, .int v4), (5, .int v5)] [0, 1, 2, 3, 4, 5] rfl ?_
      exact hK  m h
theorem t_X11_rebuilds_J147 {X : XX} {G : GG} {ρ : Nat → Nat} {n t u w v : Nat} {x : Option Nat} {d : Nat} (hX : Ok X G ρ cX11_rebuilds 7 RX11 d) (hd0 : 2 ≤ d) (hn : 126 ≤ n) {rE : Int32} {mE : Mm} (hF : Fin' X G ρ n (some .int) (some (.int rE)) (RT t u w v x) mE) {K4 : Int32 → Int32 → Int32 → Mm → Option (Int32 × Mm)} (v1 : Int32) (v2 : Int32) (v3 : Int32) (v4 : Int32) (s0 : Int32) (s1 : Int32) (hK4 : ∀ (w1 : Int32) (w2 : Int32) (w3 : Int32) (m : Mm), K4 w1 w2 w3 m = some (rE, mE) → J X G ρ n 7 4 [(0, .ref 78), (1, .int w1), (2, .int w2), (3, .int w3)] [] (RT t u w v x) m) (m : Mm) (h : f_X11_rebuilds_J147 K4 v1 v2 v3 v4 s0 s1 m = some (rE, mE)) : J X G ρ n 7 147 [(0, .ref 78), (1, .int v1), (2, .int v2), (3, .int v3), (4, .int v4)] [.int s0, .int s1, .ref 117] (RT t u w v x) m := by
  unfold f_X11_rebuilds_J147 at h
  refine J_iastore hX dX11_rebuilds_147 (ltn ltc_117 hn) lay_117 h (fun m9 h => ?_)
  refine J_aload_n hX dX11_rebuilds_148 rfl 0 rfl ?_
  refine J_iconst hX (5 : Int32) dX11_rebuilds_149 ic_5 ?_
  refine J_iload_n hX dX11_rebuilds_150 rfl 3 rfl ?_
  refine J_imul hX dX11_rebuilds_151 ?_
  refine J_iload hX dX11_rebuilds_152 4 rfl ?_
  refine J_iadd hX dX11_rebuilds_154 ?_
  refine J_iconst hX (1 : Int32) dX11_rebuilds_155 ic_1 ?_
  obtain ⟨m10, h0, h⟩ := bd1_some h
  refine J_callVv (As := [.int (((5 : Int32) * v3) + v4), .int (1 : Int32)]) (st := []) hX dX11_rebuilds_156 cw_RX11_364 (by omega) (c_X11_loads0 hn  h0) (ltn ltc_78 hn) lo_78 (by decide) rfl rfl rfl (Nat.le_of_ble_eq_true rfl) ?_
  clear h0
  refine J_iinc hX (v2 + (1 : Int32)) [(2, .int (v2 + (1 : Int32))), (0, .ref 78), (1, .int v1), (3, .int v3), (4, .int v4)] dX11_rebuilds_159 2 rfl (congrArg (fun z => v2 + z) ic_1) (by decide) rfl ?_
  refine J_iinc hX (v3 + (1 : Int32)) [(3, .int (v3 + (1 : Int32))), (2, .int (v2 + (1 : Int32))), (0, .ref 78), (1, .int v1), (4, .int v4)] dX11_rebuilds_162 3 rfl (congrArg (fun z => v3 + z) ic_1) (by decide) rfl ?_
  refine J_goto hX 4 dX11_rebuilds_165 (by decide) ?_
  refine J_sub [(0, .ref 78), (1, .int v1), (2, .int (v2 + (1 : Int32))), (3, .int (v3 + (1 : Int32)))] [2, 3, 1, 0] rfl ?_
  exact hK4 v1 (v2 + (1 : Int32)) (v3 + (1 : Int32)) m10 h
theorem t_X11_rebuilds_J93 {X : XX} {G : GG} {ρ : Nat → Nat} {n t u w v : Nat} {x : Option Nat} {d : Nat} (hX : Ok X G ρ cX11_rebuilds 7 RX11 d) (hd0 : 2 ≤ d) (hn : 126 ≤ n) {rE : Int32} {mE : Mm} (hF : Fin' X G ρ n (some .int) (some (.int rE)) (RT t u w v x) mE) {K4 : Int32 → Int32 → Int32 → Mm → Option (Int32 × Mm)} (v1 : Int32) (v2 : Int32) (v3 : Int32) (v4 : Int32) (v5 : Int32) (hK4 : ∀ (w1 : Int32) (w2 : Int32) (w3 : Int32) (m : Mm), K4 w1 w2 w3 m = some (rE, mE) → J X G ρ n 7 4 [(0, .ref 78), (1, .int w1), (2, .int w2), (3, .int w3)] [] (RT t u w v x) m) (m : Mm) (h : f_X11_rebuilds_J93 K4 v1 v2 v3 v4 v5 m = some (rE, mE)) : J X G ρ n 7 93 [(0, .ref 78), (1, .int v1), (2, .int v2), (3, .int v3), (4, .int v4), (5, .int v5)] [] (RT t u w v x) m := by
  unfold f_X11_rebuilds_J93 at h
  refine J_iconst hX (0 : Int32) dX11_rebuilds_93 ic_0 ?_
  refine J_istore hX [(6, .int (0 : Int32)), (0, .ref 78), (1, .int v1), (2, .int v2), (3, .int v3), (4, .int v4), (5, .int v5)] dX11_rebuilds_94 (by decide) rfl ?_
  refine J_sub [(0, .ref 78), (1, .int v1), (2, .int v2), (3, .int v3), (4, .int v4), (5, .int v5), (6, .int (0 : Int32))] [1, 2, 3, 4, 5, 6, 0] rfl ?_
  refine t_X11_rebuilds_L96 hX hd0 hn hF (fun m8 h => ?_) FU (0 : Int32) m h
  refine J_aload_n hX dX11_rebuilds_124 rfl 0 rfl ?_
  refine J_getR hX dX11_rebuilds_125 fl_RX11_125 (ltn ltc_78 hn) lo_78 rfl (rt_78_50 _ _ _ _ _) ?_
  refine J_bipush hX (14 : Int32) dX11_rebuilds_128 (by decide) ?_
  refine J_iconst hX (5 : Int32) dX11_rebuilds_130 ic_5 ?_
  refine J_iload_n hX dX11_rebuilds_131 rfl 3 rfl ?_
  refine J_imul hX dX11_rebuilds_132 ?_
  refine J_iadd hX dX11_rebuilds_133 ?_
  refine J_iload hX dX11_rebuilds_134 4 rfl ?_
  refine J_iadd hX dX11_rebuilds_136 ?_
  refine J_iload hX dX11_rebuilds_137 5 rfl ?_
  refine J_if_eq hX 146 dX11_rebuilds_139 (by decide) h (fun c h => ?_) (fun c h => ?_)
  · refine J_iconst hX (1 : Int32) dX11_rebuilds_146 ic_1 ?_
    refine J_sub [(0, .ref 78), (1, .int v1), (2, .int v2), (3, .int v3), (4, .int v4)] [0, 1, 2, 3, 4] rfl ?_
    exact t_X11_rebuilds_J147 hX hd0 hn hF v1 v2 v3 v4 (1 : Int32) (((14 : Int32) + ((5 : Int32) * v3)) + v4) hK4 m8 h
  · refine J_iconst hX (0 : Int32) dX11_rebuilds_142 ic_0 ?_
    refine J_goto hX 147 dX11_rebuilds_143 (by decide) ?_
    refine J_sub [(0, .ref 78), (1, .int v1), (2, .int v2), (3, .int v3), (4, .int v4)] [0, 1, 2, 3, 4] rfl ?_
    exact t_X11_rebuilds_J147 hX hd0 hn hF v1 v2 v3 v4 (0 : Int32) (((14 : Int32) + ((5 : Int32) * v3)) + v4) hK4 m8 h
theorem t_X11_rebuilds_L4 {X : XX} {G : GG} {ρ : Nat → Nat} {n t u w v : Nat} {x : Option Nat} {d : Nat} (hX : Ok X G ρ cX11_rebuilds 7 RX11 d) (hd0 : 2 ≤ d) (hn : 126 ≤ n) {rE : Int32} {mE : Mm} (hF : Fin' X G ρ n (some .int) (some (.int rE)) (RT t u w v x) mE) : ∀ (k : Nat) (v1 : Int32) (v2 : Int32) (v3 : Int32) (m : Mm), f_X11_rebuilds_L4 k v1 v2 v3 m = some (rE, mE) → J X G ρ n 7 4 [(0, .ref 78), (1, .int v1), (2, .int v2), (3, .int v3)] [] (RT t u w v x) m := by
  intro k
  induction k with
  | zero => intro _ _ _ _ h; rw [f_X11_rebuilds_L4] at h; cases h
  | succ k ih =>
    intro v1 v2 v3 m h
    rw [f_X11_rebuilds_L4] at h
    refine J_iload_n hX dX11_rebuilds_4 rfl 3 rfl ?_
    refine J_aload_n hX dX11_rebuilds_5 rfl 0 rfl ?_
    refine J_getR hX dX11_rebuilds_6 fl_RX11_71 (ltn ltc_78 hn) lo_78 rfl (rt_78_32 _ _ _ _ _) ?_
    refine J_iconst hX (0 : Int32) dX11_rebuilds_9 ic_0 ?_
    refine J_iaload0 hX dX11_rebuilds_10 (ltn ltc_99 hn) lay_99 (by decide) ?_
    refine J_icmp_ge hX 168 dX11_rebuilds_11 (by decide) h (fun c h => ?_) (fun c h => ?_)
    · refine J_iload_n hX dX11_rebuilds_14 rfl 2 rfl ?_
      refine J_iload_n hX dX11_rebuilds_15 rfl 1 rfl ?_
      refine J_icmp_ge hX 168 dX11_rebuilds_16 (by decide) h (fun c h => ?_) (fun c h => ?_)
      · refine J_aload_n hX dX11_rebuilds_19 rfl 0 rfl ?_
        refine J_iload_n hX dX11_rebuilds_20 rfl 3 rfl ?_
        obtain ⟨r2, m1, h0, h⟩ := bd2_some h
        refine J_callVi (As := [.int v3]) (st := []) hX dX11_rebuilds_21 cw_RX11_355 (by omega) (c_X11_lostIn hn  h0) (ltn ltc_78 hn) lo_78 (by decide) rfl rfl rfl (Nat.le_of_ble_eq_true rfl) ?_
        clear h0
        refine J_iconst hX (1 : Int32) dX11_rebuilds_24 ic_1 ?_
        refine J_icmp_eq hX 31 dX11_rebuilds_25 (by decide) h (fun c h => ?_) (fun c h => ?_)
        · refine J_aload_n hX dX11_rebuilds_31 rfl 0 rfl ?_
          refine J_iload_n hX dX11_rebuilds_32 rfl 3 rfl ?_
          obtain ⟨r4, m3, h0, h⟩ := bd2_some h
          refine J_callVi (As := [.int v3]) (st := []) hX dX11_rebuilds_33 cw_RX11_370 (by omega) (c_X11_lostUnit hn  h0) (ltn ltc_78 hn) lo_78 (by decide) rfl rfl rfl (Nat.le_of_ble_eq_true rfl) ?_
          clear h0
          refine J_istore hX [(4, .int r4), (0, .ref 78), (1, .int v1), (2, .int v2), (3, .int v3)] dX11_rebuilds_36 (by decide) rfl ?_
          refine J_aload_n hX dX11_rebuilds_38 rfl 1 rfl ?_
          refine J_aload_n hX dX11_rebuilds_39 rfl 1 rfl ?_
          refine J_getR hX dX11_rebuilds_40 fl_RX11_89 (ltn ltc_78 hn) lo_78 rfl (rt_78_38 _ _ _ _ _) ?_
          refine J_iconst hX (5 : Int32) dX11_rebuilds_43 ic_5 ?_
          refine J_iload_n hX dX11_rebuilds_44 rfl 4 rfl ?_
          refine J_imul hX dX11_rebuilds_45 ?_
          refine J_iload hX dX11_rebuilds_46 0 rfl ?_
          refine J_iadd hX dX11_rebuilds_48 ?_
          refine J_iaload hX dX11_rebuilds_49 (ltn ltc_105 hn) lay_105 h (fun h => ?_)
          obtain ⟨r6, m5, h0, h⟩ := bd2_some h
          refine J_callVi (As := [.int (gI m3 105 (ix (((5 : Int32) * v3) + r4)))]) (st := []) hX dX11_rebuilds_50 cw_RX11_373 (by omega) (c_X11_isUp hn  h0) (ltn ltc_78 hn) lo_78 (by decide) rfl rfl rfl (Nat.le_of_ble_eq_true rfl) ?_
          clear h0
          refine J_istore hX [(5, .int r6), (4, .int r4), (0, .ref 78), (1, .int v1), (2, .int v2), (3, .int v3)] dX11_rebuilds_53 (by decide) rfl ?_
          refine J_iload hX dX11_rebuilds_55 0 rfl ?_
          refine J_if_ne hX 93 dX11_rebuilds_57 (by decide) h (fun c h => ?_) (fun c h => ?_)
          · refine J_aload_n hX dX11_rebuilds_60 rfl 2 rfl ?_
            refine J_getR hX dX11_rebuilds_61 fl_RX11_83 (ltn ltc_78 hn) lo_78 rfl (rt_78_36 _ _ _ _ _) ?_
            refine J_iload_n hX dX11_rebuilds_64 rfl 5 rfl ?_
            refine J_iaload hX dX11_rebuilds_65 (ltn ltc_103 hn) lay_103 h (fun h => ?_)
            refine J_if_lt hX 162 dX11_rebuilds_66 (by decide) h (fun c h => ?_) (fun c h => ?_)
            · refine J_iinc hX (v3 + (1 : Int32)) [(3, .int (v3 + (1 : Int32))), (5, .int r6), (4, .int r4), (0, .ref 78), (1, .int v1), (2, .int v2)] dX11_rebuilds_162 5 rfl (congrArg (fun z => v3 + z) ic_1) (by decide) rfl ?_
              refine J_goto hX 4 dX11_rebuilds_165 (by decide) ?_
              refine J_sub [(0, .ref 78), (1, .int v1), (2, .int v2), (3, .int (v3 + (1 : Int32)))] [3, 4, 5, 0] rfl ?_
              exact ih v1 v2 (v3 + (1 : Int32)) m5 h
            · refine J_aload_n hX dX11_rebuilds_69 rfl 2 rfl ?_
              refine J_aload_n hX dX11_rebuilds_70 rfl 2 rfl ?_
              refine J_getR hX dX11_rebuilds_71 fl_RX11_83 (ltn ltc_78 hn) lo_78 rfl (rt_78_36 _ _ _ _ _) ?_
              refine J_iload_n hX dX11_rebuilds_74 rfl 5 rfl ?_
              refine J_iaload hX dX11_rebuilds_75 (ltn ltc_103 hn) lay_103 h (fun h => ?_)
              obtain ⟨r12, m11, h0, h⟩ := bd2_some h
              refine J_callVi (As := [.int (gI m5 103 (ix v3))]) (st := []) hX dX11_rebuilds_76 cw_RX11_373 (by omega) (c_X11_isUp hn  h0) (ltn ltc_78 hn) lo_78 (by decide) rfl rfl rfl (Nat.le_of_ble_eq_true rfl) ?_
              clear h0
              refine J_if_eq hX 162 dX11_rebuilds_79 (by decide) h (fun c h => ?_) (fun c h => ?_)
              · refine J_iinc hX (v3 + (1 : Int32)) [(3, .int (v3 + (1 : Int32))), (5, .int r6), (4, .int r4), (0, .ref 78), (1, .int v1), (2, .int v2)] dX11_rebuilds_162 5 rfl (congrArg (fun z => v3 + z) ic_1) (by decide) rfl ?_
                refine J_goto hX 4 dX11_rebuilds_165 (by decide) ?_
                refine J_sub [(0, .ref 78), (1, .int v1), (2, .int v2), (3, .int (v3 + (1 : Int32)))] [3, 4, 5, 0] rfl ?_
                exact ih v1 v2 (v3 + (1 : Int32)) m11 h
              · refine J_aload_n hX dX11_rebuilds_82 rfl 2 rfl ?_
                refine J_iload_n hX dX11_rebuilds_83 rfl 5 rfl ?_
                obtain ⟨r14, m13, h0, h⟩ := bd2_some h
                refine J_callVi (As := [.int v3]) (st := []) hX dX11_rebuilds_84 cw_RX11_376 (by omega) (c_X11_awayIn hn  h0) (ltn ltc_78 hn) lo_78 (by decide) rfl rfl rfl (Nat.le_of_ble_eq_true rfl) ?_
                clear h0
                refine J_if_lt hX 93 dX11_rebuilds_87 (by decide) h (fun c h => ?_) (fun c h => ?_)
                · refine J_sub [(0, .ref 78), (1, .int v1), (2, .int v2), (3, .int v3), (4, .int r4), (5, .int r6)] [2, 3, 4, 5, 1, 0] rfl ?_
                  exact t_X11_rebuilds_J93 hX hd0 hn hF v1 v2 v3 r4 r6 (fun w1 w2 w3 m h => ih w1 w2 w3 m h) m13 h
                · refine J_goto hX 162 dX11_rebuilds_90 (by decide) ?_
                  refine J_iinc hX (v3 + (1 : Int32)) [(3, .int (v3 + (1 : Int32))), (5, .int r6), (4, .int r4), (0, .ref 78), (1, .int v1), (2, .int v2)] dX11_rebuilds_162 5 rfl (congrArg (fun z => v3 + z) ic_1) (by decide) rfl ?_
                  refine J_goto hX 4 dX11_rebuilds_165 (by decide) ?_
                  refine J_sub [(0, .ref 78), (1, .int v1), (2, .int v2), (3, .int (v3 + (1 : Int32)))] [3, 4, 5, 0] rfl ?_
                  exact ih v1 v2 (v3 + (1 : Int32)) m13 h
          · refine J_sub [(0, .ref 78), (1, .int v1), (2, .int v2), (3, .int v3), (4, .int r4), (5, .int r6)] [2, 3, 4, 5, 1, 0] rfl ?_
            exact t_X11_rebuilds_J93 hX hd0 hn hF v1 v2 v3 r4 r6 (fun w1 w2 w3 m h => ih w1 w2 w3 m h) m5 h
        · refine J_goto hX 162 dX11_rebuilds_28 (by decide) ?_
          refine J_iinc hX (v3 + (1 : Int32)) [(3, .int (v3 + (1 : Int32))), (0, .ref 78), (1, .int v1), (2, .int v2)] dX11_rebuilds_162 3 rfl (congrArg (fun z => v3 + z) ic_1) (by decide) rfl ?_
          refine J_goto hX 4 dX11_rebuilds_165 (by decide) ?_
          refine J_sub [(0, .ref 78), (1, .int v1), (2, .int v2), (3, .int (v3 + (1 : Int32)))] [1, 2, 3, 0] rfl ?_
          exact ih v1 v2 (v3 + (1 : Int32)) m1 h
      · refine J_iload_n hX dX11_rebuilds_168 rfl 2 rfl ?_
        exact J_ireturn hX dX11_rebuilds_169 h hF rfl
    · refine J_iload_n hX dX11_rebuilds_168 rfl 2 rfl ?_
      exact J_ireturn hX dX11_rebuilds_169 h hF rfl
theorem t_X11_rebuilds {X : XX} {G : GG} {ρ : Nat → Nat} {n t u w v : Nat} {x : Option Nat} {d : Nat} (hX : Ok X G ρ cX11_rebuilds 7 RX11 d) (hd0 : 2 ≤ d) (hn : 126 ≤ n) {rE : Int32} {mE : Mm} (hF : Fin' X G ρ n (some .int) (some (.int rE)) (RT t u w v x) mE) {x1 : Int32} {m : Mm} (h : f_X11_rebuilds x1 m = some (rE, mE)) : J X G ρ n 7 0 [(0, .ref 78), (1, .int x1)] [] (RT t u w v x) m := by
  unfold f_X11_rebuilds at h
  refine J_iconst hX (0 : Int32) dX11_rebuilds_0 ic_0 ?_
  refine J_istore_n hX [(2, .int (0 : Int32)), (0, .ref 78), (1, .int x1)] dX11_rebuilds_1 rfl (by decide) rfl ?_
  refine J_iconst hX (0 : Int32) dX11_rebuilds_2 ic_0 ?_
  refine J_istore_n hX [(3, .int (0 : Int32)), (2, .int (0 : Int32)), (0, .ref 78), (1, .int x1)] dX11_rebuilds_3 rfl (by decide) rfl ?_
  refine J_sub [(0, .ref 78), (1, .int x1), (2, .int (0 : Int32)), (3, .int (0 : Int32))] [2, 3, 1, 0] rfl ?_
  exact t_X11_rebuilds_L4 hX hd0 hn hF FU x1 (0 : Int32) (0 : Int32)  m h
theorem c_X11_rebuilds {G : GG} {l : Launch} {ρ : Nat → Nat} {n t u w v : Nat} {x : Option Nat} (hn : 126 ≤ n) {x1 : Int32} {m : Mm} {rE : Int32} {mE : Mm} (h : f_X11_rebuilds x1 m = some (rE, mE)) : CT G l yX11_rebuilds cX11_rebuilds 7 (some .int) 2 0 0 ρ n (RT t u w v x) [.ref 78, .int x1] m (some (.int rE)) (RT t u w v x) mE := ct_of_J (by decide) rfl (Nat.le_of_ble_eq_true rfl) (fun X hX e1 e2 e3 e4 hQ hr hl => t_X11_rebuilds hX (Nat.le_refl _) hn ⟨by rw [hQ, e3, e4], hr, hl⟩ h)
theorem t_X11_goesHome_L4 {X : XX} {G : GG} {ρ : Nat → Nat} {n t u w v : Nat} {x : Option Nat} {d : Nat} (hX : Ok X G ρ cX11_goesHome 5 RX11 d) (hd0 : 2 ≤ d) (hn : 126 ≤ n) {rE : Int32} {mE : Mm} (hF : Fin' X G ρ n (some .int) (some (.int rE)) (RT t u w v x) mE) : ∀ (k : Nat) (v1 : Int32) (v2 : Int32) (v3 : Int32) (m : Mm), f_X11_goesHome_L4 k v1 v2 v3 m = some (rE, mE) → J X G ρ n 5 4 [(0, .ref 78), (1, .int v1), (2, .int v2), (3, .int v3)] [] (RT t u w v x) m := by
  intro k
  induction k with
  | zero => intro _ _ _ _ h; rw [f_X11_goesHome_L4] at h; cases h
  | succ k ih =>
    intro v1 v2 v3 m h
    rw [f_X11_goesHome_L4] at h
    refine J_iload_n hX dX11_goesHome_4 rfl 3 rfl ?_
    refine J_aload_n hX dX11_goesHome_5 rfl 0 rfl ?_
    refine J_getR hX dX11_goesHome_6 fl_RX11_71 (ltn ltc_78 hn) lo_78 rfl (rt_78_32 _ _ _ _ _) ?_
    refine J_iconst hX (0 : Int32) dX11_goesHome_9 ic_0 ?_
    refine J_iaload0 hX dX11_goesHome_10 (ltn ltc_99 hn) lay_99 (by decide) ?_
    refine J_icmp_ge hX 98 dX11_goesHome_11 (by decide) h (fun c h => ?_) (fun c h => ?_)
    · refine J_iload_n hX dX11_goesHome_14 rfl 2 rfl ?_
      refine J_iload_n hX dX11_goesHome_15 rfl 1 rfl ?_
      refine J_icmp_ge hX 98 dX11_goesHome_16 (by decide) h (fun c h => ?_) (fun c h => ?_)
      · refine J_aload_n hX dX11_goesHome_19 rfl 0 rfl ?_
        refine J_iload_n hX dX11_goesHome_20 rfl 3 rfl ?_
        obtain ⟨r2, m1, h0, h⟩ := bd2_some h
        refine J_callVi (As := [.int v3]) (st := []) hX dX11_goesHome_21 cw_RX11_376 (by omega) (c_X11_awayIn hn  h0) (ltn ltc_78 hn) lo_78 (by decide) rfl rfl rfl (Nat.le_of_ble_eq_true rfl) ?_
        clear h0
        refine J_istore hX [(4, .int r2), (0, .ref 78), (1, .int v1), (2, .int v2), (3, .int v3)] dX11_goesHome_24 (by decide) rfl ?_
        refine J_iload hX dX11_goesHome_26 0 rfl ?_
        refine J_if_lt hX 92 dX11_goesHome_28 (by decide) h (fun c h => ?_) (fun c h => ?_)
        · refine J_iinc hX (v3 + (1 : Int32)) [(3, .int (v3 + (1 : Int32))), (4, .int r2), (0, .ref 78), (1, .int v1), (2, .int v2)] dX11_goesHome_92 4 rfl (congrArg (fun z => v3 + z) ic_1) (by decide) rfl ?_
          refine J_goto hX 4 dX11_goesHome_95 (by decide) ?_
          refine J_sub [(0, .ref 78), (1, .int v1), (2, .int v2), (3, .int (v3 + (1 : Int32)))] [2, 3, 4, 0] rfl ?_
          exact ih v1 v2 (v3 + (1 : Int32)) m1 h
        · refine J_aload_n hX dX11_goesHome_31 rfl 1 rfl ?_
          refine J_aload_n hX dX11_goesHome_32 rfl 1 rfl ?_
          refine J_getR hX dX11_goesHome_33 fl_RX11_89 (ltn ltc_78 hn) lo_78 rfl (rt_78_38 _ _ _ _ _) ?_
          refine J_iconst hX (5 : Int32) dX11_goesHome_36 ic_5 ?_
          refine J_iload_n hX dX11_goesHome_37 rfl 4 rfl ?_
          refine J_imul hX dX11_goesHome_38 ?_
          refine J_iload hX dX11_goesHome_39 0 rfl ?_
          refine J_iadd hX dX11_goesHome_41 ?_
          refine J_iaload hX dX11_goesHome_42 (ltn ltc_105 hn) lay_105 h (fun h => ?_)
          obtain ⟨r4, m3, h0, h⟩ := bd2_some h
          refine J_callVi (As := [.int (gI m1 105 (ix (((5 : Int32) * v3) + r2)))]) (st := []) hX dX11_goesHome_43 cw_RX11_373 (by omega) (c_X11_isUp hn  h0) (ltn ltc_78 hn) lo_78 (by decide) rfl rfl rfl (Nat.le_of_ble_eq_true rfl) ?_
          clear h0
          refine J_if_ne hX 52 dX11_goesHome_46 (by decide) h (fun c h => ?_) (fun c h => ?_)
          · refine J_goto hX 92 dX11_goesHome_49 (by decide) ?_
            refine J_iinc hX (v3 + (1 : Int32)) [(3, .int (v3 + (1 : Int32))), (4, .int r2), (0, .ref 78), (1, .int v1), (2, .int v2)] dX11_goesHome_92 4 rfl (congrArg (fun z => v3 + z) ic_1) (by decide) rfl ?_
            refine J_goto hX 4 dX11_goesHome_95 (by decide) ?_
            refine J_sub [(0, .ref 78), (1, .int v1), (2, .int v2), (3, .int (v3 + (1 : Int32)))] [2, 3, 4, 0] rfl ?_
            exact ih v1 v2 (v3 + (1 : Int32)) m3 h
          · refine J_aload_n hX dX11_goesHome_52 rfl 1 rfl ?_
            refine J_iconst hX (5 : Int32) dX11_goesHome_53 ic_5 ?_
            refine J_iload_n hX dX11_goesHome_54 rfl 4 rfl ?_
            refine J_imul hX dX11_goesHome_55 ?_
            refine J_iload hX dX11_goesHome_56 0 rfl ?_
            refine J_iadd hX dX11_goesHome_58 ?_
            refine J_iconst hX (1 : Int32) dX11_goesHome_59 ic_1 ?_
            obtain ⟨m5, h0, h⟩ := bd1_some h
            refine J_callVv (As := [.int (((5 : Int32) * v3) + r2), .int (1 : Int32)]) (st := []) hX dX11_goesHome_60 cw_RX11_364 (by omega) (c_X11_loads0 hn  h0) (ltn ltc_78 hn) lo_78 (by decide) rfl rfl rfl (Nat.le_of_ble_eq_true rfl) ?_
            clear h0
            refine J_aload_n hX dX11_goesHome_63 rfl 1 rfl ?_
            refine J_getR hX dX11_goesHome_64 fl_RX11_125 (ltn ltc_78 hn) lo_78 rfl (rt_78_50 _ _ _ _ _) ?_
            refine J_bipush hX (14 : Int32) dX11_goesHome_67 (by decide) ?_
            refine J_iconst hX (5 : Int32) dX11_goesHome_69 ic_5 ?_
            refine J_iload_n hX dX11_goesHome_70 rfl 4 rfl ?_
            refine J_imul hX dX11_goesHome_71 ?_
            refine J_iadd hX dX11_goesHome_72 ?_
            refine J_iload hX dX11_goesHome_73 0 rfl ?_
            refine J_iadd hX dX11_goesHome_75 ?_
            refine J_iconst hX (0 : Int32) dX11_goesHome_76 ic_0 ?_
            refine J_iastore hX dX11_goesHome_77 (ltn ltc_117 hn) lay_117 h (fun m6 h => ?_)
            refine J_aload_n hX dX11_goesHome_78 rfl 1 rfl ?_
            refine J_iconst hX (5 : Int32) dX11_goesHome_79 ic_5 ?_
            refine J_iload_n hX dX11_goesHome_80 rfl 4 rfl ?_
            refine J_imul hX dX11_goesHome_81 ?_
            refine J_iload hX dX11_goesHome_82 0 rfl ?_
            refine J_iadd hX dX11_goesHome_84 ?_
            refine J_iconst hX (1 : Int32) dX11_goesHome_85 ic_1 ?_
            obtain ⟨m7, h0, h⟩ := bd1_some h
            refine J_callVv (As := [.int (((5 : Int32) * v3) + r2), .int (1 : Int32)]) (st := []) hX dX11_goesHome_86 cw_RX11_364 (by omega) (c_X11_loads0 hn  h0) (ltn ltc_78 hn) lo_78 (by decide) rfl rfl rfl (Nat.le_of_ble_eq_true rfl) ?_
            clear h0
            refine J_iinc hX (v2 + (1 : Int32)) [(2, .int (v2 + (1 : Int32))), (4, .int r2), (0, .ref 78), (1, .int v1), (3, .int v3)] dX11_goesHome_89 3 rfl (congrArg (fun z => v2 + z) ic_1) (by decide) rfl ?_
            refine J_iinc hX (v3 + (1 : Int32)) [(3, .int (v3 + (1 : Int32))), (2, .int (v2 + (1 : Int32))), (4, .int r2), (0, .ref 78), (1, .int v1)] dX11_goesHome_92 4 rfl (congrArg (fun z => v3 + z) ic_1) (by decide) rfl ?_
            refine J_goto hX 4 dX11_goesHome_95 (by decide) ?_
            refine J_sub [(0, .ref 78), (1, .int v1), (2, .int (v2 + (1 : Int32))), (3, .int (v3 + (1 : Int32)))] [3, 4, 1, 0] rfl ?_
            exact ih v1 (v2 + (1 : Int32)) (v3 + (1 : Int32)) m7 h
      · refine J_iload_n hX dX11_goesHome_98 rfl 2 rfl ?_
        exact J_ireturn hX dX11_goesHome_99 h hF rfl
    · refine J_iload_n hX dX11_goesHome_98 rfl 2 rfl ?_
      exact J_ireturn hX dX11_goesHome_99 h hF rfl
theorem t_X11_goesHome {X : XX} {G : GG} {ρ : Nat → Nat} {n t u w v : Nat} {x : Option Nat} {d : Nat} (hX : Ok X G ρ cX11_goesHome 5 RX11 d) (hd0 : 2 ≤ d) (hn : 126 ≤ n) {rE : Int32} {mE : Mm} (hF : Fin' X G ρ n (some .int) (some (.int rE)) (RT t u w v x) mE) {x1 : Int32} {m : Mm} (h : f_X11_goesHome x1 m = some (rE, mE)) : J X G ρ n 5 0 [(0, .ref 78), (1, .int x1)] [] (RT t u w v x) m := by
  unfold f_X11_goesHome at h
  refine J_iconst hX (0 : Int32) dX11_goesHome_0 ic_0 ?_
  refine J_istore_n hX [(2, .int (0 : Int32)), (0, .ref 78), (1, .int x1)] dX11_goesHome_1 rfl (by decide) rfl ?_
  refine J_iconst hX (0 : Int32) dX11_goesHome_2 ic_0 ?_
  refine J_istore_n hX [(3, .int (0 : Int32)), (2, .int (0 : Int32)), (0, .ref 78), (1, .int x1)] dX11_goesHome_3 rfl (by decide) rfl ?_
  refine J_sub [(0, .ref 78), (1, .int x1), (2, .int (0 : Int32)), (3, .int (0 : Int32))] [2, 3, 1, 0] rfl ?_
  exact t_X11_goesHome_L4 hX hd0 hn hF FU x1 (0 : Int32) (0 : Int32)  m h
theorem c_X11_goesHome {G : GG} {l : Launch} {ρ : Nat → Nat} {n t u w v : Nat} {x : Option Nat} (hn : 126 ≤ n) {x1 : Int32} {m : Mm} {rE : Int32} {mE : Mm} (h : f_X11_goesHome x1 m = some (rE, mE)) : CT G l yX11_goesHome cX11_goesHome 5 (some .int) 2 0 0 ρ n (RT t u w v x) [.ref 78, .int x1] m (some (.int rE)) (RT t u w v x) mE := ct_of_J (by decide) rfl (Nat.le_of_ble_eq_true rfl) (fun X hX e1 e2 e3 e4 hQ hr hl => t_X11_goesHome hX (Nat.le_refl _) hn ⟨by rw [hQ, e3, e4], hr, hl⟩ h)
theorem t_X11_copies_L3 {X : XX} {G : GG} {ρ : Nat → Nat} {n t u w v : Nat} {x : Option Nat} {d : Nat} {p0 : Nat} {p2 : Nat} (hX : Ok X G ρ cX11_copies 5 RX11 d) (hd0 : 0 ≤ d) (hn : 126 ≤ n) (hp0 : isIa p0) (hp2 : isIa p2) {mE : Mm} (hF : Fin' X G ρ n none none (RT t u w v x) mE) : ∀ (k : Nat) (v1 : Int32) (v3 : Int32) (v4 : Int32) (m : Mm), f_X11_copies_L3 p0 p2 k v1 v3 v4 m = some mE → J X G ρ n 5 3 [(0, .ref p0), (1, .int v1), (2, .ref p2), (3, .int v3), (4, .int v4)] [] (RT t u w v x) m := by
  intro k
  induction k with
  | zero => intro _ _ _ _ h; rw [f_X11_copies_L3] at h; cases h
  | succ k ih =>
    intro v1 v3 v4 m h
    rw [f_X11_copies_L3] at h
    refine J_iload hX dX11_copies_3 4 rfl ?_
    refine J_sipush hX (374 : Int32) dX11_copies_5 (by decide) ?_
    refine J_icmp_ge hX 29 dX11_copies_8 (by decide) h (fun c h => ?_) (fun c h => ?_)
    · refine J_aload_n hX dX11_copies_11 rfl 2 rfl ?_
      refine J_iload_n hX dX11_copies_12 rfl 3 rfl ?_
      refine J_iload hX dX11_copies_13 4 rfl ?_
      refine J_iadd hX dX11_copies_15 ?_
      refine J_aload_n hX dX11_copies_16 rfl 0 rfl ?_
      refine J_iload_n hX dX11_copies_17 rfl 1 rfl ?_
      refine J_iload hX dX11_copies_18 4 rfl ?_
      refine J_iadd hX dX11_copies_20 ?_
      refine J_iaload hX dX11_copies_21 (ltn hp0.2 hn) (layIa hp0) h (fun h => ?_)
      refine J_iastore hX dX11_copies_22 (ltn hp2.2 hn) (layIa hp2) h (fun m1 h => ?_)
      refine J_iinc hX (v4 + (1 : Int32)) [(4, .int (v4 + (1 : Int32))), (0, .ref p0), (1, .int v1), (2, .ref p2), (3, .int v3)] dX11_copies_23 4 rfl (congrArg (fun z => v4 + z) ic_1) (by decide) rfl ?_
      refine J_goto hX 3 dX11_copies_26 (by decide) ?_
      refine J_sub [(0, .ref p0), (1, .int v1), (2, .ref p2), (3, .int v3), (4, .int (v4 + (1 : Int32)))] [1, 2, 3, 4, 0] rfl ?_
      exact ih v1 v3 (v4 + (1 : Int32)) m1 h
    · exact J_return hX dX11_copies_29 h hF
theorem t_X11_copies {X : XX} {G : GG} {ρ : Nat → Nat} {n t u w v : Nat} {x : Option Nat} {d : Nat} {p0 : Nat} {p2 : Nat} (hX : Ok X G ρ cX11_copies 5 RX11 d) (hd0 : 0 ≤ d) (hn : 126 ≤ n) (hp0 : isIa p0) (hp2 : isIa p2) {mE : Mm} (hF : Fin' X G ρ n none none (RT t u w v x) mE) {x1 : Int32} {x3 : Int32} {m : Mm} (h : f_X11_copies p0 p2 x1 x3 m = some mE) : J X G ρ n 5 0 [(0, .ref p0), (1, .int x1), (2, .ref p2), (3, .int x3)] [] (RT t u w v x) m := by
  unfold f_X11_copies at h
  refine J_iconst hX (0 : Int32) dX11_copies_0 ic_0 ?_
  refine J_istore hX [(4, .int (0 : Int32)), (0, .ref p0), (1, .int x1), (2, .ref p2), (3, .int x3)] dX11_copies_1 (by decide) rfl ?_
  refine J_sub [(0, .ref p0), (1, .int x1), (2, .ref p2), (3, .int x3), (4, .int (0 : Int32))] [1, 2, 3, 4, 0] rfl ?_
  exact t_X11_copies_L3 hX hd0 hn hp0 hp2 hF FU x1 x3 (0 : Int32)  m h
theorem c_X11_copies {G : GG} {l : Launch} {ρ : Nat → Nat} {n t u w v : Nat} {x : Option Nat} (hn : 126 ≤ n) {p0 : Nat} {p2 : Nat} (hp0 : isIa p0) (hp2 : isIa p2) {x1 : Int32} {x3 : Int32} {m : Mm} {mE : Mm} (h : f_X11_copies p0 p2 x1 x3 m = some mE) : CT G l yX11_copies cX11_copies 5 none 0 0 0 ρ n (RT t u w v x) [.ref p0, .int x1, .ref p2, .int x3] m none (RT t u w v x) mE := ct_of_J (by decide) rfl (Nat.le_of_ble_eq_true rfl) (fun X hX e1 e2 e3 e4 hQ hr hl => t_X11_copies hX (Nat.le_refl _) hn hp0 hp2 ⟨by rw [hQ, e3, e4], hr, hl⟩ h)
theorem t_X11_isDone {X : XX} {G : GG} {ρ : Nat → Nat} {n t u w v : Nat} {x : Option Nat} {d : Nat} (hX : Ok X G ρ cX11_isDone 4 RX11 d) (hd0 : 3 ≤ d) (hn : 126 ≤ n) {rE : Int32} {mE : Mm} (hF : Fin' X G ρ n (some .boolean) (some (.int rE)) (RT t u w v x) mE) {x1 : Int32} {x2 : Int32} {x3 : Int32} {m : Mm} (h : f_X11_isDone x1 x2 x3 m = some (rE, mE)) : J X G ρ n 4 0 [(0, .ref 78), (1, .int x1), (2, .int x2), (3, .int x3)] [] (RT t u w v x) m := by
  unfold f_X11_isDone at h
  refine J_iload_n hX dX11_isDone_0 rfl 1 rfl ?_
  refine J_if_ne hX 23 dX11_isDone_1 (by decide) h (fun c h => ?_) (fun c h => ?_)
  · refine J_aload_n hX dX11_isDone_4 rfl 0 rfl ?_
    refine J_iload_n hX dX11_isDone_5 rfl 2 rfl ?_
    obtain ⟨r17, m16, h0, h⟩ := bd2_some h
    refine J_callVi (As := [.int x2]) (st := []) hX dX11_isDone_6 cw_RX11_397 (by omega) (c_X11_canRead hn  h0) (ltn ltc_78 hn) lo_78 (by decide) rfl rfl rfl (Nat.le_of_ble_eq_true rfl) ?_
    clear h0
    refine J_if_ne hX 14 dX11_isDone_9 (by decide) h (fun c h => ?_) (fun c h => ?_)
    · refine J_iconst hX (0 : Int32) dX11_isDone_12 ic_0 ?_
      exact J_ireturn hX dX11_isDone_13 h hF narrow_b0
    · refine J_aload_n hX dX11_isDone_14 rfl 0 rfl ?_
      refine J_iload_n hX dX11_isDone_15 rfl 2 rfl ?_
      obtain ⟨r19, m18, h0, h⟩ := bd2_some h
      refine J_callVi (As := [.int x2]) (st := []) hX dX11_isDone_16 cw_RX11_400 (by omega) (c_X11_readsDatum hn  h0) (ltn ltc_78 hn) lo_78 (by decide) rfl rfl rfl (Nat.le_of_ble_eq_true rfl) ?_
      clear h0
      refine J_pop hX dX11_isDone_19 rfl ?_
      refine J_goto hX 122 dX11_isDone_20 (by decide) ?_
      refine J_iconst hX (1 : Int32) dX11_isDone_122 ic_1 ?_
      exact J_ireturn hX dX11_isDone_123 h hF narrow_b1
  · refine J_iload_n hX dX11_isDone_23 rfl 1 rfl ?_
    refine J_iconst hX (1 : Int32) dX11_isDone_24 ic_1 ?_
    refine J_icmp_ne hX 48 dX11_isDone_25 (by decide) h (fun c h => ?_) (fun c h => ?_)
    · refine J_aload_n hX dX11_isDone_28 rfl 0 rfl ?_
      refine J_iload_n hX dX11_isDone_29 rfl 2 rfl ?_
      obtain ⟨r13, m12, h0, h⟩ := bd2_some h
      refine J_callVi (As := [.int x2]) (st := []) hX dX11_isDone_30 cw_RX11_403 (by omega) (c_X11_canWrite hn  h0) (ltn ltc_78 hn) lo_78 (by decide) rfl rfl rfl (Nat.le_of_ble_eq_true rfl) ?_
      clear h0
      refine J_if_ne hX 38 dX11_isDone_33 (by decide) h (fun c h => ?_) (fun c h => ?_)
      · refine J_iconst hX (0 : Int32) dX11_isDone_36 ic_0 ?_
        exact J_ireturn hX dX11_isDone_37 h hF narrow_b0
      · refine J_aload_n hX dX11_isDone_38 rfl 0 rfl ?_
        refine J_iload_n hX dX11_isDone_39 rfl 2 rfl ?_
        refine J_iload_n hX dX11_isDone_40 rfl 3 rfl ?_
        obtain ⟨r15, m14, h0, h⟩ := bd2_some h
        refine J_callVi (As := [.int x2, .int x3]) (st := []) hX dX11_isDone_41 cw_RX11_406 (by omega) (c_X11_writesDatum hn  h0) (ltn ltc_78 hn) lo_78 (by decide) rfl rfl rfl (Nat.le_of_ble_eq_true rfl) ?_
        clear h0
        refine J_pop hX dX11_isDone_44 rfl ?_
        refine J_goto hX 122 dX11_isDone_45 (by decide) ?_
        refine J_iconst hX (1 : Int32) dX11_isDone_122 ic_1 ?_
        exact J_ireturn hX dX11_isDone_123 h hF narrow_b1
    · refine J_iload_n hX dX11_isDone_48 rfl 1 rfl ?_
      refine J_iconst hX (2 : Int32) dX11_isDone_49 ic_2 ?_
      refine J_icmp_ne hX 72 dX11_isDone_50 (by decide) h (fun c h => ?_) (fun c h => ?_)
      · refine J_aload_n hX dX11_isDone_53 rfl 0 rfl ?_
        refine J_iload_n hX dX11_isDone_54 rfl 2 rfl ?_
        obtain ⟨r9, m8, h0, h⟩ := bd2_some h
        refine J_callVi (As := [.int x2]) (st := []) hX dX11_isDone_55 cw_RX11_373 (by omega) (c_X11_isUp hn  h0) (ltn ltc_78 hn) lo_78 (by decide) rfl rfl rfl (Nat.le_of_ble_eq_true rfl) ?_
        clear h0
        refine J_if_ne hX 63 dX11_isDone_58 (by decide) h (fun c h => ?_) (fun c h => ?_)
        · refine J_iconst hX (0 : Int32) dX11_isDone_61 ic_0 ?_
          exact J_ireturn hX dX11_isDone_62 h hF narrow_b0
        · refine J_aload_n hX dX11_isDone_63 rfl 0 rfl ?_
          refine J_iload_n hX dX11_isDone_64 rfl 2 rfl ?_
          obtain ⟨r11, m10, h0, h⟩ := bd2_some h
          refine J_callVi (As := [.int x2]) (st := []) hX dX11_isDone_65 cw_RX11_409 (by omega) (c_X11_losesDisk hn  h0) (ltn ltc_78 hn) lo_78 (by decide) rfl rfl rfl (Nat.le_of_ble_eq_true rfl) ?_
          clear h0
          refine J_pop hX dX11_isDone_68 rfl ?_
          refine J_goto hX 122 dX11_isDone_69 (by decide) ?_
          refine J_iconst hX (1 : Int32) dX11_isDone_122 ic_1 ?_
          exact J_ireturn hX dX11_isDone_123 h hF narrow_b1
      · refine J_iload_n hX dX11_isDone_72 rfl 1 rfl ?_
        refine J_iconst hX (3 : Int32) dX11_isDone_73 ic_3 ?_
        refine J_icmp_ne hX 102 dX11_isDone_74 (by decide) h (fun c h => ?_) (fun c h => ?_)
        · refine J_aload_n hX dX11_isDone_77 rfl 0 rfl ?_
          refine J_iload_n hX dX11_isDone_78 rfl 2 rfl ?_
          obtain ⟨r6, m5, h0, h⟩ := bd2_some h
          refine J_callVi (As := [.int x2]) (st := []) hX dX11_isDone_79 cw_RX11_373 (by omega) (c_X11_isUp hn  h0) (ltn ltc_78 hn) lo_78 (by decide) rfl rfl rfl (Nat.le_of_ble_eq_true rfl) ?_
          clear h0
          refine J_if_eq hX 87 dX11_isDone_82 (by decide) h (fun c h => ?_) (fun c h => ?_)
          · refine J_aload_n hX dX11_isDone_87 rfl 0 rfl ?_
            refine J_getR hX dX11_isDone_88 fl_RX11_125 (ltn ltc_78 hn) lo_78 rfl (rt_78_50 _ _ _ _ _) ?_
            refine J_iconst hX (0 : Int32) dX11_isDone_91 ic_0 ?_
            refine J_dup2 hX dX11_isDone_92 rfl rfl ?_
            refine J_iaload0 hX dX11_isDone_93 (ltn ltc_117 hn) lay_117 (by decide) ?_
            refine J_iconst hX (1 : Int32) dX11_isDone_94 ic_1 ?_
            refine J_iload_n hX dX11_isDone_95 rfl 2 rfl ?_
            refine J_ishl hX dX11_isDone_96 ?_
            refine J_ior hX dX11_isDone_97 ?_
            refine J_iastore0 hX dX11_isDone_98 (ltn ltc_117 hn) lay_117 (by decide) h (fun m7 h => ?_)
            refine J_goto hX 122 dX11_isDone_99 (by decide) ?_
            refine J_iconst hX (1 : Int32) dX11_isDone_122 ic_1 ?_
            exact J_ireturn hX dX11_isDone_123 h hF narrow_b1
          · refine J_iconst hX (0 : Int32) dX11_isDone_85 ic_0 ?_
            exact J_ireturn hX dX11_isDone_86 h hF narrow_b0
        · refine J_iload_n hX dX11_isDone_102 rfl 1 rfl ?_
          refine J_iconst hX (4 : Int32) dX11_isDone_103 ic_4 ?_
          refine J_icmp_ne hX 116 dX11_isDone_104 (by decide) h (fun c h => ?_) (fun c h => ?_)
          · refine J_aload_n hX dX11_isDone_107 rfl 0 rfl ?_
            refine J_iload_n hX dX11_isDone_108 rfl 2 rfl ?_
            obtain ⟨r4, m3, h0, h⟩ := bd2_some h
            refine J_callVi (As := [.int x2]) (st := []) hX dX11_isDone_109 cw_RX11_412 (by omega) (c_X11_rebuilds hn  h0) (ltn ltc_78 hn) lo_78 (by decide) rfl rfl rfl (Nat.le_of_ble_eq_true rfl) ?_
            clear h0
            refine J_pop hX dX11_isDone_112 rfl ?_
            refine J_goto hX 122 dX11_isDone_113 (by decide) ?_
            refine J_iconst hX (1 : Int32) dX11_isDone_122 ic_1 ?_
            exact J_ireturn hX dX11_isDone_123 h hF narrow_b1
          · refine J_aload_n hX dX11_isDone_116 rfl 0 rfl ?_
            refine J_iload_n hX dX11_isDone_117 rfl 2 rfl ?_
            obtain ⟨r2, m1, h0, h⟩ := bd2_some h
            refine J_callVi (As := [.int x2]) (st := []) hX dX11_isDone_118 cw_RX11_415 (by omega) (c_X11_goesHome hn  h0) (ltn ltc_78 hn) lo_78 (by decide) rfl rfl rfl (Nat.le_of_ble_eq_true rfl) ?_
            clear h0
            refine J_pop hX dX11_isDone_121 rfl ?_
            refine J_iconst hX (1 : Int32) dX11_isDone_122 ic_1 ?_
            exact J_ireturn hX dX11_isDone_123 h hF narrow_b1
theorem c_X11_isDone {G : GG} {l : Launch} {ρ : Nat → Nat} {n t u w v : Nat} {x : Option Nat} (hn : 126 ≤ n) {x1 : Int32} {x2 : Int32} {x3 : Int32} {m : Mm} {rE : Int32} {mE : Mm} (h : f_X11_isDone x1 x2 x3 m = some (rE, mE)) : CT G l yX11_isDone cX11_isDone 4 (some .boolean) 3 0 0 ρ n (RT t u w v x) [.ref 78, .int x1, .int x2, .int x3] m (some (.int rE)) (RT t u w v x) mE := ct_of_J (by decide) rfl (Nat.le_of_ble_eq_true rfl) (fun X hX e1 e2 e3 e4 hQ hr hl => t_X11_isDone hX (Nat.le_refl _) hn ⟨by rw [hQ, e3, e4], hr, hl⟩ h)
theorem t_X11_allLoads_L4 {X : XX} {G : GG} {ρ : Nat → Nat} {n t u w v : Nat} {x : Option Nat} {d : Nat} (hX : Ok X G ρ cX11_allLoads 3 RX11 d) (hd0 : 0 ≤ d) (hn : 126 ≤ n) {rE : Int32} {mE : Mm} (hF : Fin' X G ρ n (some .int) (some (.int rE)) (RT t u w v x) mE) : ∀ (k : Nat) (v1 : Int32) (v2 : Int32) (m : Mm), f_X11_allLoads_L4 k v1 v2 m = some (rE, mE) → J X G ρ n 3 4 [(0, .ref 78), (1, .int v1), (2, .int v2)] [] (RT t u w v x) m := by
  intro k
  induction k with
  | zero => intro _ _ _ h; rw [f_X11_allLoads_L4] at h; cases h
  | succ k ih =>
    intro v1 v2 m h
    rw [f_X11_allLoads_L4] at h
    refine J_iload_n hX dX11_allLoads_4 rfl 2 rfl ?_
    refine J_bipush hX (13 : Int32) dX11_allLoads_5 (by decide) ?_
    refine J_icmp_ge hX 27 dX11_allLoads_7 (by decide) h (fun c h => ?_) (fun c h => ?_)
    · refine J_iload_n hX dX11_allLoads_10 rfl 1 rfl ?_
      refine J_aload_n hX dX11_allLoads_11 rfl 0 rfl ?_
      refine J_getR hX dX11_allLoads_12 fl_RX11_125 (ltn ltc_78 hn) lo_78 rfl (rt_78_50 _ _ _ _ _) ?_
      refine J_iconst hX (1 : Int32) dX11_allLoads_15 ic_1 ?_
      refine J_iload_n hX dX11_allLoads_16 rfl 2 rfl ?_
      refine J_iadd hX dX11_allLoads_17 ?_
      refine J_iaload hX dX11_allLoads_18 (ltn ltc_117 hn) lay_117 h (fun h => ?_)
      refine J_iadd hX dX11_allLoads_19 ?_
      refine J_istore_n hX [(1, .int (v1 + (gI m 117 (ix ((1 : Int32) + v2))))), (0, .ref 78), (2, .int v2)] dX11_allLoads_20 rfl (by decide) rfl ?_
      refine J_iinc hX (v2 + (1 : Int32)) [(2, .int (v2 + (1 : Int32))), (1, .int (v1 + (gI m 117 (ix ((1 : Int32) + v2))))), (0, .ref 78)] dX11_allLoads_21 2 rfl (congrArg (fun z => v2 + z) ic_1) (by decide) rfl ?_
      refine J_goto hX 4 dX11_allLoads_24 (by decide) ?_
      refine J_sub [(0, .ref 78), (1, .int (v1 + (gI m 117 (ix ((1 : Int32) + v2))))), (2, .int (v2 + (1 : Int32)))] [2, 1, 0] rfl ?_
      exact ih (v1 + (gI m 117 (ix ((1 : Int32) + v2)))) (v2 + (1 : Int32)) m h
    · refine J_iload_n hX dX11_allLoads_27 rfl 1 rfl ?_
      exact J_ireturn hX dX11_allLoads_28 h hF rfl
theorem t_X11_allLoads {X : XX} {G : GG} {ρ : Nat → Nat} {n t u w v : Nat} {x : Option Nat} {d : Nat} (hX : Ok X G ρ cX11_allLoads 3 RX11 d) (hd0 : 0 ≤ d) (hn : 126 ≤ n) {rE : Int32} {mE : Mm} (hF : Fin' X G ρ n (some .int) (some (.int rE)) (RT t u w v x) mE) {m : Mm} (h : f_X11_allLoads m = some (rE, mE)) : J X G ρ n 3 0 [(0, .ref 78)] [] (RT t u w v x) m := by
  unfold f_X11_allLoads at h
  refine J_iconst hX (0 : Int32) dX11_allLoads_0 ic_0 ?_
  refine J_istore_n hX [(1, .int (0 : Int32)), (0, .ref 78)] dX11_allLoads_1 rfl (by decide) rfl ?_
  refine J_iconst hX (0 : Int32) dX11_allLoads_2 ic_0 ?_
  refine J_istore_n hX [(2, .int (0 : Int32)), (1, .int (0 : Int32)), (0, .ref 78)] dX11_allLoads_3 rfl (by decide) rfl ?_
  refine J_sub [(0, .ref 78), (1, .int (0 : Int32)), (2, .int (0 : Int32))] [2, 1, 0] rfl ?_
  exact t_X11_allLoads_L4 hX hd0 hn hF FU (0 : Int32) (0 : Int32)  m h
theorem c_X11_allLoads {G : GG} {l : Launch} {ρ : Nat → Nat} {n t u w v : Nat} {x : Option Nat} (hn : 126 ≤ n) {m : Mm} {rE : Int32} {mE : Mm} (h : f_X11_allLoads m = some (rE, mE)) : CT G l yX11_allLoads cX11_allLoads 3 (some .int) 0 0 0 ρ n (RT t u w v x) [.ref 78] m (some (.int rE)) (RT t u w v x) mE := ct_of_J (by decide) rfl (Nat.le_of_ble_eq_true rfl) (fun X hX e1 e2 e3 e4 hQ hr hl => t_X11_allLoads hX (Nat.le_refl _) hn ⟨by rw [hQ, e3, e4], hr, hl⟩ h)
theorem t_X11_deadOnes_L4 {X : XX} {G : GG} {ρ : Nat → Nat} {n t u w v : Nat} {x : Option Nat} {d : Nat} (hX : Ok X G ρ cX11_deadOnes 3 RX11 d) (hd0 : 2 ≤ d) (hn : 126 ≤ n) {rE : Int32} {mE : Mm} (hF : Fin' X G ρ n (some .int) (some (.int rE)) (RT t u w v x) mE) : ∀ (k : Nat) (v1 : Int32) (v2 : Int32) (m : Mm), f_X11_deadOnes_L4 k v1 v2 m = some (rE, mE) → J X G ρ n 3 4 [(0, .ref 78), (1, .int v1), (2, .int v2)] [] (RT t u w v x) m := by
  intro k
  induction k with
  | zero => intro _ _ _ h; rw [f_X11_deadOnes_L4] at h; cases h
  | succ k ih =>
    intro v1 v2 m h
    rw [f_X11_deadOnes_L4] at h
    refine J_iload_n hX dX11_deadOnes_4 rfl 2 rfl ?_
    refine J_aload_n hX dX11_deadOnes_5 rfl 0 rfl ?_
    refine J_getR hX dX11_deadOnes_6 fl_RX11_71 (ltn ltc_78 hn) lo_78 rfl (rt_78_32 _ _ _ _ _) ?_
    refine J_iconst hX (0 : Int32) dX11_deadOnes_9 ic_0 ?_
    refine J_iaload0 hX dX11_deadOnes_10 (ltn ltc_99 hn) lay_99 (by decide) ?_
    refine J_icmp_ge hX 36 dX11_deadOnes_11 (by decide) h (fun c h => ?_) (fun c h => ?_)
    · refine J_iload_n hX dX11_deadOnes_14 rfl 1 rfl ?_
      refine J_aload_n hX dX11_deadOnes_15 rfl 0 rfl ?_
      refine J_iload_n hX dX11_deadOnes_16 rfl 2 rfl ?_
      obtain ⟨r2, m1, h0, h⟩ := bd2_some h
      refine J_callVi (As := [.int v2]) (st := [.int v1]) hX dX11_deadOnes_17 cw_RX11_361 (by omega) (c_X11_isDead hn  h0) (ltn ltc_78 hn) lo_78 (by decide) rfl rfl rfl (Nat.le_of_ble_eq_true rfl) ?_
      clear h0
      refine J_if_eq hX 27 dX11_deadOnes_20 (by decide) h (fun c h => ?_) (fun c h => ?_)
      · refine J_iconst hX (0 : Int32) dX11_deadOnes_27 ic_0 ?_
        refine J_iadd hX dX11_deadOnes_28 ?_
        refine J_istore_n hX [(1, .int (v1 + (0 : Int32))), (0, .ref 78), (2, .int v2)] dX11_deadOnes_29 rfl (by decide) rfl ?_
        refine J_iinc hX (v2 + (1 : Int32)) [(2, .int (v2 + (1 : Int32))), (1, .int (v1 + (0 : Int32))), (0, .ref 78)] dX11_deadOnes_30 2 rfl (congrArg (fun z => v2 + z) ic_1) (by decide) rfl ?_
        refine J_goto hX 4 dX11_deadOnes_33 (by decide) ?_
        refine J_sub [(0, .ref 78), (1, .int (v1 + (0 : Int32))), (2, .int (v2 + (1 : Int32)))] [2, 1, 0] rfl ?_
        exact ih (v1 + (0 : Int32)) (v2 + (1 : Int32)) m1 h
      · refine J_iconst hX (1 : Int32) dX11_deadOnes_23 ic_1 ?_
        refine J_goto hX 28 dX11_deadOnes_24 (by decide) ?_
        refine J_iadd hX dX11_deadOnes_28 ?_
        refine J_istore_n hX [(1, .int (v1 + (1 : Int32))), (0, .ref 78), (2, .int v2)] dX11_deadOnes_29 rfl (by decide) rfl ?_
        refine J_iinc hX (v2 + (1 : Int32)) [(2, .int (v2 + (1 : Int32))), (1, .int (v1 + (1 : Int32))), (0, .ref 78)] dX11_deadOnes_30 2 rfl (congrArg (fun z => v2 + z) ic_1) (by decide) rfl ?_
        refine J_goto hX 4 dX11_deadOnes_33 (by decide) ?_
        refine J_sub [(0, .ref 78), (1, .int (v1 + (1 : Int32))), (2, .int (v2 + (1 : Int32)))] [2, 1, 0] rfl ?_
        exact ih (v1 + (1 : Int32)) (v2 + (1 : Int32)) m1 h
    · refine J_iload_n hX dX11_deadOnes_36 rfl 1 rfl ?_
      exact J_ireturn hX dX11_deadOnes_37 h hF rfl
theorem t_X11_deadOnes {X : XX} {G : GG} {ρ : Nat → Nat} {n t u w v : Nat} {x : Option Nat} {d : Nat} (hX : Ok X G ρ cX11_deadOnes 3 RX11 d) (hd0 : 2 ≤ d) (hn : 126 ≤ n) {rE : Int32} {mE : Mm} (hF : Fin' X G ρ n (some .int) (some (.int rE)) (RT t u w v x) mE) {m : Mm} (h : f_X11_deadOnes m = some (rE, mE)) : J X G ρ n 3 0 [(0, .ref 78)] [] (RT t u w v x) m := by
  unfold f_X11_deadOnes at h
  refine J_iconst hX (0 : Int32) dX11_deadOnes_0 ic_0 ?_
  refine J_istore_n hX [(1, .int (0 : Int32)), (0, .ref 78)] dX11_deadOnes_1 rfl (by decide) rfl ?_
  refine J_iconst hX (0 : Int32) dX11_deadOnes_2 ic_0 ?_
  refine J_istore_n hX [(2, .int (0 : Int32)), (1, .int (0 : Int32)), (0, .ref 78)] dX11_deadOnes_3 rfl (by decide) rfl ?_
  refine J_sub [(0, .ref 78), (1, .int (0 : Int32)), (2, .int (0 : Int32))] [2, 1, 0] rfl ?_
  exact t_X11_deadOnes_L4 hX hd0 hn hF FU (0 : Int32) (0 : Int32)  m h
theorem c_X11_deadOnes {G : GG} {l : Launch} {ρ : Nat → Nat} {n t u w v : Nat} {x : Option Nat} (hn : 126 ≤ n) {m : Mm} {rE : Int32} {mE : Mm} (h : f_X11_deadOnes m = some (rE, mE)) : CT G l yX11_deadOnes cX11_deadOnes 3 (some .int) 2 0 0 ρ n (RT t u w v x) [.ref 78] m (some (.int rE)) (RT t u w v x) mE := ct_of_J (by decide) rfl (Nat.le_of_ble_eq_true rfl) (fun X hX e1 e2 e3 e4 hQ hr hl => t_X11_deadOnes hX (Nat.le_refl _) hn ⟨by rw [hQ, e3, e4], hr, hl⟩ h)
theorem t_X11_costOf {X : XX} {G : GG} {ρ : Nat → Nat} {n t u w v : Nat} {x : Option Nat} {d : Nat} (hX : Ok X G ρ cX11_costOf 2 RX11 d) (hd0 : 0 ≤ d) (hn : 126 ≤ n) {rE : Int32} {mE : Mm} (hF : Fin' X G ρ n (some .int) (some (.int rE)) (RT t u w v x) mE) {x1 : Int32} {m : Mm} (h : f_X11_costOf x1 m = some (rE, mE)) : J X G ρ n 2 0 [(0, .ref 78), (1, .int x1)] [] (RT t u w v x) m := by
  unfold f_X11_costOf at h
  refine J_aload_n hX dX11_costOf_0 rfl 0 rfl ?_
  refine J_getR hX dX11_costOf_1 fl_RX11_125 (ltn ltc_78 hn) lo_78 rfl (rt_78_50 _ _ _ _ _) ?_
  refine J_bipush hX (14 : Int32) dX11_costOf_4 (by decide) ?_
  refine J_aload_n hX dX11_costOf_6 rfl 0 rfl ?_
  refine J_getR hX dX11_costOf_7 fl_RX11_95 (ltn ltc_78 hn) lo_78 rfl (rt_78_40 _ _ _ _ _) ?_
  refine J_iload_n hX dX11_costOf_10 rfl 1 rfl ?_
  refine J_iaload hX dX11_costOf_11 (ltn ltc_107 hn) lay_107 h (fun h => ?_)
  refine J_iadd hX dX11_costOf_12 ?_
  refine J_iaload hX dX11_costOf_13 (ltn ltc_117 hn) lay_117 h (fun h => ?_)
  refine J_iconst hX (2 : Int32) dX11_costOf_14 ic_2 ?_
  refine J_icmp_eq hX 22 dX11_costOf_15 (by decide) h (fun c h => ?_) (fun c h => ?_)
  · refine J_aload_n hX dX11_costOf_22 rfl 0 rfl ?_
    refine J_getR hX dX11_costOf_23 fl_RX11_74 (ltn ltc_78 hn) lo_78 rfl (rt_78_33 _ _ _ _ _) ?_
    refine J_aload_n hX dX11_costOf_26 rfl 0 rfl ?_
    refine J_getR hX dX11_costOf_27 fl_RX11_95 (ltn ltc_78 hn) lo_78 rfl (rt_78_40 _ _ _ _ _) ?_
    refine J_iload_n hX dX11_costOf_30 rfl 1 rfl ?_
    refine J_iaload hX dX11_costOf_31 (ltn ltc_107 hn) lay_107 h (fun h => ?_)
    refine J_iconst hX (5 : Int32) dX11_costOf_32 ic_5 ?_
    refine J_idiv0 hX dX11_costOf_33 (by decide) ?_
    refine J_iaload hX dX11_costOf_34 (ltn ltc_100 hn) lay_100 h (fun h => ?_)
    refine J_iconst hX (1 : Int32) dX11_costOf_35 ic_1 ?_
    refine J_isub hX dX11_costOf_36 ?_
    exact J_ireturn hX dX11_costOf_37 h hF rfl
  · refine J_iconst hX (1 : Int32) dX11_costOf_18 ic_1 ?_
    refine J_goto hX 37 dX11_costOf_19 (by decide) ?_
    exact J_ireturn hX dX11_costOf_37 h hF rfl
theorem c_X11_costOf {G : GG} {l : Launch} {ρ : Nat → Nat} {n t u w v : Nat} {x : Option Nat} (hn : 126 ≤ n) {x1 : Int32} {m : Mm} {rE : Int32} {mE : Mm} (h : f_X11_costOf x1 m = some (rE, mE)) : CT G l yX11_costOf cX11_costOf 2 (some .int) 0 0 0 ρ n (RT t u w v x) [.ref 78, .int x1] m (some (.int rE)) (RT t u w v x) mE := ct_of_J (by decide) rfl (Nat.le_of_ble_eq_true rfl) (fun X hX e1 e2 e3 e4 hQ hr hl => t_X11_costOf hX (Nat.le_refl _) hn ⟨by rw [hQ, e3, e4], hr, hl⟩ h)
theorem t_X11_unitNow_L2 {X : XX} {G : GG} {ρ : Nat → Nat} {n t u w v : Nat} {x : Option Nat} {d : Nat} (hX : Ok X G ρ cX11_unitNow 4 RX11 d) (hd0 : 1 ≤ d) (hn : 126 ≤ n) {rE : Int32} {mE : Mm} (hF : Fin' X G ρ n (some .int) (some (.int rE)) (RT t u w v x) mE) : ∀ (k : Nat) (v1 : Int32) (v2 : Int32) (v3 : Int32) (m : Mm), f_X11_unitNow_L2 k v1 v2 v3 m = some (rE, mE) → J X G ρ n 4 2 [(0, .ref 78), (1, .int v1), (2, .int v2), (3, .int v3)] [] (RT t u w v x) m := by
  intro k
  induction k with
  | zero => intro _ _ _ _ h; rw [f_X11_unitNow_L2] at h; cases h
  | succ k ih =>
    intro v1 v2 v3 m h
    rw [f_X11_unitNow_L2] at h
    refine J_iload_n hX dX11_unitNow_2 rfl 3 rfl ?_
    refine J_aload_n hX dX11_unitNow_3 rfl 0 rfl ?_
    refine J_getR hX dX11_unitNow_4 fl_RX11_74 (ltn ltc_78 hn) lo_78 rfl (rt_78_33 _ _ _ _ _) ?_
    refine J_iload_n hX dX11_unitNow_7 rfl 1 rfl ?_
    refine J_iaload hX dX11_unitNow_8 (ltn ltc_100 hn) lay_100 h (fun h => ?_)
    refine J_icmp_ge hX 33 dX11_unitNow_9 (by decide) h (fun c h => ?_) (fun c h => ?_)
    · refine J_aload_n hX dX11_unitNow_12 rfl 0 rfl ?_
      refine J_iconst hX (5 : Int32) dX11_unitNow_13 ic_5 ?_
      refine J_iload_n hX dX11_unitNow_14 rfl 1 rfl ?_
      refine J_imul hX dX11_unitNow_15 ?_
      refine J_iload_n hX dX11_unitNow_16 rfl 3 rfl ?_
      refine J_iadd hX dX11_unitNow_17 ?_
      obtain ⟨r2, m1, h0, h⟩ := bd2_some h
      refine J_callVi (As := [.int (((5 : Int32) * v1) + v3)]) (st := []) hX dX11_unitNow_18 cw_RX11_358 (by omega) (c_X11_diskNow hn  h0) (ltn ltc_78 hn) lo_78 (by decide) rfl rfl rfl (Nat.le_of_ble_eq_true rfl) ?_
      clear h0
      refine J_iload_n hX dX11_unitNow_21 rfl 2 rfl ?_
      refine J_icmp_ne hX 27 dX11_unitNow_22 (by decide) h (fun c h => ?_) (fun c h => ?_)
      · refine J_iload_n hX dX11_unitNow_25 rfl 3 rfl ?_
        exact J_ireturn hX dX11_unitNow_26 h hF rfl
      · refine J_iinc hX (v3 + (1 : Int32)) [(3, .int (v3 + (1 : Int32))), (0, .ref 78), (1, .int v1), (2, .int v2)] dX11_unitNow_27 3 rfl (congrArg (fun z => v3 + z) ic_1) (by decide) rfl ?_
        refine J_goto hX 2 dX11_unitNow_30 (by decide) ?_
        refine J_sub [(0, .ref 78), (1, .int v1), (2, .int v2), (3, .int (v3 + (1 : Int32)))] [1, 2, 3, 0] rfl ?_
        exact ih v1 v2 (v3 + (1 : Int32)) m1 h
    · refine J_iconst hX (-1 : Int32) dX11_unitNow_33 ic_m1 ?_
      exact J_ireturn hX dX11_unitNow_34 h hF rfl
theorem t_X11_unitNow {X : XX} {G : GG} {ρ : Nat → Nat} {n t u w v : Nat} {x : Option Nat} {d : Nat} (hX : Ok X G ρ cX11_unitNow 4 RX11 d) (hd0 : 1 ≤ d) (hn : 126 ≤ n) {rE : Int32} {mE : Mm} (hF : Fin' X G ρ n (some .int) (some (.int rE)) (RT t u w v x) mE) {x1 : Int32} {x2 : Int32} {m : Mm} (h : f_X11_unitNow x1 x2 m = some (rE, mE)) : J X G ρ n 4 0 [(0, .ref 78), (1, .int x1), (2, .int x2)] [] (RT t u w v x) m := by
  unfold f_X11_unitNow at h
  refine J_iconst hX (0 : Int32) dX11_unitNow_0 ic_0 ?_
  refine J_istore_n hX [(3, .int (0 : Int32)), (0, .ref 78), (1, .int x1), (2, .int x2)] dX11_unitNow_1 rfl (by decide) rfl ?_
  refine J_sub [(0, .ref 78), (1, .int x1), (2, .int x2), (3, .int (0 : Int32))] [1, 2, 3, 0] rfl ?_
  exact t_X11_unitNow_L2 hX hd0 hn hF FU x1 x2 (0 : Int32)  m h
theorem c_X11_unitNow {G : GG} {l : Launch} {ρ : Nat → Nat} {n t u w v : Nat} {x : Option Nat} (hn : 126 ≤ n) {x1 : Int32} {x2 : Int32} {m : Mm} {rE : Int32} {mE : Mm} (h : f_X11_unitNow x1 x2 m = some (rE, mE)) : CT G l yX11_unitNow cX11_unitNow 4 (some .int) 1 0 0 ρ n (RT t u w v x) [.ref 78, .int x1, .int x2] m (some (.int rE)) (RT t u w v x) mE := ct_of_J (by decide) rfl (Nat.le_of_ble_eq_true rfl) (fun X hX e1 e2 e3 e4 hQ hr hl => t_X11_unitNow hX (Nat.le_refl _) hn ⟨by rw [hQ, e3, e4], hr, hl⟩ h)
theorem t_X11_fitsIn_L85 {X : XX} {G : GG} {ρ : Nat → Nat} {n t u w v : Nat} {x : Option Nat} {d : Nat} (hX : Ok X G ρ cX11_fitsIn 4 RX11 d) (hd0 : 0 ≤ d) (hn : 126 ≤ n) {rE : Int32} {mE : Mm} (hF : Fin' X G ρ n (some .boolean) (some (.int rE)) (RT t u w v x) mE) : ∀ (k : Nat) (v1 : Int32) (v2 : Int32) (v3 : Int32) (m : Mm), f_X11_fitsIn_L85 k v1 v2 v3 m = some (rE, mE) → J X G ρ n 4 85 [(0, .ref 78), (1, .int v1), (2, .int v2), (3, .int v3)] [] (RT t u w v x) m := by
  intro k
  induction k with
  | zero => intro _ _ _ _ h; rw [f_X11_fitsIn_L85] at h; cases h
  | succ k ih =>
    intro v1 v2 v3 m h
    rw [f_X11_fitsIn_L85] at h
    refine J_iload_n hX dX11_fitsIn_85 rfl 3 rfl ?_
    refine J_aload_n hX dX11_fitsIn_86 rfl 0 rfl ?_
    refine J_getR hX dX11_fitsIn_87 fl_RX11_74 (ltn ltc_78 hn) lo_78 rfl (rt_78_33 _ _ _ _ _) ?_
    refine J_iload_n hX dX11_fitsIn_90 rfl 1 rfl ?_
    refine J_iaload hX dX11_fitsIn_91 (ltn ltc_100 hn) lay_100 h (fun h => ?_)
    refine J_icmp_ge hX 134 dX11_fitsIn_92 (by decide) h (fun c h => ?_) (fun c h => ?_)
    · refine J_aload_n hX dX11_fitsIn_95 rfl 0 rfl ?_
      refine J_getR hX dX11_fitsIn_96 fl_RX11_89 (ltn ltc_78 hn) lo_78 rfl (rt_78_38 _ _ _ _ _) ?_
      refine J_iconst hX (5 : Int32) dX11_fitsIn_99 ic_5 ?_
      refine J_iload_n hX dX11_fitsIn_100 rfl 1 rfl ?_
      refine J_imul hX dX11_fitsIn_101 ?_
      refine J_iload_n hX dX11_fitsIn_102 rfl 3 rfl ?_
      refine J_iadd hX dX11_fitsIn_103 ?_
      refine J_iaload hX dX11_fitsIn_104 (ltn ltc_105 hn) lay_105 h (fun h => ?_)
      refine J_iload_n hX dX11_fitsIn_105 rfl 2 rfl ?_
      refine J_icmp_eq hX 128 dX11_fitsIn_106 (by decide) h (fun c h => ?_) (fun c h => ?_)
      · refine J_iinc hX (v3 + (1 : Int32)) [(3, .int (v3 + (1 : Int32))), (0, .ref 78), (1, .int v1), (2, .int v2)] dX11_fitsIn_128 3 rfl (congrArg (fun z => v3 + z) ic_1) (by decide) rfl ?_
        refine J_goto hX 85 dX11_fitsIn_131 (by decide) ?_
        refine J_sub [(0, .ref 78), (1, .int v1), (2, .int v2), (3, .int (v3 + (1 : Int32)))] [1, 2, 3, 0] rfl ?_
        exact ih v1 v2 (v3 + (1 : Int32)) m h
      · refine J_aload_n hX dX11_fitsIn_109 rfl 0 rfl ?_
        refine J_getR hX dX11_fitsIn_110 fl_RX11_143 (ltn ltc_78 hn) lo_78 rfl (rt_78_56 _ _ _ _ _) ?_
        refine J_aload_n hX dX11_fitsIn_113 rfl 0 rfl ?_
        refine J_getR hX dX11_fitsIn_114 fl_RX11_89 (ltn ltc_78 hn) lo_78 rfl (rt_78_38 _ _ _ _ _) ?_
        refine J_iconst hX (5 : Int32) dX11_fitsIn_117 ic_5 ?_
        refine J_iload_n hX dX11_fitsIn_118 rfl 1 rfl ?_
        refine J_imul hX dX11_fitsIn_119 ?_
        refine J_iload_n hX dX11_fitsIn_120 rfl 3 rfl ?_
        refine J_iadd hX dX11_fitsIn_121 ?_
        refine J_iaload hX dX11_fitsIn_122 (ltn ltc_105 hn) lay_105 h (fun h => ?_)
        refine J_dup2 hX dX11_fitsIn_123 rfl rfl ?_
        refine J_iaload hX dX11_fitsIn_124 (ltn ltc_123 hn) lay_123 h (fun h => ?_)
        refine J_iconst hX (1 : Int32) dX11_fitsIn_125 ic_1 ?_
        refine J_isub hX dX11_fitsIn_126 ?_
        refine J_iastore hX dX11_fitsIn_127 (ltn ltc_123 hn) lay_123 h (fun m2 h => ?_)
        refine J_iinc hX (v3 + (1 : Int32)) [(3, .int (v3 + (1 : Int32))), (0, .ref 78), (1, .int v1), (2, .int v2)] dX11_fitsIn_128 3 rfl (congrArg (fun z => v3 + z) ic_1) (by decide) rfl ?_
        refine J_goto hX 85 dX11_fitsIn_131 (by decide) ?_
        refine J_sub [(0, .ref 78), (1, .int v1), (2, .int v2), (3, .int (v3 + (1 : Int32)))] [1, 2, 3, 0] rfl ?_
        exact ih v1 v2 (v3 + (1 : Int32)) m2 h
    · refine J_iconst hX (1 : Int32) dX11_fitsIn_134 ic_1 ?_
      exact J_ireturn hX dX11_fitsIn_135 h hF narrow_b1
theorem t_X11_fitsIn_L18 {X : XX} {G : GG} {ρ : Nat → Nat} {n t u w v : Nat} {x : Option Nat} {d : Nat} (hX : Ok X G ρ cX11_fitsIn 4 RX11 d) (hd0 : 0 ≤ d) (hn : 126 ≤ n) {rE : Int32} {mE : Mm} (hF : Fin' X G ρ n (some .boolean) (some (.int rE)) (RT t u w v x) mE) : ∀ (k : Nat) (v1 : Int32) (v2 : Int32) (v3 : Int32) (m : Mm), f_X11_fitsIn_L18 k v1 v2 v3 m = some (rE, mE) → J X G ρ n 4 18 [(0, .ref 78), (1, .int v1), (2, .int v2), (3, .int v3)] [] (RT t u w v x) m := by
  intro k
  induction k with
  | zero => intro _ _ _ _ h; rw [f_X11_fitsIn_L18] at h; cases h
  | succ k ih =>
    intro v1 v2 v3 m h
    rw [f_X11_fitsIn_L18] at h
    refine J_iload_n hX dX11_fitsIn_18 rfl 3 rfl ?_
    refine J_aload_n hX dX11_fitsIn_19 rfl 0 rfl ?_
    refine J_getR hX dX11_fitsIn_20 fl_RX11_74 (ltn ltc_78 hn) lo_78 rfl (rt_78_33 _ _ _ _ _) ?_
    refine J_iload_n hX dX11_fitsIn_23 rfl 1 rfl ?_
    refine J_iaload hX dX11_fitsIn_24 (ltn ltc_100 hn) lay_100 h (fun h => ?_)
    refine J_icmp_ge hX 68 dX11_fitsIn_25 (by decide) h (fun c h => ?_) (fun c h => ?_)
    · refine J_aload_n hX dX11_fitsIn_28 rfl 0 rfl ?_
      refine J_getR hX dX11_fitsIn_29 fl_RX11_89 (ltn ltc_78 hn) lo_78 rfl (rt_78_38 _ _ _ _ _) ?_
      refine J_iconst hX (5 : Int32) dX11_fitsIn_32 ic_5 ?_
      refine J_iload_n hX dX11_fitsIn_33 rfl 1 rfl ?_
      refine J_imul hX dX11_fitsIn_34 ?_
      refine J_iload_n hX dX11_fitsIn_35 rfl 3 rfl ?_
      refine J_iadd hX dX11_fitsIn_36 ?_
      refine J_iaload hX dX11_fitsIn_37 (ltn ltc_105 hn) lay_105 h (fun h => ?_)
      refine J_iload_n hX dX11_fitsIn_38 rfl 2 rfl ?_
      refine J_icmp_eq hX 62 dX11_fitsIn_39 (by decide) h (fun c h => ?_) (fun c h => ?_)
      · refine J_iinc hX (v3 + (1 : Int32)) [(3, .int (v3 + (1 : Int32))), (0, .ref 78), (1, .int v1), (2, .int v2)] dX11_fitsIn_62 3 rfl (congrArg (fun z => v3 + z) ic_1) (by decide) rfl ?_
        refine J_goto hX 18 dX11_fitsIn_65 (by decide) ?_
        refine J_sub [(0, .ref 78), (1, .int v1), (2, .int v2), (3, .int (v3 + (1 : Int32)))] [1, 2, 3, 0] rfl ?_
        exact ih v1 v2 (v3 + (1 : Int32)) m h
      · refine J_aload_n hX dX11_fitsIn_42 rfl 0 rfl ?_
        refine J_getR hX dX11_fitsIn_43 fl_RX11_143 (ltn ltc_78 hn) lo_78 rfl (rt_78_56 _ _ _ _ _) ?_
        refine J_aload_n hX dX11_fitsIn_46 rfl 0 rfl ?_
        refine J_getR hX dX11_fitsIn_47 fl_RX11_89 (ltn ltc_78 hn) lo_78 rfl (rt_78_38 _ _ _ _ _) ?_
        refine J_iconst hX (5 : Int32) dX11_fitsIn_50 ic_5 ?_
        refine J_iload_n hX dX11_fitsIn_51 rfl 1 rfl ?_
        refine J_imul hX dX11_fitsIn_52 ?_
        refine J_iload_n hX dX11_fitsIn_53 rfl 3 rfl ?_
        refine J_iadd hX dX11_fitsIn_54 ?_
        refine J_iaload hX dX11_fitsIn_55 (ltn ltc_105 hn) lay_105 h (fun h => ?_)
        refine J_iaload hX dX11_fitsIn_56 (ltn ltc_123 hn) lay_123 h (fun h => ?_)
        refine J_if_ne hX 62 dX11_fitsIn_57 (by decide) h (fun c h => ?_) (fun c h => ?_)
        · refine J_iconst hX (0 : Int32) dX11_fitsIn_60 ic_0 ?_
          exact J_ireturn hX dX11_fitsIn_61 h hF narrow_b0
        · refine J_iinc hX (v3 + (1 : Int32)) [(3, .int (v3 + (1 : Int32))), (0, .ref 78), (1, .int v1), (2, .int v2)] dX11_fitsIn_62 3 rfl (congrArg (fun z => v3 + z) ic_1) (by decide) rfl ?_
          refine J_goto hX 18 dX11_fitsIn_65 (by decide) ?_
          refine J_sub [(0, .ref 78), (1, .int v1), (2, .int v2), (3, .int (v3 + (1 : Int32)))] [1, 2, 3, 0] rfl ?_
          exact ih v1 v2 (v3 + (1 : Int32)) m h
    · refine J_aload_n hX dX11_fitsIn_68 rfl 0 rfl ?_
      refine J_getR hX dX11_fitsIn_69 fl_RX11_143 (ltn ltc_78 hn) lo_78 rfl (rt_78_56 _ _ _ _ _) ?_
      refine J_aload_n hX dX11_fitsIn_72 rfl 0 rfl ?_
      refine J_getR hX dX11_fitsIn_73 fl_RX11_83 (ltn ltc_78 hn) lo_78 rfl (rt_78_36 _ _ _ _ _) ?_
      refine J_iload_n hX dX11_fitsIn_76 rfl 1 rfl ?_
      refine J_iaload hX dX11_fitsIn_77 (ltn ltc_103 hn) lay_103 h (fun h => ?_)
      refine J_dup2 hX dX11_fitsIn_78 rfl rfl ?_
      refine J_iaload hX dX11_fitsIn_79 (ltn ltc_123 hn) lay_123 h (fun h => ?_)
      refine J_iconst hX (1 : Int32) dX11_fitsIn_80 ic_1 ?_
      refine J_isub hX dX11_fitsIn_81 ?_
      refine J_iastore hX dX11_fitsIn_82 (ltn ltc_123 hn) lay_123 h (fun m1 h => ?_)
      refine J_iconst hX (0 : Int32) dX11_fitsIn_83 ic_0 ?_
      refine J_istore_n hX [(3, .int (0 : Int32)), (0, .ref 78), (1, .int v1), (2, .int v2)] dX11_fitsIn_84 rfl (by decide) rfl ?_
      refine J_sub [(0, .ref 78), (1, .int v1), (2, .int v2), (3, .int (0 : Int32))] [1, 2, 3, 0] rfl ?_
      exact t_X11_fitsIn_L85 hX hd0 hn hF FU v1 v2 (0 : Int32)  m1 h
theorem t_X11_fitsIn {X : XX} {G : GG} {ρ : Nat → Nat} {n t u w v : Nat} {x : Option Nat} {d : Nat} (hX : Ok X G ρ cX11_fitsIn 4 RX11 d) (hd0 : 0 ≤ d) (hn : 126 ≤ n) {rE : Int32} {mE : Mm} (hF : Fin' X G ρ n (some .boolean) (some (.int rE)) (RT t u w v x) mE) {x1 : Int32} {x2 : Int32} {m : Mm} (h : f_X11_fitsIn x1 x2 m = some (rE, mE)) : J X G ρ n 4 0 [(0, .ref 78), (1, .int x1), (2, .int x2)] [] (RT t u w v x) m := by
  unfold f_X11_fitsIn at h
  refine J_aload_n hX dX11_fitsIn_0 rfl 0 rfl ?_
  refine J_getR hX dX11_fitsIn_1 fl_RX11_143 (ltn ltc_78 hn) lo_78 rfl (rt_78_56 _ _ _ _ _) ?_
  refine J_aload_n hX dX11_fitsIn_4 rfl 0 rfl ?_
  refine J_getR hX dX11_fitsIn_5 fl_RX11_83 (ltn ltc_78 hn) lo_78 rfl (rt_78_36 _ _ _ _ _) ?_
  refine J_iload_n hX dX11_fitsIn_8 rfl 1 rfl ?_
  refine J_iaload hX dX11_fitsIn_9 (ltn ltc_103 hn) lay_103 h (fun h => ?_)
  refine J_iaload hX dX11_fitsIn_10 (ltn ltc_123 hn) lay_123 h (fun h => ?_)
  refine J_if_ne hX 16 dX11_fitsIn_11 (by decide) h (fun c h => ?_) (fun c h => ?_)
  · refine J_iconst hX (0 : Int32) dX11_fitsIn_14 ic_0 ?_
    exact J_ireturn hX dX11_fitsIn_15 h hF narrow_b0
  · refine J_iconst hX (0 : Int32) dX11_fitsIn_16 ic_0 ?_
    refine J_istore_n hX [(3, .int (0 : Int32)), (0, .ref 78), (1, .int x1), (2, .int x2)] dX11_fitsIn_17 rfl (by decide) rfl ?_
    refine J_sub [(0, .ref 78), (1, .int x1), (2, .int x2), (3, .int (0 : Int32))] [1, 2, 3, 0] rfl ?_
    exact t_X11_fitsIn_L18 hX hd0 hn hF FU x1 x2 (0 : Int32)  m h
theorem c_X11_fitsIn {G : GG} {l : Launch} {ρ : Nat → Nat} {n t u w v : Nat} {x : Option Nat} (hn : 126 ≤ n) {x1 : Int32} {x2 : Int32} {m : Mm} {rE : Int32} {mE : Mm} (h : f_X11_fitsIn x1 x2 m = some (rE, mE)) : CT G l yX11_fitsIn cX11_fitsIn 4 (some .boolean) 0 0 0 ρ n (RT t u w v x) [.ref 78, .int x1, .int x2] m (some (.int rE)) (RT t u w v x) mE := ct_of_J (by decide) rfl (Nat.le_of_ble_eq_true rfl) (fun X hX e1 e2 e3 e4 hQ hr hl => t_X11_fitsIn hX (Nat.le_refl _) hn ⟨by rw [hQ, e3, e4], hr, hl⟩ h)
theorem t_X11_deadBy_J29 {X : XX} {G : GG} {ρ : Nat → Nat} {n t u w v : Nat} {x : Option Nat} {d : Nat} (hX : Ok X G ρ cX11_deadBy 4 RX11 d) (hd0 : 3 ≤ d) (hn : 126 ≤ n) {rE : Int32} {mE : Mm} (hF : Fin' X G ρ n (some .int) (some (.int rE)) (RT t u w v x) mE) (m : Mm) (h : f_X11_deadBy_J29 m = some (rE, mE)) : J X G ρ n 4 29 [(0, .ref 78)] [] (RT t u w v x) m := by
  unfold f_X11_deadBy_J29 at h
  refine J_aload_n hX dX11_deadBy_29 rfl 0 rfl ?_
  obtain ⟨r5, m4, h0, h⟩ := bd2_some h
  refine J_callVi (As := []) (st := []) hX dX11_deadBy_30 cw_RX11_428 (by omega) (c_X11_deadOnes hn  h0) (ltn ltc_78 hn) lo_78 (by decide) rfl rfl rfl (Nat.le_of_ble_eq_true rfl) ?_
  clear h0
  refine J_istore_n hX [(3, .int r5), (0, .ref 78)] dX11_deadBy_33 rfl (by decide) rfl ?_
  refine J_aload_n hX dX11_deadBy_34 rfl 1 rfl ?_
  refine J_getR hX dX11_deadBy_35 fl_RX11_131 (ltn ltc_78 hn) lo_78 rfl (rt_78_52 _ _ _ _ _) ?_
  refine J_iconst hX (0 : Int32) dX11_deadBy_38 ic_0 ?_
  refine J_aload_n hX dX11_deadBy_39 rfl 1 rfl ?_
  refine J_getR hX dX11_deadBy_40 fl_RX11_125 (ltn ltc_78 hn) lo_78 rfl (rt_78_50 _ _ _ _ _) ?_
  refine J_iconst hX (0 : Int32) dX11_deadBy_43 ic_0 ?_
  obtain ⟨m6, h0, h⟩ := bd1_some h
  refine J_callSv (As := [.ref 119, .int (0 : Int32), .ref 117, .int (0 : Int32)]) (st := []) hX dX11_deadBy_44 cw_RX11_418 (by omega) (c_X11_copies hn p_isIa_119 p_isIa_117 h0) rfl rfl (Nat.le_of_ble_eq_true rfl) ?_
  clear h0
  refine J_iload_n hX dX11_deadBy_47 rfl 0 rfl ?_
  exact J_ireturn hX dX11_deadBy_48 h hF rfl
theorem t_X11_deadBy {X : XX} {G : GG} {ρ : Nat → Nat} {n t u w v : Nat} {x : Option Nat} {d : Nat} (hX : Ok X G ρ cX11_deadBy 4 RX11 d) (hd0 : 3 ≤ d) (hn : 126 ≤ n) {rE : Int32} {mE : Mm} (hF : Fin' X G ρ n (some .int) (some (.int rE)) (RT t u w v x) mE) {x1 : Int32} {x2 : Int32} {m : Mm} (h : f_X11_deadBy x1 x2 m = some (rE, mE)) : J X G ρ n 4 0 [(0, .ref 78), (1, .int x1), (2, .int x2)] [] (RT t u w v x) m := by
  unfold f_X11_deadBy at h
  refine J_aload_n hX dX11_deadBy_0 rfl 0 rfl ?_
  refine J_getR hX dX11_deadBy_1 fl_RX11_125 (ltn ltc_78 hn) lo_78 rfl (rt_78_50 _ _ _ _ _) ?_
  refine J_iconst hX (0 : Int32) dX11_deadBy_4 ic_0 ?_
  refine J_aload_n hX dX11_deadBy_5 rfl 0 rfl ?_
  refine J_getR hX dX11_deadBy_6 fl_RX11_131 (ltn ltc_78 hn) lo_78 rfl (rt_78_52 _ _ _ _ _) ?_
  refine J_iconst hX (0 : Int32) dX11_deadBy_9 ic_0 ?_
  obtain ⟨m1, h0, h⟩ := bd1_some h
  refine J_callSv (As := [.ref 117, .int (0 : Int32), .ref 119, .int (0 : Int32)]) (st := []) hX dX11_deadBy_10 cw_RX11_418 (by omega) (c_X11_copies hn p_isIa_117 p_isIa_119 h0) rfl rfl (Nat.le_of_ble_eq_true rfl) ?_
  clear h0
  refine J_aload_n hX dX11_deadBy_13 rfl 0 rfl ?_
  refine J_iload_n hX dX11_deadBy_14 rfl 1 rfl ?_
  obtain ⟨r3, m2, h0, h⟩ := bd2_some h
  refine J_callVi (As := [.int x1]) (st := []) hX dX11_deadBy_15 cw_RX11_409 (by omega) (c_X11_losesDisk hn  h0) (ltn ltc_78 hn) lo_78 (by decide) rfl rfl rfl (Nat.le_of_ble_eq_true rfl) ?_
  clear h0
  refine J_pop hX dX11_deadBy_18 rfl ?_
  refine J_iload_n hX dX11_deadBy_19 rfl 2 rfl ?_
  refine J_if_lt hX 29 dX11_deadBy_20 (by decide) h (fun c h => ?_) (fun c h => ?_)
  · refine J_sub [(0, .ref 78)] [0] rfl ?_
    exact t_X11_deadBy_J29 hX hd0 hn hF   m2 h
  · refine J_aload_n hX dX11_deadBy_23 rfl 0 rfl ?_
    refine J_iload_n hX dX11_deadBy_24 rfl 2 rfl ?_
    obtain ⟨r8, m7, h0, h⟩ := bd2_some h
    refine J_callVi (As := [.int x2]) (st := []) hX dX11_deadBy_25 cw_RX11_409 (by omega) (c_X11_losesDisk hn  h0) (ltn ltc_78 hn) lo_78 (by decide) rfl rfl rfl (Nat.le_of_ble_eq_true rfl) ?_
    clear h0
    refine J_pop hX dX11_deadBy_28 rfl ?_
    refine J_sub [(0, .ref 78)] [0] rfl ?_
    exact t_X11_deadBy_J29 hX hd0 hn hF   m7 h
theorem c_X11_deadBy {G : GG} {l : Launch} {ρ : Nat → Nat} {n t u w v : Nat} {x : Option Nat} (hn : 126 ≤ n) {x1 : Int32} {x2 : Int32} {m : Mm} {rE : Int32} {mE : Mm} (h : f_X11_deadBy x1 x2 m = some (rE, mE)) : CT G l yX11_deadBy cX11_deadBy 4 (some .int) 3 0 0 ρ n (RT t u w v x) [.ref 78, .int x1, .int x2] m (some (.int rE)) (RT t u w v x) mE := ct_of_J (by decide) rfl (Nat.le_of_ble_eq_true rfl) (fun X hX e1 e2 e3 e4 hQ hr hl => t_X11_deadBy hX (Nat.le_refl _) hn ⟨by rw [hQ, e3, e4], hr, hl⟩ h)
theorem t_X11_costBefore {X : XX} {G : GG} {ρ : Nat → Nat} {n t u w v : Nat} {x : Option Nat} {d : Nat} (hX : Ok X G ρ cX11_costBefore 2 RX11 d) (hd0 : 0 ≤ d) (hn : 126 ≤ n) {rE : Int32} {mE : Mm} (hF : Fin' X G ρ n (some .int) (some (.int rE)) (RT t u w v x) mE) {x1 : Int32} {m : Mm} (h : f_X11_costBefore x1 m = some (rE, mE)) : J X G ρ n 2 0 [(0, .ref 78), (1, .int x1)] [] (RT t u w v x) m := by
  unfold f_X11_costBefore at h
  refine J_aload_n hX dX11_costBefore_0 rfl 0 rfl ?_
  refine J_getR hX dX11_costBefore_1 fl_RX11_131 (ltn ltc_78 hn) lo_78 rfl (rt_78_52 _ _ _ _ _) ?_
  refine J_bipush hX (14 : Int32) dX11_costBefore_4 (by decide) ?_
  refine J_aload_n hX dX11_costBefore_6 rfl 0 rfl ?_
  refine J_getR hX dX11_costBefore_7 fl_RX11_95 (ltn ltc_78 hn) lo_78 rfl (rt_78_40 _ _ _ _ _) ?_
  refine J_iload_n hX dX11_costBefore_10 rfl 1 rfl ?_
  refine J_iaload hX dX11_costBefore_11 (ltn ltc_107 hn) lay_107 h (fun h => ?_)
  refine J_iadd hX dX11_costBefore_12 ?_
  refine J_iaload hX dX11_costBefore_13 (ltn ltc_119 hn) lay_119 h (fun h => ?_)
  refine J_iconst hX (2 : Int32) dX11_costBefore_14 ic_2 ?_
  refine J_icmp_eq hX 22 dX11_costBefore_15 (by decide) h (fun c h => ?_) (fun c h => ?_)
  · refine J_aload_n hX dX11_costBefore_22 rfl 0 rfl ?_
    refine J_getR hX dX11_costBefore_23 fl_RX11_74 (ltn ltc_78 hn) lo_78 rfl (rt_78_33 _ _ _ _ _) ?_
    refine J_aload_n hX dX11_costBefore_26 rfl 0 rfl ?_
    refine J_getR hX dX11_costBefore_27 fl_RX11_95 (ltn ltc_78 hn) lo_78 rfl (rt_78_40 _ _ _ _ _) ?_
    refine J_iload_n hX dX11_costBefore_30 rfl 1 rfl ?_
    refine J_iaload hX dX11_costBefore_31 (ltn ltc_107 hn) lay_107 h (fun h => ?_)
    refine J_iconst hX (5 : Int32) dX11_costBefore_32 ic_5 ?_
    refine J_idiv0 hX dX11_costBefore_33 (by decide) ?_
    refine J_iaload hX dX11_costBefore_34 (ltn ltc_100 hn) lay_100 h (fun h => ?_)
    refine J_iconst hX (1 : Int32) dX11_costBefore_35 ic_1 ?_
    refine J_isub hX dX11_costBefore_36 ?_
    exact J_ireturn hX dX11_costBefore_37 h hF rfl
  · refine J_iconst hX (1 : Int32) dX11_costBefore_18 ic_1 ?_
    refine J_goto hX 37 dX11_costBefore_19 (by decide) ?_
    exact J_ireturn hX dX11_costBefore_37 h hF rfl
theorem c_X11_costBefore {G : GG} {l : Launch} {ρ : Nat → Nat} {n t u w v : Nat} {x : Option Nat} (hn : 126 ≤ n) {x1 : Int32} {m : Mm} {rE : Int32} {mE : Mm} (h : f_X11_costBefore x1 m = some (rE, mE)) : CT G l yX11_costBefore cX11_costBefore 2 (some .int) 0 0 0 ρ n (RT t u w v x) [.ref 78, .int x1] m (some (.int rE)) (RT t u w v x) mE := ct_of_J (by decide) rfl (Nat.le_of_ble_eq_true rfl) (fun X hX e1 e2 e3 e4 hQ hr hl => t_X11_costBefore hX (Nat.le_refl _) hn ⟨by rw [hQ, e3, e4], hr, hl⟩ h)
theorem t_X11_laysDearer_L44 {X : XX} {G : GG} {ρ : Nat → Nat} {n t u w v : Nat} {x : Option Nat} {d : Nat} (hX : Ok X G ρ cX11_laysDearer 3 RX11 d) (hd0 : 3 ≤ d) (hn : 126 ≤ n) {mE : Mm} (hF : Fin' X G ρ n none none (RT t u w v x) mE) {v1 : Int32} {K : Mm → Option (Mm)} (hK : ∀ (m : Mm), K m = some mE → J X G ρ n 3 98 [(0, .ref 78), (1, .int v1)] [] (RT t u w v x) m) : ∀ (k : Nat) (v2 : Int32) (m : Mm), f_X11_laysDearer_L44 v1 K k v2 m = some mE → J X G ρ n 3 44 [(0, .ref 78), (1, .int v1), (2, .int v2)] [] (RT t u w v x) m := by
  intro k
  induction k with
  | zero => intro _ _ h; rw [f_X11_laysDearer_L44] at h; cases h
  | succ k ih =>
    intro v2 m h
    rw [f_X11_laysDearer_L44] at h
    refine J_iload_n hX dX11_laysDearer_44 rfl 2 rfl ?_
    refine J_aload_n hX dX11_laysDearer_45 rfl 0 rfl ?_
    refine J_getR hX dX11_laysDearer_46 fl_RX11_98 (ltn ltc_78 hn) lo_78 rfl (rt_78_41 _ _ _ _ _) ?_
    refine J_iconst hX (0 : Int32) dX11_laysDearer_49 ic_0 ?_
    refine J_iaload0 hX dX11_laysDearer_50 (ltn ltc_108 hn) lay_108 (by decide) ?_
    refine J_icmp_ge hX 98 dX11_laysDearer_51 (by decide) h (fun c h => ?_) (fun c h => ?_)
    · refine J_aload_n hX dX11_laysDearer_54 rfl 0 rfl ?_
      refine J_getR hX dX11_laysDearer_55 fl_RX11_146 (ltn ltc_78 hn) lo_78 rfl (rt_78_57 _ _ _ _ _) ?_
      refine J_sipush hX (160 : Int32) dX11_laysDearer_58 (by decide) ?_
      refine J_iload_n hX dX11_laysDearer_61 rfl 1 rfl ?_
      refine J_imul hX dX11_laysDearer_62 ?_
      refine J_iload_n hX dX11_laysDearer_63 rfl 2 rfl ?_
      refine J_iadd hX dX11_laysDearer_64 ?_
      refine J_aload_n hX dX11_laysDearer_65 rfl 0 rfl ?_
      refine J_iload_n hX dX11_laysDearer_66 rfl 2 rfl ?_
      obtain ⟨r7, m6, h0, h⟩ := bd2_some h
      refine J_callVi (As := [.int v2]) (st := [.int (((160 : Int32) * v1) + v2), .ref 124]) hX dX11_laysDearer_67 cw_RX11_397 (by omega) (c_X11_canRead hn  h0) (ltn ltc_78 hn) lo_78 (by decide) rfl rfl rfl (Nat.le_of_ble_eq_true rfl) ?_
      clear h0
      refine J_if_eq hX 86 dX11_laysDearer_70 (by decide) h (fun c h => ?_) (fun c h => ?_)
      · refine J_iconst hX (1 : Int32) dX11_laysDearer_86 ic_1 ?_
        refine J_goto hX 91 dX11_laysDearer_87 (by decide) ?_
        refine J_bastore hX dX11_laysDearer_91 (ltn ltc_124 hn) lay_124 vz1 h (fun m8 h => ?_)
        refine J_iinc hX (v2 + (1 : Int32)) [(2, .int (v2 + (1 : Int32))), (0, .ref 78), (1, .int v1)] dX11_laysDearer_92 2 rfl (congrArg (fun z => v2 + z) ic_1) (by decide) rfl ?_
        refine J_goto hX 44 dX11_laysDearer_95 (by decide) ?_
        refine J_sub [(0, .ref 78), (1, .int v1), (2, .int (v2 + (1 : Int32)))] [1, 2, 0] rfl ?_
        exact ih (v2 + (1 : Int32)) m8 h
      · refine J_aload_n hX dX11_laysDearer_73 rfl 0 rfl ?_
        refine J_iload_n hX dX11_laysDearer_74 rfl 2 rfl ?_
        obtain ⟨r10, m9, h0, h⟩ := bd2_some h
        refine J_callVi (As := [.int v2]) (st := [.int (((160 : Int32) * v1) + v2), .ref 124]) hX dX11_laysDearer_75 cw_RX11_457 (by omega) (c_X11_costOf hn  h0) (ltn ltc_78 hn) lo_78 (by decide) rfl rfl rfl (Nat.le_of_ble_eq_true rfl) ?_
        clear h0
        refine J_aload_n hX dX11_laysDearer_78 rfl 0 rfl ?_
        refine J_iload_n hX dX11_laysDearer_79 rfl 2 rfl ?_
        obtain ⟨r12, m11, h0, h⟩ := bd2_some h
        refine J_callVi (As := [.int v2]) (st := [.int r10, .int (((160 : Int32) * v1) + v2), .ref 124]) hX dX11_laysDearer_80 cw_RX11_469 (by omega) (c_X11_costBefore hn  h0) (ltn ltc_78 hn) lo_78 (by decide) rfl rfl rfl (Nat.le_of_ble_eq_true rfl) ?_
        clear h0
        refine J_icmp_le hX 90 dX11_laysDearer_83 (by decide) h (fun c h => ?_) (fun c h => ?_)
        · refine J_iconst hX (1 : Int32) dX11_laysDearer_86 ic_1 ?_
          refine J_goto hX 91 dX11_laysDearer_87 (by decide) ?_
          refine J_bastore hX dX11_laysDearer_91 (ltn ltc_124 hn) lay_124 vz1 h (fun m14 h => ?_)
          refine J_iinc hX (v2 + (1 : Int32)) [(2, .int (v2 + (1 : Int32))), (0, .ref 78), (1, .int v1)] dX11_laysDearer_92 2 rfl (congrArg (fun z => v2 + z) ic_1) (by decide) rfl ?_
          refine J_goto hX 44 dX11_laysDearer_95 (by decide) ?_
          refine J_sub [(0, .ref 78), (1, .int v1), (2, .int (v2 + (1 : Int32)))] [1, 2, 0] rfl ?_
          exact ih (v2 + (1 : Int32)) m14 h
        · refine J_iconst hX (0 : Int32) dX11_laysDearer_90 ic_0 ?_
          refine J_bastore hX dX11_laysDearer_91 (ltn ltc_124 hn) lay_124 vz0 h (fun m13 h => ?_)
          refine J_iinc hX (v2 + (1 : Int32)) [(2, .int (v2 + (1 : Int32))), (0, .ref 78), (1, .int v1)] dX11_laysDearer_92 2 rfl (congrArg (fun z => v2 + z) ic_1) (by decide) rfl ?_
          refine J_goto hX 44 dX11_laysDearer_95 (by decide) ?_
          refine J_sub [(0, .ref 78), (1, .int v1), (2, .int (v2 + (1 : Int32)))] [1, 2, 0] rfl ?_
          exact ih (v2 + (1 : Int32)) m13 h
    · refine J_sub [(0, .ref 78), (1, .int v1)] [0, 1] rfl ?_
      exact hK  m h
theorem t_X11_laysDearer_L2 {X : XX} {G : GG} {ρ : Nat → Nat} {n t u w v : Nat} {x : Option Nat} {d : Nat} (hX : Ok X G ρ cX11_laysDearer 3 RX11 d) (hd0 : 3 ≤ d) (hn : 126 ≤ n) {mE : Mm} (hF : Fin' X G ρ n none none (RT t u w v x) mE) : ∀ (k : Nat) (v1 : Int32) (m : Mm), f_X11_laysDearer_L2 k v1 m = some mE → J X G ρ n 3 2 [(0, .ref 78), (1, .int v1)] [] (RT t u w v x) m := by
  intro k
  induction k with
  | zero => intro _ _ h; rw [f_X11_laysDearer_L2] at h; cases h
  | succ k ih =>
    intro v1 m h
    rw [f_X11_laysDearer_L2] at h
    refine J_iload_n hX dX11_laysDearer_2 rfl 1 rfl ?_
    refine J_aload_n hX dX11_laysDearer_3 rfl 0 rfl ?_
    refine J_getR hX dX11_laysDearer_4 fl_RX11_13 (ltn ltc_78 hn) lo_78 rfl (rt_78_10 _ _ _ _ _) ?_
    refine J_iconst hX (0 : Int32) dX11_laysDearer_7 ic_0 ?_
    refine J_iaload0 hX dX11_laysDearer_8 (ltn ltc_80 hn) lay_80 (by decide) ?_
    refine J_icmp_ge hX 117 dX11_laysDearer_9 (by decide) h (fun c h => ?_) (fun c h => ?_)
    · refine J_aload_n hX dX11_laysDearer_12 rfl 0 rfl ?_
      refine J_iload_n hX dX11_laysDearer_13 rfl 1 rfl ?_
      obtain ⟨r2, m1, h0, h⟩ := bd2_some h
      refine J_callVi (As := [.int v1]) (st := []) hX dX11_laysDearer_14 cw_RX11_373 (by omega) (c_X11_isUp hn  h0) (ltn ltc_78 hn) lo_78 (by decide) rfl rfl rfl (Nat.le_of_ble_eq_true rfl) ?_
      clear h0
      refine J_if_ne hX 23 dX11_laysDearer_17 (by decide) h (fun c h => ?_) (fun c h => ?_)
      · refine J_goto hX 111 dX11_laysDearer_20 (by decide) ?_
        refine J_iinc hX (v1 + (1 : Int32)) [(1, .int (v1 + (1 : Int32))), (0, .ref 78)] dX11_laysDearer_111 1 rfl (congrArg (fun z => v1 + z) ic_1) (by decide) rfl ?_
        refine J_goto hX 2 dX11_laysDearer_114 (by decide) ?_
        refine J_sub [(0, .ref 78), (1, .int (v1 + (1 : Int32)))] [1, 0] rfl ?_
        exact ih (v1 + (1 : Int32)) m1 h
      · refine J_aload_n hX dX11_laysDearer_23 rfl 0 rfl ?_
        refine J_getR hX dX11_laysDearer_24 fl_RX11_125 (ltn ltc_78 hn) lo_78 rfl (rt_78_50 _ _ _ _ _) ?_
        refine J_iconst hX (0 : Int32) dX11_laysDearer_27 ic_0 ?_
        refine J_aload_n hX dX11_laysDearer_28 rfl 0 rfl ?_
        refine J_getR hX dX11_laysDearer_29 fl_RX11_131 (ltn ltc_78 hn) lo_78 rfl (rt_78_52 _ _ _ _ _) ?_
        refine J_iconst hX (0 : Int32) dX11_laysDearer_32 ic_0 ?_
        obtain ⟨m3, h0, h⟩ := bd1_some h
        refine J_callSv (As := [.ref 117, .int (0 : Int32), .ref 119, .int (0 : Int32)]) (st := []) hX dX11_laysDearer_33 cw_RX11_418 (by omega) (c_X11_copies hn p_isIa_117 p_isIa_119 h0) rfl rfl (Nat.le_of_ble_eq_true rfl) ?_
        clear h0
        refine J_aload_n hX dX11_laysDearer_36 rfl 0 rfl ?_
        refine J_iload_n hX dX11_laysDearer_37 rfl 1 rfl ?_
        obtain ⟨r5, m4, h0, h⟩ := bd2_some h
        refine J_callVi (As := [.int v1]) (st := []) hX dX11_laysDearer_38 cw_RX11_409 (by omega) (c_X11_losesDisk hn  h0) (ltn ltc_78 hn) lo_78 (by decide) rfl rfl rfl (Nat.le_of_ble_eq_true rfl) ?_
        clear h0
        refine J_pop hX dX11_laysDearer_41 rfl ?_
        refine J_iconst hX (0 : Int32) dX11_laysDearer_42 ic_0 ?_
        refine J_istore_n hX [(2, .int (0 : Int32)), (0, .ref 78), (1, .int v1)] dX11_laysDearer_43 rfl (by decide) rfl ?_
        refine J_sub [(0, .ref 78), (1, .int v1), (2, .int (0 : Int32))] [1, 2, 0] rfl ?_
        refine t_X11_laysDearer_L44 hX hd0 hn hF (fun m15 h => ?_) FU (0 : Int32) m4 h
        refine J_aload_n hX dX11_laysDearer_98 rfl 0 rfl ?_
        refine J_getR hX dX11_laysDearer_99 fl_RX11_131 (ltn ltc_78 hn) lo_78 rfl (rt_78_52 _ _ _ _ _) ?_
        refine J_iconst hX (0 : Int32) dX11_laysDearer_102 ic_0 ?_
        refine J_aload_n hX dX11_laysDearer_103 rfl 0 rfl ?_
        refine J_getR hX dX11_laysDearer_104 fl_RX11_125 (ltn ltc_78 hn) lo_78 rfl (rt_78_50 _ _ _ _ _) ?_
        refine J_iconst hX (0 : Int32) dX11_laysDearer_107 ic_0 ?_
        obtain ⟨m16, h0, h⟩ := bd1_some h
        refine J_callSv (As := [.ref 119, .int (0 : Int32), .ref 117, .int (0 : Int32)]) (st := []) hX dX11_laysDearer_108 cw_RX11_418 (by omega) (c_X11_copies hn p_isIa_119 p_isIa_117 h0) rfl rfl (Nat.le_of_ble_eq_true rfl) ?_
        clear h0
        refine J_iinc hX (v1 + (1 : Int32)) [(1, .int (v1 + (1 : Int32))), (0, .ref 78)] dX11_laysDearer_111 1 rfl (congrArg (fun z => v1 + z) ic_1) (by decide) rfl ?_
        refine J_goto hX 2 dX11_laysDearer_114 (by decide) ?_
        refine J_sub [(0, .ref 78), (1, .int (v1 + (1 : Int32)))] [1, 0] rfl ?_
        exact ih (v1 + (1 : Int32)) m16 h
    · exact J_return hX dX11_laysDearer_117 h hF
theorem t_X11_laysDearer {X : XX} {G : GG} {ρ : Nat → Nat} {n t u w v : Nat} {x : Option Nat} {d : Nat} (hX : Ok X G ρ cX11_laysDearer 3 RX11 d) (hd0 : 3 ≤ d) (hn : 126 ≤ n) {mE : Mm} (hF : Fin' X G ρ n none none (RT t u w v x) mE) {m : Mm} (h : f_X11_laysDearer m = some mE) : J X G ρ n 3 0 [(0, .ref 78)] [] (RT t u w v x) m := by
  unfold f_X11_laysDearer at h
  refine J_iconst hX (0 : Int32) dX11_laysDearer_0 ic_0 ?_
  refine J_istore_n hX [(1, .int (0 : Int32)), (0, .ref 78)] dX11_laysDearer_1 rfl (by decide) rfl ?_
  refine J_sub [(0, .ref 78), (1, .int (0 : Int32))] [1, 0] rfl ?_
  exact t_X11_laysDearer_L2 hX hd0 hn hF FU (0 : Int32)  m h
theorem c_X11_laysDearer {G : GG} {l : Launch} {ρ : Nat → Nat} {n t u w v : Nat} {x : Option Nat} (hn : 126 ≤ n) {m : Mm} {mE : Mm} (h : f_X11_laysDearer m = some mE) : CT G l yX11_laysDearer cX11_laysDearer 3 none 3 0 0 ρ n (RT t u w v x) [.ref 78] m none (RT t u w v x) mE := ct_of_J (by decide) rfl (Nat.le_of_ble_eq_true rfl) (fun X hX e1 e2 e3 e4 hQ hr hl => t_X11_laysDearer hX (Nat.le_refl _) hn ⟨by rw [hQ, e3, e4], hr, hl⟩ h)
theorem t_X11_isAsSeen_L2 {X : XX} {G : GG} {ρ : Nat → Nat} {n t u w v : Nat} {x : Option Nat} {d : Nat} (hX : Ok X G ρ cX11_isAsSeen 3 RX11 d) (hd0 : 0 ≤ d) (hn : 126 ≤ n) {rE : Int32} {mE : Mm} (hF : Fin' X G ρ n (some .boolean) (some (.int rE)) (RT t u w v x) mE) : ∀ (k : Nat) (v1 : Int32) (v2 : Int32) (m : Mm), f_X11_isAsSeen_L2 k v1 v2 m = some (rE, mE) → J X G ρ n 3 2 [(0, .ref 78), (1, .int v1), (2, .int v2)] [] (RT t u w v x) m := by
  intro k
  induction k with
  | zero => intro _ _ _ h; rw [f_X11_isAsSeen_L2] at h; cases h
  | succ k ih =>
    intro v1 v2 m h
    rw [f_X11_isAsSeen_L2] at h
    refine J_iload_n hX dX11_isAsSeen_2 rfl 2 rfl ?_
    refine J_aload_n hX dX11_isAsSeen_3 rfl 0 rfl ?_
    refine J_getR hX dX11_isAsSeen_4 fl_RX11_116 (ltn ltc_78 hn) lo_78 rfl (rt_78_47 _ _ _ _ _) ?_
    refine J_iconst hX (0 : Int32) dX11_isAsSeen_7 ic_0 ?_
    refine J_iaload0 hX dX11_isAsSeen_8 (ltn ltc_114 hn) lay_114 (by decide) ?_
    refine J_icmp_ge hX 46 dX11_isAsSeen_9 (by decide) h (fun c h => ?_) (fun c h => ?_)
    · refine J_aload_n hX dX11_isAsSeen_12 rfl 0 rfl ?_
      refine J_getR hX dX11_isAsSeen_13 fl_RX11_146 (ltn ltc_78 hn) lo_78 rfl (rt_78_57 _ _ _ _ _) ?_
      refine J_sipush hX (160 : Int32) dX11_isAsSeen_16 (by decide) ?_
      refine J_iload_n hX dX11_isAsSeen_19 rfl 1 rfl ?_
      refine J_imul hX dX11_isAsSeen_20 ?_
      refine J_aload_n hX dX11_isAsSeen_21 rfl 0 rfl ?_
      refine J_getR hX dX11_isAsSeen_22 fl_RX11_119 (ltn ltc_78 hn) lo_78 rfl (rt_78_48 _ _ _ _ _) ?_
      refine J_iload_n hX dX11_isAsSeen_25 rfl 2 rfl ?_
      refine J_iaload hX dX11_isAsSeen_26 (ltn ltc_115 hn) lay_115 h (fun h => ?_)
      refine J_iadd hX dX11_isAsSeen_27 ?_
      refine J_baload hX dX11_isAsSeen_28 (ltn ltc_124 hn) lay_124 h (fun h => ?_)
      refine J_aload_n hX dX11_isAsSeen_29 rfl 0 rfl ?_
      refine J_getR hX dX11_isAsSeen_30 fl_RX11_122 (ltn ltc_78 hn) lo_78 rfl (rt_78_49 _ _ _ _ _) ?_
      refine J_iload_n hX dX11_isAsSeen_33 rfl 2 rfl ?_
      refine J_baload hX dX11_isAsSeen_34 (ltn ltc_116 hn) lay_116 h (fun h => ?_)
      refine J_icmp_eq hX 40 dX11_isAsSeen_35 (by decide) h (fun c h => ?_) (fun c h => ?_)
      · refine J_iinc hX (v2 + (1 : Int32)) [(2, .int (v2 + (1 : Int32))), (0, .ref 78), (1, .int v1)] dX11_isAsSeen_40 2 rfl (congrArg (fun z => v2 + z) ic_1) (by decide) rfl ?_
        refine J_goto hX 2 dX11_isAsSeen_43 (by decide) ?_
        refine J_sub [(0, .ref 78), (1, .int v1), (2, .int (v2 + (1 : Int32)))] [1, 2, 0] rfl ?_
        exact ih v1 (v2 + (1 : Int32)) m h
      · refine J_iconst hX (0 : Int32) dX11_isAsSeen_38 ic_0 ?_
        exact J_ireturn hX dX11_isAsSeen_39 h hF narrow_b0
    · refine J_iconst hX (1 : Int32) dX11_isAsSeen_46 ic_1 ?_
      exact J_ireturn hX dX11_isAsSeen_47 h hF narrow_b1
theorem t_X11_isAsSeen {X : XX} {G : GG} {ρ : Nat → Nat} {n t u w v : Nat} {x : Option Nat} {d : Nat} (hX : Ok X G ρ cX11_isAsSeen 3 RX11 d) (hd0 : 0 ≤ d) (hn : 126 ≤ n) {rE : Int32} {mE : Mm} (hF : Fin' X G ρ n (some .boolean) (some (.int rE)) (RT t u w v x) mE) {x1 : Int32} {m : Mm} (h : f_X11_isAsSeen x1 m = some (rE, mE)) : J X G ρ n 3 0 [(0, .ref 78), (1, .int x1)] [] (RT t u w v x) m := by
  unfold f_X11_isAsSeen at h
  refine J_iconst hX (0 : Int32) dX11_isAsSeen_0 ic_0 ?_
  refine J_istore_n hX [(2, .int (0 : Int32)), (0, .ref 78), (1, .int x1)] dX11_isAsSeen_1 rfl (by decide) rfl ?_
  refine J_sub [(0, .ref 78), (1, .int x1), (2, .int (0 : Int32))] [1, 2, 0] rfl ?_
  exact t_X11_isAsSeen_L2 hX hd0 hn hF FU x1 (0 : Int32)  m h
theorem c_X11_isAsSeen {G : GG} {l : Launch} {ρ : Nat → Nat} {n t u w v : Nat} {x : Option Nat} (hn : 126 ≤ n) {x1 : Int32} {m : Mm} {rE : Int32} {mE : Mm} (h : f_X11_isAsSeen x1 m = some (rE, mE)) : CT G l yX11_isAsSeen cX11_isAsSeen 3 (some .boolean) 0 0 0 ρ n (RT t u w v x) [.ref 78, .int x1] m (some (.int rE)) (RT t u w v x) mE := ct_of_J (by decide) rfl (Nat.le_of_ble_eq_true rfl) (fun X hX e1 e2 e3 e4 hQ hr hl => t_X11_isAsSeen hX (Nat.le_refl _) hn ⟨by rw [hQ, e3, e4], hr, hl⟩ h)
theorem t_X11_who_L13 {X : XX} {G : GG} {ρ : Nat → Nat} {n t u w v : Nat} {x : Option Nat} {d : Nat} (hX : Ok X G ρ cX11_who 3 RX11 d) (hd0 : 4 ≤ d) (hn : 126 ≤ n) {rE : Int32} {mE : Mm} (hF : Fin' X G ρ n (some .int) (some (.int rE)) (RT t u w v x) mE) : ∀ (k : Nat) (v1 : Int32) (v2 : Int32) (m : Mm), f_X11_who_L13 k v1 v2 m = some (rE, mE) → J X G ρ n 3 13 [(0, .ref 78), (1, .int v1), (2, .int v2)] [] (RT t u w v x) m := by
  intro k
  induction k with
  | zero => intro _ _ _ h; rw [f_X11_who_L13] at h; cases h
  | succ k ih =>
    intro v1 v2 m h
    rw [f_X11_who_L13] at h
    refine J_iload_n hX dX11_who_13 rfl 2 rfl ?_
    refine J_aload_n hX dX11_who_14 rfl 0 rfl ?_
    refine J_getR hX dX11_who_15 fl_RX11_13 (ltn ltc_78 hn) lo_78 rfl (rt_78_10 _ _ _ _ _) ?_
    refine J_iconst hX (0 : Int32) dX11_who_18 ic_0 ?_
    refine J_iaload0 hX dX11_who_19 (ltn ltc_80 hn) lay_80 (by decide) ?_
    refine J_icmp_ge hX 55 dX11_who_20 (by decide) h (fun c h => ?_) (fun c h => ?_)
    · refine J_iload_n hX dX11_who_23 rfl 1 rfl ?_
      refine J_aload_n hX dX11_who_24 rfl 0 rfl ?_
      refine J_iload_n hX dX11_who_25 rfl 2 rfl ?_
      obtain ⟨r4, m3, h0, h⟩ := bd2_some h
      refine J_callVi (As := [.int v2]) (st := [.int v1]) hX dX11_who_26 cw_RX11_373 (by omega) (c_X11_isUp hn  h0) (ltn ltc_78 hn) lo_78 (by decide) rfl rfl rfl (Nat.le_of_ble_eq_true rfl) ?_
      clear h0
      refine J_if_eq hX 46 dX11_who_29 (by decide) h (fun c h => ?_) (fun c h => ?_)
      · refine J_iconst hX (0 : Int32) dX11_who_46 ic_0 ?_
        refine J_ior hX dX11_who_47 ?_
        refine J_istore_n hX [(1, .int (v1 ||| (0 : Int32))), (0, .ref 78), (2, .int v2)] dX11_who_48 rfl (by decide) rfl ?_
        refine J_iinc hX (v2 + (1 : Int32)) [(2, .int (v2 + (1 : Int32))), (1, .int (v1 ||| (0 : Int32))), (0, .ref 78)] dX11_who_49 2 rfl (congrArg (fun z => v2 + z) ic_1) (by decide) rfl ?_
        refine J_goto hX 13 dX11_who_52 (by decide) ?_
        refine J_sub [(0, .ref 78), (1, .int (v1 ||| (0 : Int32))), (2, .int (v2 + (1 : Int32)))] [2, 1, 0] rfl ?_
        exact ih (v1 ||| (0 : Int32)) (v2 + (1 : Int32)) m3 h
      · refine J_aload_n hX dX11_who_32 rfl 0 rfl ?_
        refine J_iload_n hX dX11_who_33 rfl 2 rfl ?_
        obtain ⟨r6, m5, h0, h⟩ := bd2_some h
        refine J_callVi (As := [.int v2]) (st := [.int v1]) hX dX11_who_34 cw_RX11_475 (by omega) (c_X11_isAsSeen hn  h0) (ltn ltc_78 hn) lo_78 (by decide) rfl rfl rfl (Nat.le_of_ble_eq_true rfl) ?_
        clear h0
        refine J_if_eq hX 46 dX11_who_37 (by decide) h (fun c h => ?_) (fun c h => ?_)
        · refine J_iconst hX (0 : Int32) dX11_who_46 ic_0 ?_
          refine J_ior hX dX11_who_47 ?_
          refine J_istore_n hX [(1, .int (v1 ||| (0 : Int32))), (0, .ref 78), (2, .int v2)] dX11_who_48 rfl (by decide) rfl ?_
          refine J_iinc hX (v2 + (1 : Int32)) [(2, .int (v2 + (1 : Int32))), (1, .int (v1 ||| (0 : Int32))), (0, .ref 78)] dX11_who_49 2 rfl (congrArg (fun z => v2 + z) ic_1) (by decide) rfl ?_
          refine J_goto hX 13 dX11_who_52 (by decide) ?_
          refine J_sub [(0, .ref 78), (1, .int (v1 ||| (0 : Int32))), (2, .int (v2 + (1 : Int32)))] [2, 1, 0] rfl ?_
          exact ih (v1 ||| (0 : Int32)) (v2 + (1 : Int32)) m5 h
        · refine J_iconst hX (1 : Int32) dX11_who_40 ic_1 ?_
          refine J_iload_n hX dX11_who_41 rfl 2 rfl ?_
          refine J_ishl hX dX11_who_42 ?_
          refine J_goto hX 47 dX11_who_43 (by decide) ?_
          refine J_ior hX dX11_who_47 ?_
          refine J_istore_n hX [(1, .int (v1 ||| ((1 : Int32) <<< (v2 &&& 31)))), (0, .ref 78), (2, .int v2)] dX11_who_48 rfl (by decide) rfl ?_
          refine J_iinc hX (v2 + (1 : Int32)) [(2, .int (v2 + (1 : Int32))), (1, .int (v1 ||| ((1 : Int32) <<< (v2 &&& 31)))), (0, .ref 78)] dX11_who_49 2 rfl (congrArg (fun z => v2 + z) ic_1) (by decide) rfl ?_
          refine J_goto hX 13 dX11_who_52 (by decide) ?_
          refine J_sub [(0, .ref 78), (1, .int (v1 ||| ((1 : Int32) <<< (v2 &&& 31)))), (2, .int (v2 + (1 : Int32)))] [2, 1, 0] rfl ?_
          exact ih (v1 ||| ((1 : Int32) <<< (v2 &&& 31))) (v2 + (1 : Int32)) m5 h
    · refine J_iload_n hX dX11_who_55 rfl 1 rfl ?_
      exact J_ireturn hX dX11_who_56 h hF rfl
theorem t_X11_who {X : XX} {G : GG} {ρ : Nat → Nat} {n t u w v : Nat} {x : Option Nat} {d : Nat} (hX : Ok X G ρ cX11_who 3 RX11 d) (hd0 : 4 ≤ d) (hn : 126 ≤ n) {rE : Int32} {mE : Mm} (hF : Fin' X G ρ n (some .int) (some (.int rE)) (RT t u w v x) mE) {m : Mm} (h : f_X11_who m = some (rE, mE)) : J X G ρ n 3 0 [(0, .ref 78)] [] (RT t u w v x) m := by
  unfold f_X11_who at h
  refine J_aload_n hX dX11_who_0 rfl 0 rfl ?_
  refine J_iconst hX (0 : Int32) dX11_who_1 ic_0 ?_
  refine J_putI hX dX11_who_2 pl_RX11_152 (ltn ltc_78 hn) lo_78 rfl rfl rfl h (fun m1 h => ?_)
  refine J_aload_n hX dX11_who_5 rfl 0 rfl ?_
  obtain ⟨m2, h0, h⟩ := bd1_some h
  refine J_callVv (As := []) (st := []) hX dX11_who_6 cw_RX11_472 (by omega) (c_X11_laysDearer hn  h0) (ltn ltc_78 hn) lo_78 (by decide) rfl rfl rfl (Nat.le_of_ble_eq_true rfl) ?_
  clear h0
  refine J_iconst hX (0 : Int32) dX11_who_9 ic_0 ?_
  refine J_istore_n hX [(1, .int (0 : Int32)), (0, .ref 78)] dX11_who_10 rfl (by decide) rfl ?_
  refine J_iconst hX (0 : Int32) dX11_who_11 ic_0 ?_
  refine J_istore_n hX [(2, .int (0 : Int32)), (1, .int (0 : Int32)), (0, .ref 78)] dX11_who_12 rfl (by decide) rfl ?_
  refine J_sub [(0, .ref 78), (1, .int (0 : Int32)), (2, .int (0 : Int32))] [2, 1, 0] rfl ?_
  exact t_X11_who_L13 hX hd0 hn hF FU (0 : Int32) (0 : Int32)  m2 h
theorem c_X11_who {G : GG} {l : Launch} {ρ : Nat → Nat} {n t u w v : Nat} {x : Option Nat} (hn : 126 ≤ n) {m : Mm} {rE : Int32} {mE : Mm} (h : f_X11_who m = some (rE, mE)) : CT G l yX11_who cX11_who 3 (some .int) 4 0 0 ρ n (RT t u w v x) [.ref 78] m (some (.int rE)) (RT t u w v x) mE := ct_of_J (by decide) rfl (Nat.le_of_ble_eq_true rfl) (fun X hX e1 e2 e3 e4 hQ hr hl => t_X11_who hX (Nat.le_refl _) hn ⟨by rw [hQ, e3, e4], hr, hl⟩ h)
theorem t_X11_bits_L4 {X : XX} {G : GG} {ρ : Nat → Nat} {n t u w v : Nat} {x : Option Nat} {d : Nat} (hX : Ok X G ρ cX11_bits 3 RX11 d) (hd0 : 0 ≤ d) (hn : 126 ≤ n) {rE : Int32} {mE : Mm} (hF : Fin' X G ρ n (some .int) (some (.int rE)) (RT t u w v x) mE) : ∀ (k : Nat) (v0 : Int32) (v1 : Int32) (v2 : Int32) (m : Mm), f_X11_bits_L4 k v0 v1 v2 m = some (rE, mE) → J X G ρ n 3 4 [(0, .int v0), (1, .int v1), (2, .int v2)] [] (RT t u w v x) m := by
  intro k
  induction k with
  | zero => intro _ _ _ _ h; rw [f_X11_bits_L4] at h; cases h
  | succ k ih =>
    intro v0 v1 v2 m h
    rw [f_X11_bits_L4] at h
    refine J_iload_n hX dX11_bits_4 rfl 2 rfl ?_
    refine J_bipush hX (13 : Int32) dX11_bits_5 (by decide) ?_
    refine J_icmp_ge hX 24 dX11_bits_7 (by decide) h (fun c h => ?_) (fun c h => ?_)
    · refine J_iload_n hX dX11_bits_10 rfl 1 rfl ?_
      refine J_iload_n hX dX11_bits_11 rfl 0 rfl ?_
      refine J_iload_n hX dX11_bits_12 rfl 2 rfl ?_
      refine J_ishr hX dX11_bits_13 ?_
      refine J_iconst hX (1 : Int32) dX11_bits_14 ic_1 ?_
      refine J_iand hX dX11_bits_15 ?_
      refine J_iadd hX dX11_bits_16 ?_
      refine J_istore_n hX [(1, .int (v1 + ((v0 >>> (v2 &&& 31)) &&& (1 : Int32)))), (0, .int v0), (2, .int v2)] dX11_bits_17 rfl (by decide) rfl ?_
      refine J_iinc hX (v2 + (1 : Int32)) [(2, .int (v2 + (1 : Int32))), (1, .int (v1 + ((v0 >>> (v2 &&& 31)) &&& (1 : Int32)))), (0, .int v0)] dX11_bits_18 2 rfl (congrArg (fun z => v2 + z) ic_1) (by decide) rfl ?_
      refine J_goto hX 4 dX11_bits_21 (by decide) ?_
      refine J_sub [(0, .int v0), (1, .int (v1 + ((v0 >>> (v2 &&& 31)) &&& (1 : Int32)))), (2, .int (v2 + (1 : Int32)))] [2, 1, 0] rfl ?_
      exact ih v0 (v1 + ((v0 >>> (v2 &&& 31)) &&& (1 : Int32))) (v2 + (1 : Int32)) m h
    · refine J_iload_n hX dX11_bits_24 rfl 1 rfl ?_
      exact J_ireturn hX dX11_bits_25 h hF rfl
theorem t_X11_bits {X : XX} {G : GG} {ρ : Nat → Nat} {n t u w v : Nat} {x : Option Nat} {d : Nat} (hX : Ok X G ρ cX11_bits 3 RX11 d) (hd0 : 0 ≤ d) (hn : 126 ≤ n) {rE : Int32} {mE : Mm} (hF : Fin' X G ρ n (some .int) (some (.int rE)) (RT t u w v x) mE) {x0 : Int32} {m : Mm} (h : f_X11_bits x0 m = some (rE, mE)) : J X G ρ n 3 0 [(0, .int x0)] [] (RT t u w v x) m := by
  unfold f_X11_bits at h
  refine J_iconst hX (0 : Int32) dX11_bits_0 ic_0 ?_
  refine J_istore_n hX [(1, .int (0 : Int32)), (0, .int x0)] dX11_bits_1 rfl (by decide) rfl ?_
  refine J_iconst hX (0 : Int32) dX11_bits_2 ic_0 ?_
  refine J_istore_n hX [(2, .int (0 : Int32)), (1, .int (0 : Int32)), (0, .int x0)] dX11_bits_3 rfl (by decide) rfl ?_
  refine J_sub [(0, .int x0), (1, .int (0 : Int32)), (2, .int (0 : Int32))] [2, 1, 0] rfl ?_
  exact t_X11_bits_L4 hX hd0 hn hF FU x0 (0 : Int32) (0 : Int32)  m h
theorem c_X11_bits {G : GG} {l : Launch} {ρ : Nat → Nat} {n t u w v : Nat} {x : Option Nat} (hn : 126 ≤ n) {x0 : Int32} {m : Mm} {rE : Int32} {mE : Mm} (h : f_X11_bits x0 m = some (rE, mE)) : CT G l yX11_bits cX11_bits 3 (some .int) 0 0 0 ρ n (RT t u w v x) [.int x0] m (some (.int rE)) (RT t u w v x) mE := ct_of_J (by decide) rfl (Nat.le_of_ble_eq_true rfl) (fun X hX e1 e2 e3 e4 hQ hr hl => t_X11_bits hX (Nat.le_refl _) hn ⟨by rw [hQ, e3, e4], hr, hl⟩ h)
theorem t_X11_draws {X : XX} {G : GG} {ρ : Nat → Nat} {n t u w v : Nat} {x : Option Nat} {d : Nat} (hX : Ok X G ρ cX11_draws 2 RX11 d) (hd0 : 0 ≤ d) (hn : 126 ≤ n) {rE : Int32} {mE : Mm} (hF : Fin' X G ρ n (some .int) (some (.int rE)) (RT t u w v x) mE) {x1 : Int32} {m : Mm} (h : f_X11_draws x1 m = some (rE, mE)) : J X G ρ n 2 0 [(0, .ref 78), (1, .int x1)] [] (RT t u w v x) m := by
  unfold f_X11_draws at h
  refine J_aload_n hX dX11_draws_0 rfl 0 rfl ?_
  refine J_aload_n hX dX11_draws_1 rfl 0 rfl ?_
  refine J_getL hX dX11_draws_2 fl_RX11_484 (ltn ltc_78 hn) lo_78 rfl ?_
  refine J_ldc2 hX (1103515245 : Int64) dX11_draws_5 k_RX11_487 ?_
  refine J_lmul hX dX11_draws_8 ?_
  refine J_ldc2 hX (12345 : Int64) dX11_draws_9 k_RX11_489 ?_
  refine J_ladd hX dX11_draws_12 ?_
  refine J_ldc2 hX (2147483648 : Int64) dX11_draws_13 k_RX11_491 ?_
  refine J_lrem0 hX dX11_draws_16 (by decide) ?_
  refine J_putL hX dX11_draws_17 pl_RX11_484 (ltn ltc_78 hn) lo_78 rfl h (fun m1 h => ?_)
  refine J_aload_n hX dX11_draws_20 rfl 0 rfl ?_
  refine J_getL hX dX11_draws_21 fl_RX11_484 (ltn ltc_78 hn) lo_78 rfl ?_
  refine J_ldc2 hX (65536 : Int64) dX11_draws_24 k_RX11_493 ?_
  refine J_ldiv0 hX dX11_draws_27 (by decide) ?_
  refine J_iload_n hX dX11_draws_28 rfl 1 rfl ?_
  refine J_i2l hX dX11_draws_29 ?_
  refine J_lrem hX dX11_draws_30 h (fun h => ?_)
  refine J_l2i hX dX11_draws_31 ?_
  exact J_ireturn hX dX11_draws_32 h hF rfl
theorem c_X11_draws {G : GG} {l : Launch} {ρ : Nat → Nat} {n t u w v : Nat} {x : Option Nat} (hn : 126 ≤ n) {x1 : Int32} {m : Mm} {rE : Int32} {mE : Mm} (h : f_X11_draws x1 m = some (rE, mE)) : CT G l yX11_draws cX11_draws 2 (some .int) 0 0 0 ρ n (RT t u w v x) [.ref 78, .int x1] m (some (.int rE)) (RT t u w v x) mE := ct_of_J (by decide) rfl (Nat.le_of_ble_eq_true rfl) (fun X hX e1 e2 e3 e4 hQ hr hl => t_X11_draws hX (Nat.le_refl _) hn ⟨by rw [hQ, e3, e4], hr, hl⟩ h)
theorem t_X11_lives_J66 {X : XX} {G : GG} {ρ : Nat → Nat} {n t u w v : Nat} {x : Option Nat} {d : Nat} (hX : Ok X G ρ cX11_lives 3 RX11 d) (hd0 : 4 ≤ d) (hn : 126 ≤ n) {mE : Mm} (hF : Fin' X G ρ n none none (RT t u w v x) mE) (s0 : Int32) (m : Mm) (h : f_X11_lives_J66 s0 m = some mE) : J X G ρ n 3 66 [(0, .ref 78)] [.int s0, .ref 78] (RT t u w v x) m := by
  unfold f_X11_lives_J66 at h
  refine J_aload_n hX dX11_lives_66 rfl 0 rfl ?_
  refine J_aload_n hX dX11_lives_67 rfl 0 rfl ?_
  refine J_getR hX dX11_lives_68 fl_RX11_13 (ltn ltc_78 hn) lo_78 rfl (rt_78_10 _ _ _ _ _) ?_
  refine J_iconst hX (0 : Int32) dX11_lives_71 ic_0 ?_
  refine J_iaload0 hX dX11_lives_72 (ltn ltc_80 hn) lay_80 (by decide) ?_
  obtain ⟨r8, m7, h0, h⟩ := bd2_some h
  refine J_callVi (As := [.int (gI m 80 (ix (0 : Int32)))]) (st := [.int s0, .ref 78]) hX dX11_lives_73 cw_RX11_495 (by omega) (c_X11_draws hn  h0) (ltn ltc_78 hn) lo_78 (by decide) rfl rfl rfl (Nat.le_of_ble_eq_true rfl) ?_
  clear h0
  refine J_iconst hX (0 : Int32) dX11_lives_76 ic_0 ?_
  obtain ⟨r10, m9, h0, h⟩ := bd2_some h
  refine J_callVi (As := [.int s0, .int r8, .int (0 : Int32)]) (st := []) hX dX11_lives_77 cw_RX11_422 (by omega) (c_X11_isDone hn  h0) (ltn ltc_78 hn) lo_78 (by decide) rfl rfl rfl (Nat.le_of_ble_eq_true rfl) ?_
  clear h0
  refine J_pop hX dX11_lives_80 rfl ?_
  refine J_goto hX 96 dX11_lives_81 (by decide) ?_
  exact J_return hX dX11_lives_96 h hF
theorem t_X11_lives {X : XX} {G : GG} {ρ : Nat → Nat} {n t u w v : Nat} {x : Option Nat} {d : Nat} (hX : Ok X G ρ cX11_lives 3 RX11 d) (hd0 : 4 ≤ d) (hn : 126 ≤ n) {mE : Mm} (hF : Fin' X G ρ n none none (RT t u w v x) mE) {m : Mm} (h : f_X11_lives m = some mE) : J X G ρ n 3 0 [(0, .ref 78)] [] (RT t u w v x) m := by
  unfold f_X11_lives at h
  refine J_aload_n hX dX11_lives_0 rfl 0 rfl ?_
  refine J_bipush hX (8 : Int32) dX11_lives_1 (by decide) ?_
  obtain ⟨r2, m1, h0, h⟩ := bd2_some h
  refine J_callVi (As := [.int (8 : Int32)]) (st := []) hX dX11_lives_3 cw_RX11_495 (by omega) (c_X11_draws hn  h0) (ltn ltc_78 hn) lo_78 (by decide) rfl rfl rfl (Nat.le_of_ble_eq_true rfl) ?_
  clear h0
  refine J_istore_n hX [(1, .int r2), (0, .ref 78)] dX11_lives_6 rfl (by decide) rfl ?_
  refine J_iload_n hX dX11_lives_7 rfl 0 rfl ?_
  refine J_iconst hX (5 : Int32) dX11_lives_8 ic_5 ?_
  refine J_icmp_ge hX 49 dX11_lives_9 (by decide) h (fun c h => ?_) (fun c h => ?_)
  · refine J_aload_n hX dX11_lives_12 rfl 1 rfl ?_
    refine J_aload_n hX dX11_lives_13 rfl 1 rfl ?_
    refine J_getR hX dX11_lives_14 fl_RX11_98 (ltn ltc_78 hn) lo_78 rfl (rt_78_41 _ _ _ _ _) ?_
    refine J_iconst hX (0 : Int32) dX11_lives_17 ic_0 ?_
    refine J_iaload0 hX dX11_lives_18 (ltn ltc_108 hn) lay_108 (by decide) ?_
    obtain ⟨r12, m11, h0, h⟩ := bd2_some h
    refine J_callVi (As := [.int (gI m1 108 (ix (0 : Int32)))]) (st := []) hX dX11_lives_19 cw_RX11_495 (by omega) (c_X11_draws hn  h0) (ltn ltc_78 hn) lo_78 (by decide) rfl rfl rfl (Nat.le_of_ble_eq_true rfl) ?_
    clear h0
    refine J_istore_n hX [(2, .int r12), (1, .int r2), (0, .ref 78)] dX11_lives_22 rfl (by decide) rfl ?_
    refine J_aload_n hX dX11_lives_23 rfl 2 rfl ?_
    refine J_iload_n hX dX11_lives_24 rfl 1 rfl ?_
    refine J_iconst hX (3 : Int32) dX11_lives_25 ic_3 ?_
    refine J_icmp_ge hX 33 dX11_lives_26 (by decide) h (fun c h => ?_) (fun c h => ?_)
    · refine J_iconst hX (0 : Int32) dX11_lives_29 ic_0 ?_
      refine J_goto hX 34 dX11_lives_30 (by decide) ?_
      refine J_iload_n hX dX11_lives_34 rfl 0 rfl ?_
      refine J_aload_n hX dX11_lives_35 rfl 2 rfl ?_
      refine J_sipush hX (256 : Int32) dX11_lives_36 (by decide) ?_
      obtain ⟨r18, m17, h0, h⟩ := bd2_some h
      refine J_callVi (As := [.int (256 : Int32)]) (st := [.int r12, .int (0 : Int32), .ref 78]) hX dX11_lives_39 cw_RX11_495 (by omega) (c_X11_draws hn  h0) (ltn ltc_78 hn) lo_78 (by decide) rfl rfl rfl (Nat.le_of_ble_eq_true rfl) ?_
      clear h0
      obtain ⟨r20, m19, h0, h⟩ := bd2_some h
      refine J_callVi (As := [.int (0 : Int32), .int r12, .int r18]) (st := []) hX dX11_lives_42 cw_RX11_422 (by omega) (c_X11_isDone hn  h0) (ltn ltc_78 hn) lo_78 (by decide) rfl rfl rfl (Nat.le_of_ble_eq_true rfl) ?_
      clear h0
      refine J_pop hX dX11_lives_45 rfl ?_
      refine J_goto hX 96 dX11_lives_46 (by decide) ?_
      exact J_return hX dX11_lives_96 h hF
    · refine J_iconst hX (1 : Int32) dX11_lives_33 ic_1 ?_
      refine J_iload_n hX dX11_lives_34 rfl 0 rfl ?_
      refine J_aload_n hX dX11_lives_35 rfl 2 rfl ?_
      refine J_sipush hX (256 : Int32) dX11_lives_36 (by decide) ?_
      obtain ⟨r14, m13, h0, h⟩ := bd2_some h
      refine J_callVi (As := [.int (256 : Int32)]) (st := [.int r12, .int (1 : Int32), .ref 78]) hX dX11_lives_39 cw_RX11_495 (by omega) (c_X11_draws hn  h0) (ltn ltc_78 hn) lo_78 (by decide) rfl rfl rfl (Nat.le_of_ble_eq_true rfl) ?_
      clear h0
      obtain ⟨r16, m15, h0, h⟩ := bd2_some h
      refine J_callVi (As := [.int (1 : Int32), .int r12, .int r14]) (st := []) hX dX11_lives_42 cw_RX11_422 (by omega) (c_X11_isDone hn  h0) (ltn ltc_78 hn) lo_78 (by decide) rfl rfl rfl (Nat.le_of_ble_eq_true rfl) ?_
      clear h0
      refine J_pop hX dX11_lives_45 rfl ?_
      refine J_goto hX 96 dX11_lives_46 (by decide) ?_
      exact J_return hX dX11_lives_96 h hF
  · refine J_iload_n hX dX11_lives_49 rfl 0 rfl ?_
    refine J_bipush hX (7 : Int32) dX11_lives_50 (by decide) ?_
    refine J_icmp_ge hX 84 dX11_lives_52 (by decide) h (fun c h => ?_) (fun c h => ?_)
    · refine J_aload_n hX dX11_lives_55 rfl 1 rfl ?_
      refine J_iload_n hX dX11_lives_56 rfl 0 rfl ?_
      refine J_iconst hX (5 : Int32) dX11_lives_57 ic_5 ?_
      refine J_icmp_ne hX 65 dX11_lives_58 (by decide) h (fun c h => ?_) (fun c h => ?_)
      · refine J_iconst hX (2 : Int32) dX11_lives_61 ic_2 ?_
        refine J_goto hX 66 dX11_lives_62 (by decide) ?_
        refine J_sub [(0, .ref 78)] [1] rfl ?_
        exact t_X11_lives_J66 hX hd0 hn hF  (2 : Int32) m1 h
      · refine J_iconst hX (3 : Int32) dX11_lives_65 ic_3 ?_
        refine J_sub [(0, .ref 78)] [1] rfl ?_
        exact t_X11_lives_J66 hX hd0 hn hF  (3 : Int32) m1 h
    · refine J_aload_n hX dX11_lives_84 rfl 1 rfl ?_
      refine J_aload_n hX dX11_lives_85 rfl 1 rfl ?_
      refine J_iconst hX (4 : Int32) dX11_lives_86 ic_4 ?_
      obtain ⟨r4, m3, h0, h⟩ := bd2_some h
      refine J_callVi (As := [.int (4 : Int32)]) (st := [.ref 78]) hX dX11_lives_87 cw_RX11_495 (by omega) (c_X11_draws hn  h0) (ltn ltc_78 hn) lo_78 (by decide) rfl rfl rfl (Nat.le_of_ble_eq_true rfl) ?_
      clear h0
      refine J_iconst hX (1 : Int32) dX11_lives_90 ic_1 ?_
      refine J_iadd hX dX11_lives_91 ?_
      obtain ⟨r6, m5, h0, h⟩ := bd2_some h
      refine J_callVi (As := [.int (r4 + (1 : Int32))]) (st := []) hX dX11_lives_92 cw_RX11_412 (by omega) (c_X11_rebuilds hn  h0) (ltn ltc_78 hn) lo_78 (by decide) rfl rfl rfl (Nat.le_of_ble_eq_true rfl) ?_
      clear h0
      refine J_pop hX dX11_lives_95 rfl ?_
      exact J_return hX dX11_lives_96 h hF
theorem c_X11_lives {G : GG} {l : Launch} {ρ : Nat → Nat} {n t u w v : Nat} {x : Option Nat} (hn : 126 ≤ n) {m : Mm} {mE : Mm} (h : f_X11_lives m = some mE) : CT G l yX11_lives cX11_lives 3 none 4 0 0 ρ n (RT t u w v x) [.ref 78] m none (RT t u w v x) mE := ct_of_J (by decide) rfl (Nat.le_of_ble_eq_true rfl) (fun X hX e1 e2 e3 e4 hQ hr hl => t_X11_lives hX (Nat.le_refl _) hn ⟨by rw [hQ, e3, e4], hr, hl⟩ h)
theorem t_X11_withStatus_L17 {X : XX} {G : GG} {ρ : Nat → Nat} {n t u w v : Nat} {x : Option Nat} {d : Nat} (hX : Ok X G ρ cX11_withStatus 5 RX11 d) (hd0 : 0 ≤ d) (hn : 126 ≤ n) {rE : Int32} {mE : Mm} (hF : Fin' X G ρ n (some .int) (some (.int rE)) (RT t u w v x) mE) {v1 : Int32} {v3 : Int32} {K : Int32 → Mm → Option (Int32 × Mm)} (hK : ∀ (w2 : Int32) (m : Mm), K w2 m = some (rE, mE) → J X G ρ n 5 60 [(0, .ref 78), (1, .int v1), (2, .int w2), (3, .int v3)] [] (RT t u w v x) m) : ∀ (k : Nat) (v2 : Int32) (v4 : Int32) (m : Mm), f_X11_withStatus_L17 v1 v3 K k v2 v4 m = some (rE, mE) → J X G ρ n 5 17 [(0, .ref 78), (1, .int v1), (2, .int v2), (3, .int v3), (4, .int v4)] [] (RT t u w v x) m := by
  intro k
  induction k with
  | zero => intro _ _ _ h; rw [f_X11_withStatus_L17] at h; cases h
  | succ k ih =>
    intro v2 v4 m h
    rw [f_X11_withStatus_L17] at h
    refine J_iload hX dX11_withStatus_17 4 rfl ?_
    refine J_aload_n hX dX11_withStatus_19 rfl 0 rfl ?_
    refine J_getR hX dX11_withStatus_20 fl_RX11_74 (ltn ltc_78 hn) lo_78 rfl (rt_78_33 _ _ _ _ _) ?_
    refine J_iload_n hX dX11_withStatus_23 rfl 3 rfl ?_
    refine J_iaload hX dX11_withStatus_24 (ltn ltc_100 hn) lay_100 h (fun h => ?_)
    refine J_icmp_ge hX 60 dX11_withStatus_25 (by decide) h (fun c h => ?_) (fun c h => ?_)
    · refine J_iload_n hX dX11_withStatus_28 rfl 2 rfl ?_
      refine J_aload_n hX dX11_withStatus_29 rfl 0 rfl ?_
      refine J_getR hX dX11_withStatus_30 fl_RX11_125 (ltn ltc_78 hn) lo_78 rfl (rt_78_50 _ _ _ _ _) ?_
      refine J_bipush hX (14 : Int32) dX11_withStatus_33 (by decide) ?_
      refine J_iconst hX (5 : Int32) dX11_withStatus_35 ic_5 ?_
      refine J_iload_n hX dX11_withStatus_36 rfl 3 rfl ?_
      refine J_imul hX dX11_withStatus_37 ?_
      refine J_iadd hX dX11_withStatus_38 ?_
      refine J_iload hX dX11_withStatus_39 4 rfl ?_
      refine J_iadd hX dX11_withStatus_41 ?_
      refine J_iaload hX dX11_withStatus_42 (ltn ltc_117 hn) lay_117 h (fun h => ?_)
      refine J_iload_n hX dX11_withStatus_43 rfl 1 rfl ?_
      refine J_icmp_ne hX 51 dX11_withStatus_44 (by decide) h (fun c h => ?_) (fun c h => ?_)
      · refine J_iconst hX (1 : Int32) dX11_withStatus_47 ic_1 ?_
        refine J_goto hX 52 dX11_withStatus_48 (by decide) ?_
        refine J_iadd hX dX11_withStatus_52 ?_
        refine J_istore_n hX [(2, .int (v2 + (1 : Int32))), (0, .ref 78), (1, .int v1), (3, .int v3), (4, .int v4)] dX11_withStatus_53 rfl (by decide) rfl ?_
        refine J_iinc hX (v4 + (1 : Int32)) [(4, .int (v4 + (1 : Int32))), (2, .int (v2 + (1 : Int32))), (0, .ref 78), (1, .int v1), (3, .int v3)] dX11_withStatus_54 4 rfl (congrArg (fun z => v4 + z) ic_1) (by decide) rfl ?_
        refine J_goto hX 17 dX11_withStatus_57 (by decide) ?_
        refine J_sub [(0, .ref 78), (1, .int v1), (2, .int (v2 + (1 : Int32))), (3, .int v3), (4, .int (v4 + (1 : Int32)))] [2, 3, 1, 4, 0] rfl ?_
        exact ih (v2 + (1 : Int32)) (v4 + (1 : Int32)) m h
      · refine J_iconst hX (0 : Int32) dX11_withStatus_51 ic_0 ?_
        refine J_iadd hX dX11_withStatus_52 ?_
        refine J_istore_n hX [(2, .int (v2 + (0 : Int32))), (0, .ref 78), (1, .int v1), (3, .int v3), (4, .int v4)] dX11_withStatus_53 rfl (by decide) rfl ?_
        refine J_iinc hX (v4 + (1 : Int32)) [(4, .int (v4 + (1 : Int32))), (2, .int (v2 + (0 : Int32))), (0, .ref 78), (1, .int v1), (3, .int v3)] dX11_withStatus_54 4 rfl (congrArg (fun z => v4 + z) ic_1) (by decide) rfl ?_
        refine J_goto hX 17 dX11_withStatus_57 (by decide) ?_
        refine J_sub [(0, .ref 78), (1, .int v1), (2, .int (v2 + (0 : Int32))), (3, .int v3), (4, .int (v4 + (1 : Int32)))] [2, 3, 1, 4, 0] rfl ?_
        exact ih (v2 + (0 : Int32)) (v4 + (1 : Int32)) m h
    · refine J_sub [(0, .ref 78), (1, .int v1), (2, .int v2), (3, .int v3)] [0, 1, 2, 3] rfl ?_
      exact hK v2 m h
theorem t_X11_withStatus_L4 {X : XX} {G : GG} {ρ : Nat → Nat} {n t u w v : Nat} {x : Option Nat} {d : Nat} (hX : Ok X G ρ cX11_withStatus 5 RX11 d) (hd0 : 0 ≤ d) (hn : 126 ≤ n) {rE : Int32} {mE : Mm} (hF : Fin' X G ρ n (some .int) (some (.int rE)) (RT t u w v x) mE) : ∀ (k : Nat) (v1 : Int32) (v2 : Int32) (v3 : Int32) (m : Mm), f_X11_withStatus_L4 k v1 v2 v3 m = some (rE, mE) → J X G ρ n 5 4 [(0, .ref 78), (1, .int v1), (2, .int v2), (3, .int v3)] [] (RT t u w v x) m := by
  intro k
  induction k with
  | zero => intro _ _ _ _ h; rw [f_X11_withStatus_L4] at h; cases h
  | succ k ih =>
    intro v1 v2 v3 m h
    rw [f_X11_withStatus_L4] at h
    refine J_iload_n hX dX11_withStatus_4 rfl 3 rfl ?_
    refine J_aload_n hX dX11_withStatus_5 rfl 0 rfl ?_
    refine J_getR hX dX11_withStatus_6 fl_RX11_71 (ltn ltc_78 hn) lo_78 rfl (rt_78_32 _ _ _ _ _) ?_
    refine J_iconst hX (0 : Int32) dX11_withStatus_9 ic_0 ?_
    refine J_iaload0 hX dX11_withStatus_10 (ltn ltc_99 hn) lay_99 (by decide) ?_
    refine J_icmp_ge hX 66 dX11_withStatus_11 (by decide) h (fun c h => ?_) (fun c h => ?_)
    · refine J_iconst hX (0 : Int32) dX11_withStatus_14 ic_0 ?_
      refine J_istore hX [(4, .int (0 : Int32)), (0, .ref 78), (1, .int v1), (2, .int v2), (3, .int v3)] dX11_withStatus_15 (by decide) rfl ?_
      refine J_sub [(0, .ref 78), (1, .int v1), (2, .int v2), (3, .int v3), (4, .int (0 : Int32))] [1, 2, 3, 4, 0] rfl ?_
      refine t_X11_withStatus_L17 hX hd0 hn hF (fun w1 m2 h => ?_) FU v2 (0 : Int32) m h
      refine J_iinc hX (v3 + (1 : Int32)) [(3, .int (v3 + (1 : Int32))), (0, .ref 78), (1, .int v1), (2, .int w1)] dX11_withStatus_60 3 rfl (congrArg (fun z => v3 + z) ic_1) (by decide) rfl ?_
      refine J_goto hX 4 dX11_withStatus_63 (by decide) ?_
      refine J_sub [(0, .ref 78), (1, .int v1), (2, .int w1), (3, .int (v3 + (1 : Int32)))] [1, 2, 3, 0] rfl ?_
      exact ih v1 w1 (v3 + (1 : Int32)) m2 h
    · refine J_iload_n hX dX11_withStatus_66 rfl 2 rfl ?_
      exact J_ireturn hX dX11_withStatus_67 h hF rfl
theorem t_X11_withStatus {X : XX} {G : GG} {ρ : Nat → Nat} {n t u w v : Nat} {x : Option Nat} {d : Nat} (hX : Ok X G ρ cX11_withStatus 5 RX11 d) (hd0 : 0 ≤ d) (hn : 126 ≤ n) {rE : Int32} {mE : Mm} (hF : Fin' X G ρ n (some .int) (some (.int rE)) (RT t u w v x) mE) {x1 : Int32} {m : Mm} (h : f_X11_withStatus x1 m = some (rE, mE)) : J X G ρ n 5 0 [(0, .ref 78), (1, .int x1)] [] (RT t u w v x) m := by
  unfold f_X11_withStatus at h
  refine J_iconst hX (0 : Int32) dX11_withStatus_0 ic_0 ?_
  refine J_istore_n hX [(2, .int (0 : Int32)), (0, .ref 78), (1, .int x1)] dX11_withStatus_1 rfl (by decide) rfl ?_
  refine J_iconst hX (0 : Int32) dX11_withStatus_2 ic_0 ?_
  refine J_istore_n hX [(3, .int (0 : Int32)), (2, .int (0 : Int32)), (0, .ref 78), (1, .int x1)] dX11_withStatus_3 rfl (by decide) rfl ?_
  refine J_sub [(0, .ref 78), (1, .int x1), (2, .int (0 : Int32)), (3, .int (0 : Int32))] [2, 3, 1, 0] rfl ?_
  exact t_X11_withStatus_L4 hX hd0 hn hF FU x1 (0 : Int32) (0 : Int32)  m h
theorem c_X11_withStatus {G : GG} {l : Launch} {ρ : Nat → Nat} {n t u w v : Nat} {x : Option Nat} (hn : 126 ≤ n) {x1 : Int32} {m : Mm} {rE : Int32} {mE : Mm} (h : f_X11_withStatus x1 m = some (rE, mE)) : CT G l yX11_withStatus cX11_withStatus 5 (some .int) 0 0 0 ρ n (RT t u w v x) [.ref 78, .int x1] m (some (.int rE)) (RT t u w v x) mE := ct_of_J (by decide) rfl (Nat.le_of_ble_eq_true rfl) (fun X hX e1 e2 e3 e4 hQ hr hl => t_X11_withStatus hX (Nat.le_refl _) hn ⟨by rw [hQ, e3, e4], hr, hl⟩ h)
